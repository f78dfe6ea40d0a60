/-! the law's frame: from a walk over the flat world to the law's own end -/
theorem room_le {s : State} {pl : Platform} {r r2 : Room} (h : s.hasRoom pl r = true) (h1 : r2.frames ≤ r.frames) (h2 : r2.cells ≤ r.cells) (h3 : r2.slots ≤ r.slots) (h4 : r2.locals ≤ r.locals) : s.hasRoom pl r2 = true := by
  simp only [State.hasRoom, Bool.and_eq_true, decide_eq_true_eq] at h ⊢
  obtain ⟨⟨⟨⟨a, b1, b2, b3, b4, b5⟩, c⟩, e⟩, f⟩ := h
  exact ⟨⟨⟨⟨by omega, by omega, by omega, by omega, by omega, b5⟩, by omega⟩, by omega⟩, f⟩
/-- a walk that comes to its end with 1 is the law's -/
theorem law_of {G : Gl} {Q : Sh → Mm → Option Value → Prop} {p : Program} {l : Launch} {e : Env} {s : State} {m : MethodId} {args : Array Value} {below : List Frame} {meth : Method} {c : Code} {H : Heap} {locs : List Loc} {ce sl d mc ms : Nat} {g : JFrame} (k : W p l e (rmd d mc ms) s m args below meth c H locs ce sl (MQ below (Qm G Q) args s mc ms (AA G)) g) (hd : d ≤ 2048) (hmc : mc ≤ 600000) (hms : ms ≤ 7302250) (hA : s.heap.size ≤ G.2 7) (hQ : ∀ X M v, Q X M v → v = some (.int 1)) : W p l e room_1 s m args below meth c H locs ce sl (fun t => ∃ o, t.status = .running ∧ Ended t below o ∧ (o = .returned (some (.int 1)) ∧ Framed s o t [] 600000 7302250)) g := by
  intro T hT X
  obtain ⟨t, a1, oc, h1, h2, ⟨⟨v, X1, M1, ho, hq, _⟩, _⟩, L, hF, hL⟩ := k T hT { X with room := room_le X.room (by show d ≤ 2048; exact hd) (by show mc ≤ 600000; exact hmc) (by show ms ≤ 7302250; exact hms) (by show 40 * d ≤ 84000; omega) }
  refine ⟨t, a1, oc, h1, h2, ?_, ?_⟩
  · rw [ho, hQ _ _ _ hq]
  · obtain ⟨f1, f2, f3⟩ := hF
    exact ⟨f1, f2, f3.weaken (fun y hy hlt => absurd hlt (Nat.not_lt.mpr (Nat.le_trans hA (hL y hy)))) hmc hms⟩
/-- the method of the law, its name as the machine has it -/
abbrev mLaw (nm : String) : Md := (⟨"BurdenHouseLaw", nm, ""⟩, code, 4, ret)
