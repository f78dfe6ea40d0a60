/-! a row of rows is made -/
theorem outer_row (c : ClassId) (N h0 i : Nat) : Jvm.Free.Multi.outerC c N h0 i = arrV c N (fun j => va_rf (if j < i then some (h0 + 1 + j) else none)) := by
  induction i with
  | zero =>
    refine (arrV_new c N .null).trans (congrArg (arrV c N) (funext fun j => ?_))
    rw [if_neg (Nat.not_lt_zero j)]
    rfl
  | succ i ih =>
    have h : Jvm.Free.Multi.outerC c N h0 (i + 1) = (Jvm.Free.Multi.outerC c N h0 i).setSlot i (.ref (h0 + 1 + i)) := rfl
    rw [h, ih, arrV_store]
    refine congrArg (arrV c N) (funext fun j => ?_)
    by_cases e : j = i
    · subst e
      simp [updV, va_rf]
    · by_cases q : j < i
      · simp [updV, e, q, Nat.lt_succ_of_lt q]
      · simp [updV, e, q, show ¬ j < i + 1 by omega]
section NEWS3
variable {G : Gl} {y : Md} {d mc ms ce sl pc : Nat} {lo : List (Nat × Value)} {st : List Value} {X : Sh} {M : Mm} {Q : Sh → Mm → Option Value → Prop}
theorem wp_mna {idx N K : Nat} {n k : Int32} (hd : decode y.2.1 pc = .ok (.multianewarray idx 2, 4)) (hw : Cond.classLink y.1.cls idx "[[I" ∈ GW) (hn : n = nI N) (hk : k = nI K) (hN : N ≤ 1000) (hK0 : K ≤ 1000) (h1 : ce + (1 + N) ≤ mc) (h2 : sl + (N + N * K) ≤ ms) (hz0 : ∀ a j, xz X ≤ a → mI M a j = 0) (kk : Wp G y d mc ms (ce + (1 + N)) (sl + (N + N * K)) (pc + 4) lo (.ref (xz X) :: st) (xMna X N K) M Q) : Wp G y d mc ms ce sl pc lo (.int k :: .int n :: st) X M Q := by
  intro p l e s m args below meth c H locs ls hC hR hz hS hl
  refine W.sized (fun hsz => ?_)
  have hs2 := hR.size hz hC.2.2.2.2.2.2.2.2.2.2 hS hsz
  have hKA := hC.2.2.2.2.2.2.2.1.1
  have hts := hC.2.2.2.2.2.2.1
  have cln : (nI N).toNatClampNeg = N := nI_clamp (by omega)
  have clk : (nI K).toNatClampNeg = K := nI_clamp (by omega)
  subst hn hk
  have hcl : (Cond.classLink y.1.cls idx ("[" ++ (FieldType.array .int).toString)).before args s = true := by
    have e : "[" ++ (FieldType.array .int).toString = "[[I" := by decide +kernel
    rw [e]
    exact hts _ hw
  intro T hT Xs
  obtain ⟨vm₁, cA, comp, -, fA, fC, hO, -, X', step⟩ := Jvm.Stand.multianewarray2F Xs hC.1 hC.2.2.2.2.2.1 hcl (AOA.use hC.2.2.2.2.2.2.2.1.2.2.2.2.2.2) (hts _ ac_int) (g := F0 m pc ls (.int (nI K) :: .int (nI N) :: st)) rfl (by rw [hC.2.1]; exact hd) rfl (nI_pos (by omega)) (nI_pos (by omega)) (by rw [cln]; omega) (by rw [clk]; show K * 4 ≤ 536870912; omega) (by rw [clk]; omega) rfl rfl (by rw [cln]; exact h1) (by rw [cln, clk]; exact h2)
  have ec : comp = G.2 0 := Option.some.inj (fC.symm.trans (hKA.2 0 _ rfl).2)
  have eA : cA = G.2 6 := Option.some.inj (fA.symm.trans (hKA.2 6 _ rfl).2)
  subst ec eA
  rw [cln, clk] at X' step
  generalize hF : Jvm.Free.Multi.fill (T.setVm vm₁) (G.2 6) (G.2 0) N K (defaultValue .int) N = F at X' step
  have hTh : (T.setVm vm₁).heap = H := hT
  obtain ⟨f1, f2, -, -⟩ := Jvm.Free.Multi.fill_facts (T.setVm vm₁) (G.2 6) (G.2 0) N K (defaultValue .int) N
  rw [hF, hTh, hs2] at f1 f2
  have hold : ∀ x : Nat, x < xz X → F.heap[x]? = H[x]? := fun x hx => by
    have := Jvm.Free.Multi.fill_old (T.setVm vm₁) (G.2 6) (G.2 0) N K (defaultValue .int) (a := x) (by rw [hTh, hs2]; exact hx) N
    rw [hF, hTh] at this
    exact this
  have hrow : ∀ j : Nat, j < N → F.heap[xz X + 1 + j]? = some (vp_cell (G.2 0) (K, .inl (fun _ => 0))) := fun j hj => by
    have := Jvm.Free.Multi.fill_inner (T.setVm vm₁) (G.2 6) (G.2 0) N K (defaultValue .int) N j hj
    rw [hF, hTh, hs2] at this
    rw [this]
    show some (Jvm.Free.Multi.innerC (G.2 0) K (.int 0)) = some (arrV (G.2 0) K (fun _ => .int 0))
    exact congrArg some (arrV_new (G.2 0) K (.int 0))
  have hout : Jvm.Free.Multi.outerC (G.2 6) N (xz X) N = vp_cell (G.2 6) (N, .inr (.inr (.inr (.inr (fun i => if i < N then some (xz X + 1 + i) else none))))) := by
    rw [vp_cell_q]
    exact outer_row (G.2 6) N (xz X) N
  rw [hout] at f2
  have kz : xK (xMna X N K) (xz X) = 17 := if_pos rfl
  have kr : ∀ a, xz X < a → a < xz X + 1 + N → xK (xMna X N K) a = 11 := fun a a1 a2 => (if_neg (by omega)).trans (if_pos ⟨a1, a2⟩)
  have ko : ∀ a, a < xz X ∨ xz X + 1 + N ≤ a → xK (xMna X N K) a = xK X a := fun a ha => (if_neg (by omega)).trans (if_neg (by omega))
  have hR1 : Rel G (xMna X N K) M F.heap := by
    refine hR.grow (by show xz X ≤ xz X + 1 + N; omega) (fun a => ?_) (fun a ha => ?_) hold (fun a a1 a2 => ?_)
    · show _ ↔ G.2 7 ≤ a ∧ a < xz X + 1 + N
      have h7 := hR.1
      by_cases q1 : a = xz X
      · rw [q1, kz]
        exact ⟨fun _ => ⟨h7, by omega⟩, fun _ => by decide⟩
      · by_cases q2 : xz X < a ∧ a < xz X + 1 + N
        · rw [kr a q2.1 q2.2]
          exact ⟨fun _ => ⟨by omega, q2.2⟩, fun _ => by decide⟩
        · rw [ko a (by omega), hR.2.1 a]
          omega
    · have e1 := ko a (Or.inl ha)
      have e2 : xN (xMna X N K) a = xN X a := (if_neg (by omega)).trans (if_neg (by omega))
      have e3 : xF (xMna X N K) a = xF X a := if_neg (by omega)
      have e4 : fVal (xMna X N K) M (xK X a) a = fVal X M (xK X a) a := by
        funext j
        unfold fVal
        rw [e3]
      unfold ent eObj
      rw [e1, e2, e3, e4]
    · have a2 : a < xz X + 1 + N := a2
      by_cases q1 : a = xz X
      · subst q1
        rw [ent_f (X := xMna X N K) (a := xz X) (t := 17) kz (by decide), show xN (xMna X N K) (xz X) = N from if_pos rfl, show xF (xMna X N K) (xz X) = (fun i => if i < N then some (xz X + 1 + i) else none) from if_pos rfl]
        exact f2
      · rw [ent_i (X := xMna X N K) (a := a) (kr a (by omega) a2), show xN (xMna X N K) a = K from (if_neg q1).trans (if_pos ⟨by omega, a2⟩), show mI M a = fun _ => 0 from funext (fun j => hz0 a j a1)]
        have := hrow (a - (xz X + 1)) (by omega)
        rw [show xz X + 1 + (a - (xz X + 1)) = a by omega] at this
        exact this
  rw [← Nat.add_assoc ce 1 N, ← Nat.add_assoc sl N (N * K)] at kk
  obtain ⟨t, a1, b1⟩ := kk p l e s m args below meth c F.heap locs ls hC hR1 (by show xz X + 1 + N = _; omega) ⟨by rw [f1]; omega, fun x g1 g2 => (hold x (by omega)).trans (hS.2.1 x g1 g2), hS.2.2⟩ hl F rfl X'
  refine ⟨t, step t ?_, b1⟩
  have e : T.heap.size = xz X := by rw [hT, hs2]
  rw [e]
  exact a1
end NEWS3
