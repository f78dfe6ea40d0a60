/-! a row of rows is made: the machine's own 'make' walked, by a picture of the heap after each of its rows -/
section MNA
variable {p : Program} {l : Launch} {e : Env} {R : Room} {s : State} {m : MethodId} {args : Array Value} {below : List Frame} {meth : Method} {c : Code} {locs : List Loc} {cells slots : Nat}
/-- the outer row, with the first i of its rows there -/
def mn_row (cA : ClassId) (N h i : Nat) : Jvm.Cell := arrV cA N (fun j => va_rf (if j < i then some (h + 1 + j) else none))
/-- the heap: H, behind it the outer row and the first i rows of K zeros -/
def mn_hp (cA cI : ClassId) (N K : Nat) (H : Heap) (i : Nat) (H1 : Heap) : Prop :=
  H1.size = H.size + 1 + i ∧ (∀ x : Nat, x < H.size → H1[x]? = H[x]?) ∧ H1[H.size]? = some (mn_row cA N H.size i) ∧ ∀ j : Nat, j < i → H1[H.size + 1 + j]? = some (arrV cI K (fun _ => .int 0))
theorem mn_row_next (cA : ClassId) (N h i : Nat) : (mn_row cA N h i).setSlot i (.ref (h + 1 + i)) = mn_row cA N h (i + 1) := by
  refine (arrV_store _ _ _ _ _).trans (congrArg (arrV cA N) (funext fun j => ?_))
  show (if j = i then Value.ref (h + 1 + i) else va_rf (if j < i then some (h + 1 + j) else none)) = _
  by_cases q : j = i
  · subst q
    rw [if_pos rfl, if_pos (Nat.lt_succ_self j)]
    rfl
  · rw [if_neg q]
    by_cases q2 : j < i
    · rw [if_pos q2, if_pos (Nat.lt_succ_of_lt q2)]
    · rw [if_neg q2, if_neg (by omega)]
theorem mn_first (cA cI : ClassId) (N K : Nat) (V : State) : mn_hp cA cI N K V.heap 0 (V.pushCell (arrV cA N (fun _ => .null))).heap := by
  refine ⟨Array.size_push .., fun x hx => State.heap_pushCell_of_lt _ _ hx, ?_, fun j hj => absurd hj (Nat.not_lt_zero j)⟩
  refine (State.heap_pushCell_size _ _).trans (congrArg (fun f => some (arrV cA N f)) (funext fun j => ?_))
  rw [if_neg (Nat.not_lt_zero j)]
  rfl
theorem mn_next {cA cI : ClassId} {N K i : Nat} {H : Heap} {V : State} (h : mn_hp cA cI N K H i V.heap) : mn_hp cA cI N K H (i + 1) ((V.pushCell (arrV cI K (fun _ => .int 0))).setCell H.size (mn_row cA N H.size (i + 1))).heap := by
  obtain ⟨z, o, r, n⟩ := h
  have lt : H.size < V.heap.size := by omega
  have r1 : (V.pushCell (arrV cI K (fun _ => .int 0))).heap[H.size]? = some (mn_row cA N H.size i) := (State.heap_pushCell_of_lt _ _ lt).trans r
  have old : ∀ x : Nat, x < V.heap.size → x ≠ H.size → ((V.pushCell (arrV cI K (fun _ => .int 0))).setCell H.size (mn_row cA N H.size (i + 1))).heap[x]? = V.heap[x]? := fun x hx hy => (State.heap_setCell_other (fun q => hy q.symm)).trans (State.heap_pushCell_of_lt _ _ hx)
  refine ⟨?_, fun x hx => (old x (Nat.lt_trans hx lt) (Nat.ne_of_lt hx)).trans (o x hx), State.heap_setCell_self r1, fun j hj => ?_⟩
  · show ((V.heap.push _).setIfInBounds _ _).size = _
    rw [Array.size_setIfInBounds, Array.size_push, z]
    omega
  · by_cases q : j < i
    · exact (old _ (by omega) (by omega)).trans (n j q)
    · have e1 : H.size + 1 + j = V.heap.size := by omega
      rw [e1]
      exact (State.heap_setCell_other (Nat.ne_of_lt lt)).trans (State.heap_pushCell_size _ _)
/-- one row more: the walk stands behind it -/
theorem mn_stand {cA cI : ClassId} {N K i : Nat} {H : Heap} {V : State} (X : Stand p l e R s m args below meth c V locs (cells + (1 + i)) (slots + (N + i * K))) (h : mn_hp cA cI N K H i V.heap) (hs : s.heap.size ≤ H.size) :
    Stand p l e R s m args below meth c ((V.pushCell (arrV cI K (fun _ => .int 0))).setCell H.size (mn_row cA N H.size (i + 1))) locs (cells + (1 + (i + 1))) (slots + (N + (i + 1) * K)) := by
  have z := h.1
  have lt : H.size < V.heap.size := by omega
  have r1 : (V.pushCell (arrV cI K (fun _ => .int 0))).heap[H.size]? = some (mn_row cA N H.size i) := (State.heap_pushCell_of_lt _ _ lt).trans h.2.2.1
  have X1 := X.pushed (arrV cI K (fun _ => .int 0))
  rw [arrV_size] at X1
  have X2 := (X1.stored r1 i (.ref (H.size + 1 + i))).dropFresh (fun x hx => by
    rw [List.mem_singleton.mp hx]
    exact hs)
  rw [mn_row_next] at X2
  rw [show cells + (1 + (i + 1)) = cells + (1 + i) + 1 by omega, show slots + (N + (i + 1) * K) = slots + (N + i * K) + K by rw [Nat.succ_mul]; omega]
  exact X2
/-- a loop that counts up, by what holds ahead of each number -/
theorem mn_loop {E : CtlPost} {f : Nat → PUnit → Sem (ForInStep PUnit)} {J : Nat → State → Prop} {N : Nat} {Q : PUnit → Pre}
    (hf : ∀ (i : Nat) (u : State) (d : Bool) (acts : List Action) (Q1 : ForInStep PUnit → Pre), i < N → J i u → (∀ (d1 : Bool) (a1 : List Action) (u1 : State), J (i + 1) u1 → Q1 (.yield PUnit.unit) d1 a1 u1) → wp (f i PUnit.unit) Q1 E e d acts u)
    (hq : ∀ (d : Bool) (acts : List Action) (u : State), J N u → Q PUnit.unit d acts u) :
    ∀ (r i : Nat) (u : State) (d : Bool) (acts : List Action), i + r = N → J i u → wp (forIn (List.range' i r 1) PUnit.unit f) Q E e d acts u := by
  intro r
  induction r with
  | zero =>
    intro i u d acts hr hJ
    have hi : i = N := by omega
    subst hi
    show wp (forIn ([] : List Nat) PUnit.unit f) Q E e d acts u
    simp only [List.forIn_nil, wp_pure']
    exact hq _ _ _ hJ
  | succ r ih =>
    intro i u d acts hr hJ
    rw [List.range'_succ]
    simp only [List.forIn_cons, wp_bind']
    exact hf i u d acts _ (by omega) hJ (fun d1 a1 u1 h1 => ih (i + 1) u1 d1 a1 (by omega) h1)
theorem mn_make {E : CtlPost} {d : Bool} {acts : List Action} {T : State} {cA cI cc : ClassId} {kA kI : Class} {n k : Int32} {N K : Nat} {g : JFrame} {Z : Addr → Pre}
    (X : Stand p l e R s m args below meth c T locs cells slots) (hA : T.vm.classes[cA]? = some kA) (kdA : kA.kind = .array cI (.array .int)) (hI : T.vm.classes[cI]? = some kI) (kdI : kI.kind = .array cc .int)
    (hn0 : ¬ n < 0) (hk0 : ¬ k < 0) (hN : n.toNatClampNeg = N) (hK : k.toNatClampNeg = K) (b1 : N ≤ 1000) (b2 : K ≤ 1000) (c1 : cells + (1 + N) ≤ R.cells) (c2 : slots + (N + N * K) ≤ R.slots)
    (hq : ∀ (d' : Bool) (acts' : List Action) (V : State), Stand p l e R s m args below meth c V locs (cells + (1 + N)) (slots + (N + N * K)) → mn_hp cA cI N K T.heap N V.heap → Z T.heap.size d' acts' (V.setTop g)) :
    wp (Jvm.Op.multianewarray.make cA [n, k]) Z E e d acts (T.setTop g) := by
  have f0 : ([k].find? (· < 0)) = none := by simp [hk0]
  have lim : e.platform.arrayLengthLimit ≥ 1000 := by
    rw [Launch.admits_arrayLengthLimit X.admits]
    omega
  have hpb : e.platform.maxHeapBytes ≥ 4000 := by
    rw [Launch.admits_maxHeapBytes X.admits]
    omega
  obtain ⟨m1, m2⟩ := X.roomAbove c1 c2
  rw [Jvm.Op.multianewarray.make]
  simp only [wp_bind', Jvm.W.ite, hn0, if_false, wp_pure', Jvm.W.theClass, f0, hN]
  refine ⟨kA, hA, ?_⟩
  rw [kdA]
  simp only [wp_bind']
  refine Jvm.W.newArray_of hA kdA (by omega) (by show ¬ N * 4 > _; omega) (by show T.heap.size < _; omega) (by show T.slotsUsed + N ≤ _; omega) rfl (fun acts1 => ?_)
  rw [arrV_new, ite_self, wp_bind', Std.Legacy.Range.forIn_eq_forIn_range', show ([:N] : Std.Legacy.Range).size = N by simp [Std.Legacy.Range.size]]
  refine mn_loop (J := fun i u => ∃ V : State, u = V.setTop g ∧ Stand p l e R s m args below meth c V locs (cells + (1 + i)) (slots + (N + i * K)) ∧ V.vm = T.vm ∧ mn_hp cA cI N K T.heap i V.heap) (fun i u d1 a1 Q1 hi hJ hn1 => ?_) (fun d1 a1 u hJ => ?_) N 0 _ _ _ (Nat.zero_add N) ⟨T.pushCell (arrV cA N (fun _ => .null)), rfl, ?_, rfl, mn_first cA cI N K T⟩
  · obtain ⟨V, rfl, XV, ev, hp⟩ := hJ
    have hmul : (i + 1) * K ≤ N * K := Nat.mul_le_mul_right K hi
    have X2 := mn_stand XV hp X.heapGrown
    obtain ⟨r1, r2⟩ := XV.roomAbove (a := 1) (b := K) (by omega) (by rw [Nat.succ_mul] at hmul; omega)
    rw [wp_bind', Jvm.Op.multianewarray.make]
    simp only [wp_bind', Jvm.W.ite, hk0, if_false, wp_pure', Jvm.W.theClass, hK]
    refine ⟨kI, by rw [State.vm_setTop, ev]; exact hI, ?_⟩
    rw [kdI]
    refine Jvm.W.newArray_of (by rw [State.vm_setTop, ev]; exact hI) kdI (by omega) (by show ¬ K * 4 > _; omega) (by show V.heap.size < _; omega) (by show V.slotsUsed + K ≤ _; omega) rfl (fun acts2 => ?_)
    have lt : T.heap.size < V.heap.size := by rw [hp.1]; omega
    have r0 : (V.pushCell (arrV cI K (fun _ => .int 0))).heap[T.heap.size]? = some (mn_row cA N T.heap.size i) := (State.heap_pushCell_of_lt _ _ lt).trans hp.2.2.1
    have hA2 : V.vm.classes[cA]? = some kA := by rw [ev]; exact hA
    rw [arrV_new]
    simp only [wp_bind', Jvm.W.writeLoc, wp_pure']
    refine ⟨mn_row cA N T.heap.size i, r0, ?_, Nat.lt_of_lt_of_eq hi (arrV_size cA N _).symm, ?_, hn1 _ _ _ ⟨_, ?_, X2, ev, mn_next hp⟩⟩
    · intro q
      cases q
    · simp [State.fitsSlot, State.slotType?, mn_row, arrV, hA2, kdA]
      rfl
    · rw [← mn_row_next, ← show V.heap.size = T.heap.size + 1 + i from hp.1]
      rfl
  · obtain ⟨V, rfl, XV, ev, hp⟩ := hJ
    exact hq _ _ V XV hp
  · have X1 := X.pushed (arrV cA N (fun _ => .null))
    rw [arrV_size] at X1
    rw [Nat.zero_mul]
    exact X1
/-- the instruction, where it stands: what holds of the machine's run holds of the state that it comes to -/
theorem mn_go {Q : State → Prop} {H : Heap} {cA cI cc : ClassId} {kA kI : Class} {own : String} {index pc N K : Nat} {n k : Int32} {ls : Array Slot} {st : List Value} (hexec : p.tables.exec = Jvm.exec)
    (hown : s.vm.findClass own = some m.cls) (hcl : (Cond.classLink own index "[[I").before args s = true) (fA : s.vm.findClass "[[I" = some cA) (hA : s.vm.classes[cA]? = some kA) (kdA : kA.kind = .array cI (.array .int)) (hI : s.vm.classes[cI]? = some kI) (kdI : kI.kind = .array cc .int)
    (hd : decode c.code pc = .ok (.multianewarray index 2, 4)) (hn0 : ¬ n < 0) (hk0 : ¬ k < 0) (hN : n.toNatClampNeg = N) (hK : k.toNatClampNeg = K) (b1 : N ≤ 1000) (b2 : K ≤ 1000) (c1 : cells + (1 + N) ≤ R.cells) (c2 : slots + (N + N * K) ≤ R.slots)
    (kk : ∀ H1 : Heap, mn_hp cA cI N K H N H1 → W p l e R s m args below meth c H1 locs (cells + (1 + N)) (slots + (N + N * K)) Q (F0 m (pc + 4) ls (.ref H.size :: st))) : W p l e R s m args below meth c H locs cells slots Q (F0 m pc ls (.int k :: .int n :: st)) := by
  intro T hT X
  subst hT
  have hpl : e.platform.magicAccessors = ({} : Platform).magicAccessors := by rw [X.admits.platform]
  obtain ⟨c0, f0, lk⟩ := Cond.classLink_spec hown hcl e.platform hpl
  have e0 : c0 = cA := Option.some.inj (f0.symm.trans fA)
  subst e0
  obtain ⟨g1, w1, -⟩ := State.classEntry (e := e) X.warmed lk
  generalize T.vm.noted m.cls index (.cls c0) = vm1 at g1 w1
  obtain ⟨kA1, hA1, eA⟩ := w1.alike.2.2 _ _ hA
  obtain ⟨kI1, hI1, eI⟩ := w1.alike.2.2 _ _ hI
  have run : wpRun (Jvm.exec (.multianewarray index 2)) (fun _ u _ => ∃ V : State, u = V.setTop (F0 m pc ls (.ref T.heap.size :: st)) ∧ Stand p l e R s m args below meth c V locs (cells + (1 + N)) (slots + (N + N * K)) ∧ mn_hp c0 cI N K T.heap N V.heap) (fun _ _ _ => False) e (T.setTop (F0 m pc ls (.int k :: .int n :: st))) := by
    show wp (Jvm.Op.multianewarray.sem index 2) _ _ e false [] _
    simp only [Jvm.Op.multianewarray.sem, wp_bind', Jvm.W.resolveClassAt_links (State.method?_setTop (F0 m pc ls (.int k :: .int n :: st)) X.here.top) g1]
    rw [Jvm.W.popN, if_neg (by decide)]
    refine ⟨_, State.topJava?_setTop' (s := T.setVm vm1) _ X.here.top, [.int n, .int k], st, rfl, rfl, ?_⟩
    simp only [List.mapM_cons, List.mapM_nil, wp_bind', wp_pure']
    rw [State.setVm_setTop, State.setTop_setTop]
    refine mn_make (X.noted w1) hA1 (by rw [eA]; exact kdA) hI1 (by rw [eI]; exact kdI) hn0 hk0 hN hK b1 b2 c1 c2 (fun d1 a1 V XV hp => ?_)
    simp only [wp_bind', Jvm.W.mark, Jvm.W.pushRef]
    exact ⟨_, State.topJava?_setTop' _ XV.here.top, V, State.setTop_setTop _ _ _, XV, hp⟩
  have run1 := (wpRun_iff_run _ _ _ _ _).mp run
  cases hr : (Jvm.exec (.multianewarray index 2)).run e (T.setTop (F0 m pc ls (.int k :: .int n :: st))) with
  | ctl x u acts =>
    rw [hr] at run1
    cases x <;> exact run1.elim
  | ok a u acts =>
    rw [hr] at run1
    obtain ⟨V, rfl, XV, hp⟩ := run1
    obtain ⟨t, s1, q1⟩ := kk V.heap hp V rfl XV
    refine ⟨t, Steps.instr (c := c) X.here ?_, q1⟩
    show (match decode c.code pc with | .ok (i, len) => _ | .error _ => False)
    rw [hd]
    refine (wpRun_iff_run _ _ _ _ _).mpr ?_
    rw [hexec, hr]
    intro acts2
    rw [afterInstr_ok]
    exact s1
end MNA
section NEWS3
variable {G : Gl} {y : Md} {d mc ms ce sl pc : Nat} {lo : List (Nat × Value)} {st : List Value} {X : Sh} {M : Mm} {Q : Sh → Mm → Option Value → Prop}
theorem wp_mna {idx N K : Nat} {n k : Int32} (hd : decode y.2.1 pc = .ok (.multianewarray idx 2, 4)) (hw : Cond.classLink y.1.cls idx "[[I" ∈ GW) (hn : n = nI N) (hk : k = nI K) (hN : N ≤ 1000) (hK0 : K ≤ 1000) (h1 : ce + (1 + N) ≤ mc) (h2 : sl + (N + N * K) ≤ ms) (hz0 : ∀ a j, xz X ≤ a → mI M a j = 0) (kk : Wp G y d mc ms (ce + (1 + N)) (sl + (N + N * K)) (pc + 4) lo (.ref (xz X) :: st) (xMna X N K) M Q) : Wp G y d mc ms ce sl pc lo (.int k :: .int n :: st) X M Q := by
  intro p l e s m args below meth c H locs ls hC hR hz hS hl
  refine W.sized (fun hsz => ?_)
  have hs2 := hR.size hz hC.2.2.2.2.2.2.2.2.2.2 hS hsz
  have hKA := hC.2.2.2.2.2.2.2.1.1
  have hts := hC.2.2.2.2.2.2.1
  have cln : (nI N).toNatClampNeg = N := nI_clamp (by omega)
  have clk : (nI K).toNatClampNeg = K := nI_clamp (by omega)
  subst hn hk
  obtain ⟨cI, cA, kA, q1, -, q3, q4, q5⟩ := aoa_spec hC.2.2.2.2.2.2.2.1.2.2.2.2.2.2
  have eI : cI = G.2 0 := Option.some.inj (q1.symm.trans (hKA.2 0 _ rfl).2)
  have eA : cA = G.2 6 := Option.some.inj (q5.symm.trans (hKA.2 6 _ rfl).2)
  subst eI eA
  obtain ⟨-, kI, g1, cc, g2⟩ := (hKA.2 0 _ rfl).1 0 (fun _ => .null)
  refine mn_go (N := N) (K := K) hC.1 hC.2.2.2.2.2.1 (hts _ hw) q5 q3 q4 g1 g2 (by rw [hC.2.1]; exact hd) (nI_pos (by omega)) (nI_pos (by omega)) cln clk hN hK0 h1 h2 (fun F hF => ?_)
  obtain ⟨f1, hold, f2, hrow⟩ := hF
  rw [hs2] at f1 hold f2 hrow
  rw [hs2]
  have kz : xK (xMna X N K) (xz X) = 17 := if_pos rfl
  have kr : ∀ a, xz X < a → a < xz X + 1 + N → xK (xMna X N K) a = 11 := fun a a1 a2 => (if_neg (by omega)).trans (if_pos ⟨a1, a2⟩)
  have ko : ∀ a, a < xz X ∨ xz X + 1 + N ≤ a → xK (xMna X N K) a = xK X a := fun a ha => (if_neg (by omega)).trans (if_neg (by omega))
  have hR1 : Rel G (xMna X N K) M F := by
    refine hR.grow (by show xz X ≤ xz X + 1 + N; omega) (fun a => ?_) (fun a ha => ?_) hold (fun a a1 a2 => ?_)
    · show _ ↔ G.2 7 ≤ a ∧ a < xz X + 1 + N
      have h7 := hR.1
      by_cases q1 : a = xz X
      · rw [q1, kz]
        exact ⟨fun _ => ⟨h7, by omega⟩, fun _ => by decide⟩
      · by_cases q2 : xz X < a ∧ a < xz X + 1 + N
        · rw [kr a q2.1 q2.2]
          exact ⟨fun _ => ⟨by omega, q2.2⟩, fun _ => by decide⟩
        · rw [ko a (by omega), hR.2.1 a]
          omega
    · have e1 := ko a (Or.inl ha)
      have e2 : xN (xMna X N K) a = xN X a := (if_neg (by omega)).trans (if_neg (by omega))
      have e3 : xF (xMna X N K) a = xF X a := if_neg (by omega)
      have e4 : fVal (xMna X N K) M (xK X a) a = fVal X M (xK X a) a := by
        funext j
        unfold fVal
        rw [e3]
      unfold ent eObj
      rw [e1, e2, e3, e4]
    · have a2 : a < xz X + 1 + N := a2
      by_cases q1 : a = xz X
      · subst q1
        rw [ent_f (X := xMna X N K) (a := xz X) (t := 17) kz (by decide), show xN (xMna X N K) (xz X) = N from if_pos rfl, show xF (xMna X N K) (xz X) = (fun i => if i < N then some (xz X + 1 + i) else none) from if_pos rfl]
        exact f2
      · rw [ent_i (X := xMna X N K) (a := a) (kr a (by omega) a2), show xN (xMna X N K) a = K from (if_neg q1).trans (if_pos ⟨by omega, a2⟩), show mI M a = fun _ => 0 from funext (fun j => hz0 a j a1)]
        have := hrow (a - (xz X + 1)) (by omega)
        rw [show xz X + 1 + (a - (xz X + 1)) = a by omega] at this
        exact this
  exact kk p l e s m args below meth c F locs ls hC hR1 (by show xz X + 1 + N = _; omega) ⟨by rw [f1]; omega, fun x g1 g2 => (hold x (by omega)).trans (hS.2.1 x g1 g2), hS.2.2⟩ hl
end NEWS3
