/-! the world: Sh = next free address, kind of each address, length of each array, reference fields and rows that stay; Mm = ints, longs, the rows of layers -/
abbrev Sh : Type := Nat × (Nat → Nat) × (Nat → Nat) × (Nat → Nat → Option Nat)
abbrev Mm : Type := (Nat → Nat → Int32) × (Nat → Nat → Int64) × (Nat → Nat → Option Nat)
def xz (X : Sh) : Nat := X.1
def xK (X : Sh) : Nat → Nat := X.2.1
def xN (X : Sh) : Nat → Nat := X.2.2.1
def xF (X : Sh) : Nat → Nat → Option Nat := X.2.2.2
def mI (M : Mm) : Nat → Nat → Int32 := M.1
def mJ (M : Mm) : Nat → Nat → Int64 := M.2.1
def mR (M : Mm) : Nat → Nat → Option Nat := M.2.2
def up2 {α : Type} (f : Nat → Nat → α) (a k : Nat) (v : α) : Nat → Nat → α := fun b j => if b = a ∧ j = k then v else f b j
def sI (M : Mm) (a k : Nat) (v : Int32) : Mm := (up2 (mI M) a k v, mJ M, mR M)
def sJ (M : Mm) (a k : Nat) (v : Int64) : Mm := (mI M, up2 (mJ M) a k v, mR M)
def sR (M : Mm) (a k : Nat) (v : Option Nat) : Mm := (mI M, mJ M, up2 (mR M) a k v)
theorem mI_sI (M : Mm) (a k : Nat) (v : Int32) : mI (sI M a k v) = up2 (mI M) a k v := rfl
theorem mJ_sI (M : Mm) (a k : Nat) (v : Int32) : mJ (sI M a k v) = mJ M := rfl
theorem mR_sI (M : Mm) (a k : Nat) (v : Int32) : mR (sI M a k v) = mR M := rfl
theorem mI_sJ (M : Mm) (a k : Nat) (v : Int64) : mI (sJ M a k v) = mI M := rfl
theorem mJ_sJ (M : Mm) (a k : Nat) (v : Int64) : mJ (sJ M a k v) = up2 (mJ M) a k v := rfl
theorem mR_sJ (M : Mm) (a k : Nat) (v : Int64) : mR (sJ M a k v) = mR M := rfl
theorem mI_sR (M : Mm) (a k : Nat) (v : Option Nat) : mI (sR M a k v) = mI M := rfl
theorem mJ_sR (M : Mm) (a k : Nat) (v : Option Nat) : mJ (sR M a k v) = mJ M := rfl
theorem mR_sR (M : Mm) (a k : Nat) (v : Option Nat) : mR (sR M a k v) = up2 (mR M) a k v := rfl
theorem up2_same {α : Type} (f : Nat → Nat → α) (a k : Nat) (v : α) : up2 f a k v a k = v := by simp [up2]
theorem up2_k {α : Type} (f : Nat → Nat → α) {a k j : Nat} (v : α) (b : Nat) (h : j ≠ k) : up2 f a k v b j = f b j := by simp [up2, h]
theorem up2_a {α : Type} (f : Nat → Nat → α) {a b : Nat} (k j : Nat) (v : α) (h : b ≠ a) : up2 f a k v b j = f b j := by simp [up2, h]
theorem up2_row (f : Nat → Nat → Int32) (a k : Nat) (v : Int32) : up2 f a k v a = upd (f a) k v := by funext j; simp [up2, upd]
theorem up2_rowL (f : Nat → Nat → Int64) (a k : Nat) (v : Int64) : up2 f a k v a = vp_updL (f a) k v := by funext j; simp [up2, vp_updL]
theorem up2_rowR (f : Nat → Nat → Option Nat) (a k : Nat) (v : Option Nat) : up2 f a k v a = va_up (f a) k v := by funext j; simp [up2, va_up]
theorem up2_off {α : Type} (f : Nat → Nat → α) {a b : Nat} (k : Nat) (v : α) (h : b ≠ a) : up2 f a k v b = f b := by funext j; simp [up2, h]
/-- the places of the reference fields of each class, and how many fields it has -/
def fRf : Nat → List Nat
  | 0 => [0, 1, 2, 3, 4, 6]
  | 1 => [4, 6, 7, 8, 9]
  | 2 => [0, 1, 2, 3, 4]
  | 3 => [0, 1]
  | 4 => [9]
  | 5 => [2, 3]
  | 6 => [4]
  | 7 => [0, 9, 11]
  | 8 => [0, 1, 2, 3, 4, 6, 7]
  | 9 => [0, 1, 3, 4, 5, 6, 7]
  | 10 => [0, 1, 2, 4, 5, 6, 7, 8, 9, 10, 11, 12, 13, 14, 15, 16, 18, 30, 31, 32, 33, 35]
  | _ => []
def nFd : Nat → Nat
  | 0 => 8
  | 1 => 10
  | 2 => 5
  | 3 => 4
  | 4 => 10
  | 5 => 4
  | 6 => 5
  | 7 => 16
  | 8 => 8
  | 9 => 9
  | 10 => 36
  | _ => 0
def fRef (ci k : Nat) : Bool := (fRf ci).contains k
abbrev Gl : Type := va_G × (Nat → Nat)
def AA (G : Gl) : Nat → Prop := fun q => G.2 7 ≤ q
def fVal (X : Sh) (M : Mm) (ci a k : Nat) : Value := if fRef ci k = true then va_rf (xF X a k) else .int (mI M a k)
def eObj (X : Sh) (M : Mm) (ci a : Nat) : va_E := .inr (ci, (List.range (nFd ci)).map (fVal X M ci a))
def ent (G : Gl) (X : Sh) (M : Mm) (a : Nat) : va_E :=
  if xK X a < 11 then eObj X M (xK X a) a
  else if xK X a = 11 then .inl (G.2 0, xN X a, .inl (mI M a))
  else if xK X a = 12 then .inl (G.2 1, xN X a, .inr (.inl (mJ M a)))
  else if xK X a = 13 then .inl (G.2 2, xN X a, .inl (fun i => vp_nar .boolean (mI M a i)))
  else if xK X a = 14 then .inl (G.2 3, xN X a, .inr (.inr (.inr (.inr (mR M a)))))
  else .inl (G.2 (xK X a - 11), xN X a, .inr (.inr (.inr (.inr (xF X a)))))
def LL (G : Gl) (X : Sh) : List Nat := ((List.range (xz X - G.2 7)).map (fun i => G.2 7 + i)).filter (fun a => xK X a != 99)
theorem LL_mem {G : Gl} {X : Sh} {a : Nat} : a ∈ LL G X ↔ (G.2 7 ≤ a ∧ a < xz X) ∧ xK X a ≠ 99 := by
  unfold LL
  rw [List.mem_filter, List.mem_map]
  constructor
  · rintro ⟨⟨i, hi, rfl⟩, h⟩
    have := List.mem_range.mp hi
    exact ⟨⟨by omega, by omega⟩, by simpa using h⟩
  · rintro ⟨⟨h1, h2⟩, h⟩
    exact ⟨⟨a - G.2 7, List.mem_range.mpr (by omega), by omega⟩, by simpa using h⟩
theorem LL_nodup (G : Gl) (X : Sh) : (LL G X).Nodup := by
  unfold LL
  refine List.Pairwise.filter _ (List.pairwise_map.mpr ?_)
  exact List.Pairwise.imp (fun h => by omega) List.pairwise_lt_range
theorem LL_D (G : Gl) (X : Sh) (f : Nat → va_E) : va_D (AA G) ([] ++ va_pl (LL G X) f) := by
  have hn := LL_nodup G X
  refine ⟨fun i j p q hi hj hpq => ?_, fun k q hk => ?_⟩
  · simp only [List.nil_append, va_pl, List.getElem?_map] at hi hj
    cases hi1 : (LL G X)[i]? with
    | none => rw [hi1] at hi; cases hi
    | some a =>
      cases hj1 : (LL G X)[j]? with
      | none => rw [hj1] at hj; cases hj
      | some b =>
        rw [hi1] at hi
        rw [hj1] at hj
        cases hi
        cases hj
        have hab : a = b := hpq
        subst hab
        exact (List.getElem?_inj (List.getElem?_eq_some_iff.mp hi1).1 hn).mp (hi1.trans hj1.symm)
  · simp only [List.nil_append, va_pl, List.getElem?_map] at hk
    cases hk1 : (LL G X)[k]? with
    | none => rw [hk1] at hk; cases hk
    | some a =>
      rw [hk1] at hk
      cases hk
      exact (LL_mem.mp (List.mem_of_getElem? hk1)).1.1
/-- the heap holds the world -/
def Rel (G : Gl) (X : Sh) (M : Mm) (H : Heap) : Prop := G.2 7 ≤ xz X ∧ (∀ a, xK X a ≠ 99 ↔ G.2 7 ≤ a ∧ a < xz X) ∧ va_P G.1 vwCl ([] ++ va_pl (LL G X) (ent G X M)) H
theorem Rel.at {G : Gl} {X : Sh} {M : Mm} {H : Heap} (h : Rel G X M H) {a : Nat} (ha : xK X a ≠ 99) : ∃ k : Nat, ([] ++ va_pl (LL G X) (ent G X M))[k]? = some (a, ent G X M a) := va_pl_get (LL_mem.mpr ⟨(h.2.1 a).mp ha, ha⟩)
/-- behind a write at a: the world with the entry changed -/
theorem Rel.set {G : Gl} {X : Sh} {M M' : Mm} {H H1 : Heap} (h : Rel G X M H) {a k : Nat} {e : va_E} (ha : xK X a ≠ 99) (hk : ([] ++ va_pl (LL G X) (ent G X M))[k]? = some (a, ent G X M a)) (hP : va_P G.1 vwCl (([] ++ va_pl (LL G X) (ent G X M)).set k (a, e)) H1) (he : ∀ b, va_up (ent G X M) a e b = ent G X M' b) : Rel G X M' H1 := by
  refine ⟨h.1, h.2.1, ?_⟩
  rw [va_pl_set (LL_D G X _) (LL_mem.mpr ⟨(h.2.1 a).mp ha, ha⟩) hk, va_pl_congr he] at hP
  exact hP
theorem ent_obj {G : Gl} {X : Sh} {M : Mm} {a ci : Nat} (ha : xK X a = ci) (hc : ci < 11) : ent G X M a = eObj X M ci a := by
  unfold ent
  rw [ha, if_pos hc]
theorem ent_i {G : Gl} {X : Sh} {M : Mm} {a : Nat} (ha : xK X a = 11) : ent G X M a = .inl (G.2 0, xN X a, .inl (mI M a)) := by
  unfold ent
  rw [ha]
  rfl
theorem ent_j {G : Gl} {X : Sh} {M : Mm} {a : Nat} (ha : xK X a = 12) : ent G X M a = .inl (G.2 1, xN X a, .inr (.inl (mJ M a))) := by
  unfold ent
  rw [ha]
  rfl
theorem ent_z {G : Gl} {X : Sh} {M : Mm} {a : Nat} (ha : xK X a = 13) : ent G X M a = .inl (G.2 2, xN X a, .inl (fun i => vp_nar .boolean (mI M a i))) := by
  unfold ent
  rw [ha]
  rfl
theorem ent_r {G : Gl} {X : Sh} {M : Mm} {a : Nat} (ha : xK X a = 14) : ent G X M a = .inl (G.2 3, xN X a, .inr (.inr (.inr (.inr (mR M a))))) := by
  unfold ent
  rw [ha]
  rfl
theorem ent_f {G : Gl} {X : Sh} {M : Mm} {a t : Nat} (ha : xK X a = t) (h : 14 < t) : ent G X M a = .inl (G.2 (t - 11), xN X a, .inr (.inr (.inr (.inr (xF X a))))) := by
  unfold ent
  rw [ha, if_neg (by omega), if_neg (by omega), if_neg (by omega), if_neg (by omega), if_neg (by omega)]
theorem fVal_I {X : Sh} {M : Mm} {ci a k : Nat} (h : fRef ci k = false) : fVal X M ci a k = .int (mI M a k) := by
  unfold fVal
  rw [h]
  rfl
theorem fVal_R {X : Sh} {M : Mm} {ci a k : Nat} (h : fRef ci k = true) : fVal X M ci a k = va_rf (xF X a k) := by
  unfold fVal
  rw [h]
  rfl
theorem rng_get {α : Type} (f : Nat → α) {n k : Nat} (h : k < n) : ((List.range n).map f)[k]? = some (f k) := by
  rw [List.getElem?_map, List.getElem?_range h]
  rfl
theorem rng_set {α : Type} (f g : Nat → α) {n k : Nat} (v : α) (hk : g k = v) (h : ∀ j, j ≠ k → g j = f j) : ((List.range n).map f).set k v = (List.range n).map g := by
  apply List.ext_getElem?
  intro j
  rw [List.getElem?_set, List.getElem?_map, List.getElem?_map]
  by_cases hj : k = j
  · subst hj
    rw [if_pos rfl]
    by_cases hl : k < n
    · rw [if_pos (by simpa using hl), List.getElem?_range hl, Option.map_some, hk]
    · rw [if_neg (by simpa using hl), List.getElem?_eq_none (by simpa using hl)]
      rfl
  · rw [if_neg hj]
    cases h2 : (List.range n)[j]? with
    | none => rfl
    | some b =>
      have hb : b = j := by
        have h3 := List.getElem?_eq_some_iff.mp h2
        have h4 := h3.2
        rw [List.getElem_range] at h4
        exact h4.symm
      subst hb
      rw [Option.map_some, Option.map_some, h b (fun q => hj q.symm)]
theorem ent_up {G : Gl} {X : Sh} {M M' : Mm} {a : Nat} {e : va_E} (h1 : ent G X M' a = e) (h2 : ∀ b, b ≠ a → ent G X M' b = ent G X M b) : ∀ b, va_up (ent G X M) a e b = ent G X M' b := by
  intro b
  by_cases hb : b = a
  · subst hb
    rw [va_up_self, h1]
  · rw [va_up_ne _ _ hb, h2 b hb]
theorem ent_off {G : Gl} {X : Sh} {M M' : Mm} {b : Nat} (h1 : mI M' b = mI M b) (h2 : mJ M' b = mJ M b) (h3 : mR M' b = mR M b) : ent G X M' b = ent G X M b := by
  unfold ent eObj
  have h4 : fVal X M' (xK X b) b = fVal X M (xK X b) b := by
    funext k
    unfold fVal
    rw [h1]
  rw [h1, h2, h3, h4]
/-- the texts of the String constants, in the order of their addresses -/
def kTx : List String := ["draw", "gas", "late", "htbs", "hti", "hc"]
def kIx : List Nat := [94, 100, 102, 125, 127, 129]
def kBy : List (List Int32) := [[100, 114, 97, 119], [103, 97, 115], [108, 97, 116, 101], [104, 116, 98, 115], [104, 116, 105], [104, 99]]
def areaV (j : Nat) : Int32 := [1, 3, 5, 7, 9].getD j 0
def aboveV (j : Nat) : Int32 := [-1, 0, 0, 1, 2, 0].getD j 0
/-- what was there before the law began and nobody writes: two static rows, six texts, the law's script -/
def SE (G : Gl) (U : State) (H : Heap) : Prop :=
  va_Z "BurdenHouse$Furnace" "AREAS" "[I" (.ref (G.2 8)) (AA G) U H ∧ va_T .int (G.2 8) 5 (fun j => .int (areaV j)) (AA G) U H ∧
  va_Z "BurdenHouse$Stuff" "ABOVE" "[I" (.ref (G.2 9)) (AA G) U H ∧ va_T .int (G.2 9) 6 (fun j => .int (aboveV j)) (AA G) U H ∧
  vk_S 6 [4, 3, 4, 4, 3, 2] kBy (fun i => G.2 (10 + i)) (fun i => G.2 (16 + i)) (AA G) U H ∧
  va_Z "java/lang/String" "COMPACT_STRINGS" "Z" (.int 1) (AA G) U H ∧ va_Zq "jdk/internal/util/Preconditions" "SIOOBE_FORMATTER" "Ljava/util/function/BiFunction;" (AA G) U H ∧
  (G.2 22 < G.2 7 ∧ va_X (G.2 22) (G.2 23) (fun i => Int32.ofNat (G.2 (24 + i))) U H)
def NW1 : List (String × Nat × MethodName) := [("BurdenHouse$House", 93, ⟨"BurdenHouse", "heldWithin999", "(I)I"⟩), ("BurdenHouse$Furnace", 71, ⟨"BurdenHouse", "basicOf", "(II)I"⟩), ("BurdenHouse$Bins", 56, ⟨"BurdenHouse", "basicOf", "(II)I"⟩), ("BurdenHouse$Bins", 59, ⟨"BurdenHouse", "isWithin", "(III)Z"⟩)]
abbrev tysA (G : Gl) : List (ClassId × FieldType) := [(G.2 0, .int), (G.2 1, .long), (G.2 2, .boolean), (G.2 3, .object RX4), (G.2 4, .object RX5), (G.2 5, .object RX6), (G.2 6, .array .int)]
/-- the class of the rows of rows of t is there -/
def AOA (t : FieldType) (U : State) : Prop := (Cond.arrayOver (.array t)).before #[] U = true
theorem aoa_spec {t : FieldType} {U : State} (h : AOA t U) : ∃ comp c k, U.vm.findClass (FieldType.array t).toString = some comp ∧ (U.vm.classes.findIdx? fun (x : Class) => match x.kind with | .array component _ => component == comp | _ => false) = some c ∧ U.vm.classes[c]? = some k ∧ k.kind = .array comp (.array t) ∧ U.vm.findClass ("[" ++ (FieldType.array t).toString) = some c := by
  unfold AOA Cond.before Cond.holds Cond.value at h
  obtain ⟨comp, f1, h1⟩ := Option.bind_eq_some_iff.mp (eq_of_beq h)
  obtain ⟨c, f2, h2⟩ := Option.bind_eq_some_iff.mp h1
  obtain ⟨k, f3, h3⟩ := Option.map_eq_some_iff.mp h2
  have own : (match k.kind with | .array component _ => component == comp | _ => false) = true := by
    obtain ⟨i1, i2, -⟩ := Array.findIdx?_eq_some_iff_getElem.mp f2
    have ek : U.vm.classes[c] = k := Option.some.inj ((Array.getElem?_eq_getElem i1).symm.trans f3)
    exact ek ▸ i2
  refine ⟨comp, c, k, f1, f2, f3, ?_⟩
  generalize k.kind = kd at own h3
  match kd, own, h3 with
  | .array a b, own, h3 =>
    obtain ⟨y1, y2⟩ := Bool.and_eq_true_iff.mp h3
    exact ⟨by rw [eq_of_beq own, of_decide_eq_true y1], of_decide_eq_true y2⟩
theorem AOA.moved {t : FieldType} {u U : State} (hvm : u.vm.Alike U.vm) (h : AOA t u) : AOA t U := by
  obtain ⟨comp, c, k, h1, h2, h3, h4, h5⟩ := aoa_spec h
  obtain ⟨k', hk', he⟩ := hvm.2.2 _ _ h3
  have hi : (U.vm.classes.findIdx? fun (x : Class) => match x.kind with | .array component _ => component == comp | _ => false) = some c := by
    have q1 := va_idx_bare U.vm comp
    have q2 := va_idx_bare u.vm comp
    have eb : U.vm.bare = u.vm.bare := by
      first | exact hvm.bare_eq.symm | exact hvm.bare_eq
    rw [eb] at q1
    exact (q1.symm.trans q2).trans h2
  have hkind : k'.kind = .array comp (.array t) := by
    rw [he]
    exact h4
  have f1 : U.vm.findClass (FieldType.array t).toString = some comp := by
    rw [hvm.findClass]
    exact h1
  have f2 : U.vm.findClass ("[" ++ (FieldType.array t).toString) = some c := by
    rw [hvm.findClass]
    exact h5
  unfold AOA Cond.before Cond.holds
  simp only [Cond.value]
  rw [f1, Option.bind_some]
  refine (congrArg (fun o : Option Nat => (o.bind (fun c => (U.vm.classes[c]?).map fun (k : Class) => match k.kind with | .array _ ty => decide (ty = FieldType.array t) && decide (U.vm.findClass ("[" ++ (FieldType.array t).toString) = some c) | _ => false) == some true)) hi).trans ?_
  simp [hk', hkind, f2]
theorem AOA.use {t : FieldType} {A : Array Value} {U : State} (h : AOA t U) : (Cond.arrayOver (.array t)).before A U = true := h
/-- what the machine's tables say, in every state of the run -/
def KU (G : Gl) (U : State) : Prop := va_K G.1 vwCl (tysA G) U ∧ (∀ q ∈ NW1, va_Nw (.methodLinkNest q.1 q.2.1 q.2.2 "BurdenHouse") U) ∧ ((∀ i, i < 6 → vk_R "BurdenHouse$Tape" (kIx.getD i 0) (kTx.getD i "") (G.2 (10 + i)) U) ∧ va_AO RX4 U ∧ va_AO RX5 U ∧ va_AO RX6 U ∧ AOA .int U)
theorem KU.warm {G : Gl} {s U : State} (hW : s.WarmedH U.vm) (h : KU G s) : KU G U := ⟨va_K.moved hW.alike h.1, fun q hq => (h.2.1 q hq).warmM hW, ⟨fun i hi => (h.2.2.1 i hi).warm hW, va_AO.moved hW.alike h.2.2.2.1, va_AO.moved hW.alike h.2.2.2.2.1, va_AO.moved hW.alike h.2.2.2.2.2.1, AOA.moved hW.alike h.2.2.2.2.2.2⟩⟩
theorem KU.same {G : Gl} {u U : State} (hv : u.vm = U.vm) (h : KU G u) : KU G U := ⟨va_K.moved (by rw [hv]; exact Vm.Alike.refl _) h.1, fun q hq => va_Nw.same rfl hv (h.2.1 q hq), ⟨fun i hi => vk_R.same hv.symm (h.2.2.1 i hi), va_AO.moved (by rw [hv]; exact Vm.Alike.refl _) h.2.2.2.1, va_AO.moved (by rw [hv]; exact Vm.Alike.refl _) h.2.2.2.2.1, va_AO.moved (by rw [hv]; exact Vm.Alike.refl _) h.2.2.2.2.2.1, AOA.moved (by rw [hv]; exact Vm.Alike.refl _) h.2.2.2.2.2.2⟩⟩
theorem SE.moved {G : Gl} {u U : State} {H : Heap} (hvm : u.vm.Alike U.vm) (h : SE G u H) : SE G U H := ⟨va_Z.moved hvm h.1, va_T.moved hvm h.2.1, va_Z.moved hvm h.2.2.1, va_T.moved hvm h.2.2.2.1, vk_S.moved hvm h.2.2.2.2.1, va_Z.moved hvm h.2.2.2.2.2.1, va_Zq.moved hvm h.2.2.2.2.2.2.1, h.2.2.2.2.2.2.2.1, va_X.moved hvm h.2.2.2.2.2.2.2.2⟩
theorem SE.kept {G : Gl} {U : State} {H H1 : Heap} (h : SE G U H) (hq : ∀ a : Nat, a < H.size → ¬ AA G a → H1[a]? = H[a]?) : SE G U H1 := ⟨va_Z.kept h.1 hq, va_T.kept h.2.1 hq, va_Z.kept h.2.2.1 hq, va_T.kept h.2.2.2.1 hq, vk_S.kept h.2.2.2.2.1 hq, va_Z.kept h.2.2.2.2.2.1 hq, va_Zq.kept h.2.2.2.2.2.2.1 hq, h.2.2.2.2.2.2.2.1, va_X.kept h.2.2.2.2.2.2.2.2 (hq _ (by obtain ⟨_, g, _⟩ := h.2.2.2.2.2.2.2.2; exact (Array.getElem?_eq_some_iff.mp g).1) (by have := h.2.2.2.2.2.2.2.1; show ¬ G.2 7 ≤ G.2 22; omega))⟩
/-- a method: its name, its code, its locals, what it answers -/
abbrev Md : Type := MethodName × ByteArray × Nat × Option FieldType
def rmd (d mc ms : Nat) : Room := { frames := d, cells := mc, slots := ms, locals := 40 * d }
def wsm (y : Md) : List Cond := .code y.1 y.2.1 y.2.2.1 y.2.2.2 :: GW
/-- what holds in a frame of y, whatever it does -/
def Cx (G : Gl) (y : Md) (p : Program) (s : State) (m : MethodId) (args : Array Value) (meth : Method) (c : Code) : Prop :=
  p.tables.exec = Jvm.exec ∧ c.code = y.2.1 ∧ c.maxLocals = y.2.2.1 ∧ meth.sig.returnType = y.2.2.2 ∧ meth.locks = false ∧ s.vm.findClass y.1.cls = some m.cls ∧ (∀ w ∈ GW, w.before args s = true) ∧ KU G s ∧ SE G s s.heap ∧ meth.name = y.1.name ∧ G.2 7 ≤ s.heap.size
/-- a method's end -/
def Qm (G : Gl) (Q : Sh → Mm → Option Value → Prop) : Array Value → State → Outcome → State → Prop := fun _ st oc t => (∃ (v : Option Value) (X : Sh) (M : Mm), oc = .returned v ∧ Q X M v ∧ Rel G X M t.heap ∧ t.heap.size = xz X) ∧ va_F (AA G) st t
/-- from this place of y's code the method comes to its end, and there Q -/
def Wp (G : Gl) (y : Md) (d mc ms ce sl pc : Nat) (lo : List (Nat × Value)) (st : List Value) (X : Sh) (M : Mm) (Q : Sh → Mm → Option Value → Prop) : Prop :=
  ∀ (p : Program) (l : Launch) (e : Env) (s : State) (m : MethodId) (args : Array Value) (below : List Frame) (meth : Method) (c : Code) (H : Heap) (locs : List Loc) (ls : Array Slot),
    Cx G y p s m args meth c → Rel G X M H → xz X = s.heap.size + ce → va_S (AA G) s.heap H locs → lv_has ls y.2.2.1 lo →
    W p l e (rmd d mc ms) s m args below meth c H locs ce sl (MQ below (Qm G Q) args s mc ms (AA G)) (F0 m pc ls st)
/-- y, called with these arguments in this world, comes to its end, and there Q -/
def Cl (G : Gl) (y : Md) (d mc ms : Nat) (as : List Value) (X : Sh) (M : Mm) (Q : Sh → Mm → Option Value → Prop) : Prop :=
  ∀ l : Launch, Met l y.1 (wsm y) (rmd d mc ms) (va_Pc as (fun U => KU G U ∧ SE G U U.heap ∧ Rel G X M U.heap ∧ U.heap.size = xz X)) (Qm G Q) mc ms (AA G)
theorem Cl.of {G : Gl} {y : Md} {d mc ms : Nat} {as : List Value} {X : Sh} {M : Mm} {Q : Sh → Mm → Option Value → Prop} (hy : plainName y.1.cls = true) (hn : (lg_sl as).length ≤ y.2.2.1) (h : Wp G y d mc ms 0 0 0 (lv_args 0 as) [] X M Q) : Cl G y d mc ms as X M Q := by
  intro l
  refine Met.ofW (cc := y.2.1) (maxL := y.2.2.1) (ret := y.2.2.2) hy rfl ?_
  intro p e s m args below meth c s₁ B hml hv
  obtain ⟨rfl, hK, hSE, hR, hz⟩ := hv
  have hts := atoms_spec (ws := wsm y) B.pre
  rw [lg_entry_eq]
  exact h p l e s m as.toArray below meth c s.heap [] _ ⟨B.exec, B.bytes, hml, B.returns, B.notSynchronized, findClass_of_methodNamed B.named, fun w hw => hts w (List.mem_cons_of_mem _ hw), hK, hSE, (name_of_methodNamed B.named B.method).1, by rw [hz]; exact hR.1⟩ hR hz.symm va_S.rf (lv_entry as hn)
theorem Wp.sub {G : Gl} {y : Md} {d mc ms ce sl pc : Nat} {lo lo' : List (Nat × Value)} {st : List Value} {X : Sh} {M : Mm} {Q : Sh → Mm → Option Value → Prop} (is : List Nat) (hs : lv_pick lo is = lo') (h : Wp G y d mc ms ce sl pc lo' st X M Q) : Wp G y d mc ms ce sl pc lo st X M Q :=
  fun p l e s m args below meth c H locs ls hC hR hz hS hl => h p l e s m args below meth c H locs ls hC hR hz hS (lv_sub hl is hs)
theorem W.sized {p : Program} {l : Launch} {e : Env} {R : Room} {s : State} {m : MethodId} {args : Array Value} {below : List Frame} {meth : Method} {c : Code} {H : Heap} {locs : List Loc} {cells slots : Nat} {Z : State → Prop} {g : JFrame} (k : H.size ≤ s.heap.size + cells → W p l e R s m args below meth c H locs cells slots Z g) : W p l e R s m args below meth c H locs cells slots Z g := by
  intro T hT X
  have h := X.same.2.2.1
  have h2 : (T.setVm s.vm).heap = H := hT
  rw [h2] at h
  exact k h T hT X
theorem Rel.size {G : Gl} {X : Sh} {M : Mm} {H : Heap} {s : State} {locs : List Loc} {ce : Nat} (hR : Rel G X M H) (hz : xz X = s.heap.size + ce) (hb : G.2 7 ≤ s.heap.size) (hS : va_S (AA G) s.heap H locs) (h : H.size ≤ s.heap.size + ce) : H.size = xz X := by
  have h0 := hS.1
  rcases Nat.eq_zero_or_pos ce with h1 | h1
  · omega
  · obtain ⟨k, hk⟩ := hR.at (a := xz X - 1) ((hR.2.1 _).mpr ⟨by omega, by omega⟩)
    have h2 := (hR.2.2 k _ hk).lt
    have h3 : xz X - 1 < H.size := h2
    omega
section ROWS
variable {G : Gl} {y : Md} {d mc ms ce sl pc : Nat} {lo : List (Nat × Value)} {st : List Value} {X : Sh} {M : Mm} {Q : Sh → Mm → Option Value → Prop}
theorem wp_iconst {n : Int} {v : Int32} (hd : decode y.2.1 pc = .ok (.iconst n, 1)) (hv : Int32.ofInt n = v) (k : Wp G y d mc ms ce sl (pc + 1) lo (.int v :: st) X M Q) : Wp G y d mc ms ce sl pc lo (st) X M Q := by
  intro p l e s m args below meth c H locs ls hC hR hz hS hl
  exact lv_iconst hC.1 hC.2.1 hd hv (k p l e s m args below meth c H locs ls hC hR hz hS hl)
theorem wp_bipush {n : Int} {v : Int32} (hd : decode y.2.1 pc = .ok (.bipush n, 2)) (hv : (Int8.ofInt n).toInt32 = v) (k : Wp G y d mc ms ce sl (pc + 2) lo (.int v :: st) X M Q) : Wp G y d mc ms ce sl pc lo (st) X M Q := by
  intro p l e s m args below meth c H locs ls hC hR hz hS hl
  exact lv_bipush hC.1 hC.2.1 hd hv (k p l e s m args below meth c H locs ls hC hR hz hS hl)
theorem wp_sipush {n : Int} {v : Int32} (hd : decode y.2.1 pc = .ok (.sipush n, 3)) (hv : (Int16.ofInt n).toInt32 = v) (k : Wp G y d mc ms ce sl (pc + 3) lo (.int v :: st) X M Q) : Wp G y d mc ms ce sl pc lo (st) X M Q := by
  intro p l e s m args below meth c H locs ls hC hR hz hS hl
  exact lv_sipush hC.1 hC.2.1 hd hv (k p l e s m args below meth c H locs ls hC hR hz hS hl)
theorem wp_lconst {n : Fin 2} {v : Int64} (hd : decode y.2.1 pc = .ok (.lconst n, 1)) (hv : Int64.ofNat (n : Nat) = v) (k : Wp G y d mc ms ce sl (pc + 1) lo (.long v :: st) X M Q) : Wp G y d mc ms ce sl pc lo (st) X M Q := by
  intro p l e s m args below meth c H locs ls hC hR hz hS hl
  exact lv_lconst hC.1 hC.2.1 hd hv (k p l e s m args below meth c H locs ls hC hR hz hS hl)
theorem wp_iload_n {j : Fin 4} {i : Nat} {x : Int32} (q : Nat) (hd : decode y.2.1 pc = .ok (.iload_n j, 1)) (hi : (j : Nat) = i) (hq : lo[q]? = some (i, .int x)) (k : Wp G y d mc ms ce sl (pc + 1) lo (.int x :: st) X M Q) : Wp G y d mc ms ce sl pc lo (st) X M Q := by
  intro p l e s m args below meth c H locs ls hC hR hz hS hl
  exact lv_iload_n hC.1 hC.2.1 hd hi (lv_at hl q hq) (k p l e s m args below meth c H locs ls hC hR hz hS hl)
theorem wp_iload {i : Nat} {x : Int32} (q : Nat) (hd : decode y.2.1 pc = .ok (.iload i, 2)) (hq : lo[q]? = some (i, .int x)) (k : Wp G y d mc ms ce sl (pc + 2) lo (.int x :: st) X M Q) : Wp G y d mc ms ce sl pc lo (st) X M Q := by
  intro p l e s m args below meth c H locs ls hC hR hz hS hl
  exact lv_iload hC.1 hC.2.1 hd (lv_at hl q hq) (k p l e s m args below meth c H locs ls hC hR hz hS hl)
theorem wp_lload_n {j : Fin 4} {i : Nat} {x : Int64} (q : Nat) (hd : decode y.2.1 pc = .ok (.lload_n j, 1)) (hi : (j : Nat) = i) (hq : lo[q]? = some (i, .long x)) (k : Wp G y d mc ms ce sl (pc + 1) lo (.long x :: st) X M Q) : Wp G y d mc ms ce sl pc lo (st) X M Q := by
  intro p l e s m args below meth c H locs ls hC hR hz hS hl
  exact lv_lload_n hC.1 hC.2.1 hd hi (lv_at hl q hq) (k p l e s m args below meth c H locs ls hC hR hz hS hl)
theorem wp_lload {i : Nat} {x : Int64} (q : Nat) (hd : decode y.2.1 pc = .ok (.lload i, 2)) (hq : lo[q]? = some (i, .long x)) (k : Wp G y d mc ms ce sl (pc + 2) lo (.long x :: st) X M Q) : Wp G y d mc ms ce sl pc lo (st) X M Q := by
  intro p l e s m args below meth c H locs ls hC hR hz hS hl
  exact lv_lload hC.1 hC.2.1 hd (lv_at hl q hq) (k p l e s m args below meth c H locs ls hC hR hz hS hl)
theorem wp_aload_n {j : Fin 4} {i : Nat} {x : Nat} (q : Nat) (hd : decode y.2.1 pc = .ok (.aload_n j, 1)) (hi : (j : Nat) = i) (hq : lo[q]? = some (i, .ref x)) (k : Wp G y d mc ms ce sl (pc + 1) lo (.ref x :: st) X M Q) : Wp G y d mc ms ce sl pc lo (st) X M Q := by
  intro p l e s m args below meth c H locs ls hC hR hz hS hl
  exact lv_aload_n hC.1 hC.2.1 hd hi (lv_at hl q hq) (k p l e s m args below meth c H locs ls hC hR hz hS hl)
theorem wp_aload {i : Nat} {x : Nat} (q : Nat) (hd : decode y.2.1 pc = .ok (.aload i, 2)) (hq : lo[q]? = some (i, .ref x)) (k : Wp G y d mc ms ce sl (pc + 2) lo (.ref x :: st) X M Q) : Wp G y d mc ms ce sl pc lo (st) X M Q := by
  intro p l e s m args below meth c H locs ls hC hR hz hS hl
  exact lv_aload hC.1 hC.2.1 hd (lv_at hl q hq) (k p l e s m args below meth c H locs ls hC hR hz hS hl)
theorem wp_iadd {x y2 : Int32} (hd : decode y.2.1 pc = .ok (.iadd, 1)) (k : Wp G y d mc ms ce sl (pc + 1) lo (.int (x + y2) :: st) X M Q) : Wp G y d mc ms ce sl pc lo (.int y2 :: .int x :: st) X M Q := by
  intro p l e s m args below meth c H locs ls hC hR hz hS hl
  exact lv_iadd hC.1 hC.2.1 hd (k p l e s m args below meth c H locs ls hC hR hz hS hl)
theorem wp_isub {x y2 : Int32} (hd : decode y.2.1 pc = .ok (.isub, 1)) (k : Wp G y d mc ms ce sl (pc + 1) lo (.int (x - y2) :: st) X M Q) : Wp G y d mc ms ce sl pc lo (.int y2 :: .int x :: st) X M Q := by
  intro p l e s m args below meth c H locs ls hC hR hz hS hl
  exact lv_isub hC.1 hC.2.1 hd (k p l e s m args below meth c H locs ls hC hR hz hS hl)
theorem wp_imul {x y2 : Int32} (hd : decode y.2.1 pc = .ok (.imul, 1)) (k : Wp G y d mc ms ce sl (pc + 1) lo (.int (x * y2) :: st) X M Q) : Wp G y d mc ms ce sl pc lo (.int y2 :: .int x :: st) X M Q := by
  intro p l e s m args below meth c H locs ls hC hR hz hS hl
  exact lv_imul hC.1 hC.2.1 hd (k p l e s m args below meth c H locs ls hC hR hz hS hl)
theorem wp_iand {x y2 : Int32} (hd : decode y.2.1 pc = .ok (.iand, 1)) (k : Wp G y d mc ms ce sl (pc + 1) lo (.int (x &&& y2) :: st) X M Q) : Wp G y d mc ms ce sl pc lo (.int y2 :: .int x :: st) X M Q := by
  intro p l e s m args below meth c H locs ls hC hR hz hS hl
  exact lv_iand hC.1 hC.2.1 hd (k p l e s m args below meth c H locs ls hC hR hz hS hl)
theorem wp_ineg {x : Int32} (hd : decode y.2.1 pc = .ok (.ineg, 1)) (k : Wp G y d mc ms ce sl (pc + 1) lo (.int (-x) :: st) X M Q) : Wp G y d mc ms ce sl pc lo (.int x :: st) X M Q := by
  intro p l e s m args below meth c H locs ls hC hR hz hS hl
  exact lv_ineg hC.1 hC.2.1 hd (k p l e s m args below meth c H locs ls hC hR hz hS hl)
theorem wp_idiv {x y2 : Int32} (hd : decode y.2.1 pc = .ok (.idiv, 1)) (hne : ¬ y2 = 0) (k : Wp G y d mc ms ce sl (pc + 1) lo (.int (x / y2) :: st) X M Q) : Wp G y d mc ms ce sl pc lo (.int y2 :: .int x :: st) X M Q := by
  intro p l e s m args below meth c H locs ls hC hR hz hS hl
  exact lv_idiv hC.1 hC.2.1 hd hne (k p l e s m args below meth c H locs ls hC hR hz hS hl)
theorem wp_irem {x y2 : Int32} (hd : decode y.2.1 pc = .ok (.irem, 1)) (hne : ¬ y2 = 0) (k : Wp G y d mc ms ce sl (pc + 1) lo (.int (x - x / y2 * y2) :: st) X M Q) : Wp G y d mc ms ce sl pc lo (.int y2 :: .int x :: st) X M Q := by
  intro p l e s m args below meth c H locs ls hC hR hz hS hl
  exact lv_irem hC.1 hC.2.1 hd hne (k p l e s m args below meth c H locs ls hC hR hz hS hl)
theorem wp_ladd {x y2 : Int64} (hd : decode y.2.1 pc = .ok (.ladd, 1)) (k : Wp G y d mc ms ce sl (pc + 1) lo (.long (x + y2) :: st) X M Q) : Wp G y d mc ms ce sl pc lo (.long y2 :: .long x :: st) X M Q := by
  intro p l e s m args below meth c H locs ls hC hR hz hS hl
  exact lv_ladd hC.1 hC.2.1 hd (k p l e s m args below meth c H locs ls hC hR hz hS hl)
theorem wp_lsub {x y2 : Int64} (hd : decode y.2.1 pc = .ok (.lsub, 1)) (k : Wp G y d mc ms ce sl (pc + 1) lo (.long (x - y2) :: st) X M Q) : Wp G y d mc ms ce sl pc lo (.long y2 :: .long x :: st) X M Q := by
  intro p l e s m args below meth c H locs ls hC hR hz hS hl
  exact lv_lsub hC.1 hC.2.1 hd (k p l e s m args below meth c H locs ls hC hR hz hS hl)
theorem wp_lmul {x y2 : Int64} (hd : decode y.2.1 pc = .ok (.lmul, 1)) (k : Wp G y d mc ms ce sl (pc + 1) lo (.long (x * y2) :: st) X M Q) : Wp G y d mc ms ce sl pc lo (.long y2 :: .long x :: st) X M Q := by
  intro p l e s m args below meth c H locs ls hC hR hz hS hl
  exact lv_lmul hC.1 hC.2.1 hd (k p l e s m args below meth c H locs ls hC hR hz hS hl)
theorem wp_ldiv {x y2 : Int64} (hd : decode y.2.1 pc = .ok (.ldiv, 1)) (hne : ¬ y2 = 0) (k : Wp G y d mc ms ce sl (pc + 1) lo (.long (x / y2) :: st) X M Q) : Wp G y d mc ms ce sl pc lo (.long y2 :: .long x :: st) X M Q := by
  intro p l e s m args below meth c H locs ls hC hR hz hS hl
  exact lv_ldiv hC.1 hC.2.1 hd hne (k p l e s m args below meth c H locs ls hC hR hz hS hl)
theorem wp_lrem {x y2 : Int64} (hd : decode y.2.1 pc = .ok (.lrem, 1)) (hne : ¬ y2 = 0) (k : Wp G y d mc ms ce sl (pc + 1) lo (.long (x - x / y2 * y2) :: st) X M Q) : Wp G y d mc ms ce sl pc lo (.long y2 :: .long x :: st) X M Q := by
  intro p l e s m args below meth c H locs ls hC hR hz hS hl
  exact lv_lrem hC.1 hC.2.1 hd hne (k p l e s m args below meth c H locs ls hC hR hz hS hl)
theorem wp_ishl {x y2 : Int32} (hd : decode y.2.1 pc = .ok (.ishl, 1)) (k : Wp G y d mc ms ce sl (pc + 1) lo (.int (x <<< (y2 &&& 31)) :: st) X M Q) : Wp G y d mc ms ce sl pc lo (.int y2 :: .int x :: st) X M Q := by
  intro p l e s m args below meth c H locs ls hC hR hz hS hl
  exact lv_ishl hC.1 hC.2.1 hd (k p l e s m args below meth c H locs ls hC hR hz hS hl)
theorem wp_ishr {x y2 : Int32} (hd : decode y.2.1 pc = .ok (.ishr, 1)) (k : Wp G y d mc ms ce sl (pc + 1) lo (.int (x >>> (y2 &&& 31)) :: st) X M Q) : Wp G y d mc ms ce sl pc lo (.int y2 :: .int x :: st) X M Q := by
  intro p l e s m args below meth c H locs ls hC hR hz hS hl
  exact lv_ishr hC.1 hC.2.1 hd (k p l e s m args below meth c H locs ls hC hR hz hS hl)
theorem wp_iushr {x y2 : Int32} (hd : decode y.2.1 pc = .ok (.iushr, 1)) (k : Wp G y d mc ms ce sl (pc + 1) lo (.int ((x.toUInt32 >>> (y2.toUInt32 &&& Int32.toUInt32 31)).toInt32) :: st) X M Q) : Wp G y d mc ms ce sl pc lo (.int y2 :: .int x :: st) X M Q := by
  intro p l e s m args below meth c H locs ls hC hR hz hS hl
  exact lv_iushr hC.1 hC.2.1 hd rfl (k p l e s m args below meth c H locs ls hC hR hz hS hl)
theorem wp_i2l {x : Int32} (hd : decode y.2.1 pc = .ok (.i2l, 1)) (k : Wp G y d mc ms ce sl (pc + 1) lo (.long x.toInt64 :: st) X M Q) : Wp G y d mc ms ce sl pc lo (.int x :: st) X M Q := by
  intro p l e s m args below meth c H locs ls hC hR hz hS hl
  exact lv_i2l hC.1 hC.2.1 hd rfl (k p l e s m args below meth c H locs ls hC hR hz hS hl)
theorem wp_l2i {x : Int64} (hd : decode y.2.1 pc = .ok (.l2i, 1)) (k : Wp G y d mc ms ce sl (pc + 1) lo (.int x.toInt32 :: st) X M Q) : Wp G y d mc ms ce sl pc lo (.long x :: st) X M Q := by
  intro p l e s m args below meth c H locs ls hC hR hz hS hl
  exact lv_l2i hC.1 hC.2.1 hd rfl (k p l e s m args below meth c H locs ls hC hR hz hS hl)
theorem wp_i2s {x : Int32} (hd : decode y.2.1 pc = .ok (.i2s, 1)) (k : Wp G y d mc ms ce sl (pc + 1) lo (.int x.toInt16.toInt32 :: st) X M Q) : Wp G y d mc ms ce sl pc lo (.int x :: st) X M Q := by
  intro p l e s m args below meth c H locs ls hC hR hz hS hl
  exact lv_i2s hC.1 hC.2.1 hd rfl (k p l e s m args below meth c H locs ls hC hR hz hS hl)
theorem wp_i2c {x : Int32} (hd : decode y.2.1 pc = .ok (.i2c, 1)) (k : Wp G y d mc ms ce sl (pc + 1) lo (.int ((x.toUInt32 % 65536).toInt32) :: st) X M Q) : Wp G y d mc ms ce sl pc lo (.int x :: st) X M Q := by
  intro p l e s m args below meth c H locs ls hC hR hz hS hl
  exact lv_i2c hC.1 hC.2.1 hd rfl (k p l e s m args below meth c H locs ls hC hR hz hS hl)
theorem wp_dup {v : Value} (hd : decode y.2.1 pc = .ok (.dup, 1)) (hv : v.category = 1) (k : Wp G y d mc ms ce sl (pc + 1) lo (v :: v :: st) X M Q) : Wp G y d mc ms ce sl pc lo (v :: st) X M Q := by
  intro p l e s m args below meth c H locs ls hC hR hz hS hl
  exact lv_dup hC.1 hC.2.1 hd hv (k p l e s m args below meth c H locs ls hC hR hz hS hl)
theorem wp_pop {v : Value} (hd : decode y.2.1 pc = .ok (.pop, 1)) (hv : v.category = 1) (k : Wp G y d mc ms ce sl (pc + 1) lo (st) X M Q) : Wp G y d mc ms ce sl pc lo (v :: st) X M Q := by
  intro p l e s m args below meth c H locs ls hC hR hz hS hl
  exact lv_pop hC.1 hC.2.1 hd hv (k p l e s m args below meth c H locs ls hC hR hz hS hl)
theorem wp_dup2_11 {v u : Value} (hd : decode y.2.1 pc = .ok (.dup2, 1)) (hv : v.category = 1) (hu : u.category = 1) (k : Wp G y d mc ms ce sl (pc + 1) lo (v :: u :: v :: u :: st) X M Q) : Wp G y d mc ms ce sl pc lo (v :: u :: st) X M Q := by
  intro p l e s m args below meth c H locs ls hC hR hz hS hl
  exact lv_dup2_11 hC.1 hC.2.1 hd hv hu (k p l e s m args below meth c H locs ls hC hR hz hS hl)
theorem wp_lcmp {x y2 : Int64} (hd : decode y.2.1 pc = .ok (.lcmp, 1)) (k : Wp G y d mc ms ce sl (pc + 1) lo (.int (lg_cmp x y2) :: st) X M Q) : Wp G y d mc ms ce sl pc lo (.long y2 :: .long x :: st) X M Q := by
  intro p l e s m args below meth c H locs ls hC hR hz hS hl
  exact W.lcmp hC.1 hC.2.1 hd (k p l e s m args below meth c H locs ls hC hR hz hS hl)
theorem wp_goto {off : Int} {tgt : Nat} (hd : decode y.2.1 pc = .ok (.goto off, 3)) (ht : (pc : Int) + off = (tgt : Int)) (k : Wp G y d mc ms ce sl tgt lo st X M Q) : Wp G y d mc ms ce sl pc lo st X M Q := by
  intro p l e s m args below meth c H locs ls hC hR hz hS hl
  exact lv_goto hC.1 hC.2.1 hd ht (k p l e s m args below meth c H locs ls hC hR hz hS hl)
theorem wp_if_eq {x : Int32} {off : Int} {tgt : Nat} (hd : decode y.2.1 pc = .ok (.ifCond .eq off, 3)) (ht : (pc : Int) + off = (tgt : Int)) (kt : x = 0 → Wp G y d mc ms ce sl tgt lo st X M Q) (kf : ¬ x = 0 → Wp G y d mc ms ce sl (pc + 3) lo st X M Q) : Wp G y d mc ms ce sl pc lo (.int x :: st) X M Q := by
  intro p l e s m args below meth c H locs ls hC hR hz hS hl
  exact lv_if_eq hC.1 hC.2.1 hd ht (fun h => kt h p l e s m args below meth c H locs ls hC hR hz hS hl) (fun h => kf h p l e s m args below meth c H locs ls hC hR hz hS hl)
theorem wp_icmp_eq {x y2 : Int32} {off : Int} {tgt : Nat} (hd : decode y.2.1 pc = .ok (.if_icmp .eq off, 3)) (ht : (pc : Int) + off = (tgt : Int)) (kt : x = y2 → Wp G y d mc ms ce sl tgt lo st X M Q) (kf : ¬ x = y2 → Wp G y d mc ms ce sl (pc + 3) lo st X M Q) : Wp G y d mc ms ce sl pc lo (.int y2 :: .int x :: st) X M Q := by
  intro p l e s m args below meth c H locs ls hC hR hz hS hl
  exact lv_icmp_eq hC.1 hC.2.1 hd ht (fun h => kt h p l e s m args below meth c H locs ls hC hR hz hS hl) (fun h => kf h p l e s m args below meth c H locs ls hC hR hz hS hl)
theorem wp_if_ne {x : Int32} {off : Int} {tgt : Nat} (hd : decode y.2.1 pc = .ok (.ifCond .ne off, 3)) (ht : (pc : Int) + off = (tgt : Int)) (kt : ¬ x = 0 → Wp G y d mc ms ce sl tgt lo st X M Q) (kf : x = 0 → Wp G y d mc ms ce sl (pc + 3) lo st X M Q) : Wp G y d mc ms ce sl pc lo (.int x :: st) X M Q := by
  intro p l e s m args below meth c H locs ls hC hR hz hS hl
  exact lv_if_ne hC.1 hC.2.1 hd ht (fun h => kt h p l e s m args below meth c H locs ls hC hR hz hS hl) (fun h => kf h p l e s m args below meth c H locs ls hC hR hz hS hl)
theorem wp_icmp_ne {x y2 : Int32} {off : Int} {tgt : Nat} (hd : decode y.2.1 pc = .ok (.if_icmp .ne off, 3)) (ht : (pc : Int) + off = (tgt : Int)) (kt : ¬ x = y2 → Wp G y d mc ms ce sl tgt lo st X M Q) (kf : x = y2 → Wp G y d mc ms ce sl (pc + 3) lo st X M Q) : Wp G y d mc ms ce sl pc lo (.int y2 :: .int x :: st) X M Q := by
  intro p l e s m args below meth c H locs ls hC hR hz hS hl
  exact lv_icmp_ne hC.1 hC.2.1 hd ht (fun h => kt h p l e s m args below meth c H locs ls hC hR hz hS hl) (fun h => kf h p l e s m args below meth c H locs ls hC hR hz hS hl)
theorem wp_if_lt {x : Int32} {off : Int} {tgt : Nat} (hd : decode y.2.1 pc = .ok (.ifCond .lt off, 3)) (ht : (pc : Int) + off = (tgt : Int)) (kt : x < 0 → Wp G y d mc ms ce sl tgt lo st X M Q) (kf : ¬ x < 0 → Wp G y d mc ms ce sl (pc + 3) lo st X M Q) : Wp G y d mc ms ce sl pc lo (.int x :: st) X M Q := by
  intro p l e s m args below meth c H locs ls hC hR hz hS hl
  exact lv_if_lt hC.1 hC.2.1 hd ht (fun h => kt h p l e s m args below meth c H locs ls hC hR hz hS hl) (fun h => kf h p l e s m args below meth c H locs ls hC hR hz hS hl)
theorem wp_icmp_lt {x y2 : Int32} {off : Int} {tgt : Nat} (hd : decode y.2.1 pc = .ok (.if_icmp .lt off, 3)) (ht : (pc : Int) + off = (tgt : Int)) (kt : x < y2 → Wp G y d mc ms ce sl tgt lo st X M Q) (kf : ¬ x < y2 → Wp G y d mc ms ce sl (pc + 3) lo st X M Q) : Wp G y d mc ms ce sl pc lo (.int y2 :: .int x :: st) X M Q := by
  intro p l e s m args below meth c H locs ls hC hR hz hS hl
  exact lv_icmp_lt hC.1 hC.2.1 hd ht (fun h => kt h p l e s m args below meth c H locs ls hC hR hz hS hl) (fun h => kf h p l e s m args below meth c H locs ls hC hR hz hS hl)
theorem wp_if_ge {x : Int32} {off : Int} {tgt : Nat} (hd : decode y.2.1 pc = .ok (.ifCond .ge off, 3)) (ht : (pc : Int) + off = (tgt : Int)) (kt : 0 ≤ x → Wp G y d mc ms ce sl tgt lo st X M Q) (kf : ¬ 0 ≤ x → Wp G y d mc ms ce sl (pc + 3) lo st X M Q) : Wp G y d mc ms ce sl pc lo (.int x :: st) X M Q := by
  intro p l e s m args below meth c H locs ls hC hR hz hS hl
  exact lv_if_ge hC.1 hC.2.1 hd ht (fun h => kt h p l e s m args below meth c H locs ls hC hR hz hS hl) (fun h => kf h p l e s m args below meth c H locs ls hC hR hz hS hl)
theorem wp_icmp_ge {x y2 : Int32} {off : Int} {tgt : Nat} (hd : decode y.2.1 pc = .ok (.if_icmp .ge off, 3)) (ht : (pc : Int) + off = (tgt : Int)) (kt : y2 ≤ x → Wp G y d mc ms ce sl tgt lo st X M Q) (kf : ¬ y2 ≤ x → Wp G y d mc ms ce sl (pc + 3) lo st X M Q) : Wp G y d mc ms ce sl pc lo (.int y2 :: .int x :: st) X M Q := by
  intro p l e s m args below meth c H locs ls hC hR hz hS hl
  exact lv_icmp_ge hC.1 hC.2.1 hd ht (fun h => kt h p l e s m args below meth c H locs ls hC hR hz hS hl) (fun h => kf h p l e s m args below meth c H locs ls hC hR hz hS hl)
theorem wp_if_gt {x : Int32} {off : Int} {tgt : Nat} (hd : decode y.2.1 pc = .ok (.ifCond .gt off, 3)) (ht : (pc : Int) + off = (tgt : Int)) (kt : 0 < x → Wp G y d mc ms ce sl tgt lo st X M Q) (kf : ¬ 0 < x → Wp G y d mc ms ce sl (pc + 3) lo st X M Q) : Wp G y d mc ms ce sl pc lo (.int x :: st) X M Q := by
  intro p l e s m args below meth c H locs ls hC hR hz hS hl
  exact lv_if_gt hC.1 hC.2.1 hd ht (fun h => kt h p l e s m args below meth c H locs ls hC hR hz hS hl) (fun h => kf h p l e s m args below meth c H locs ls hC hR hz hS hl)
theorem wp_icmp_gt {x y2 : Int32} {off : Int} {tgt : Nat} (hd : decode y.2.1 pc = .ok (.if_icmp .gt off, 3)) (ht : (pc : Int) + off = (tgt : Int)) (kt : y2 < x → Wp G y d mc ms ce sl tgt lo st X M Q) (kf : ¬ y2 < x → Wp G y d mc ms ce sl (pc + 3) lo st X M Q) : Wp G y d mc ms ce sl pc lo (.int y2 :: .int x :: st) X M Q := by
  intro p l e s m args below meth c H locs ls hC hR hz hS hl
  exact lv_icmp_gt hC.1 hC.2.1 hd ht (fun h => kt h p l e s m args below meth c H locs ls hC hR hz hS hl) (fun h => kf h p l e s m args below meth c H locs ls hC hR hz hS hl)
theorem wp_if_le {x : Int32} {off : Int} {tgt : Nat} (hd : decode y.2.1 pc = .ok (.ifCond .le off, 3)) (ht : (pc : Int) + off = (tgt : Int)) (kt : x ≤ 0 → Wp G y d mc ms ce sl tgt lo st X M Q) (kf : ¬ x ≤ 0 → Wp G y d mc ms ce sl (pc + 3) lo st X M Q) : Wp G y d mc ms ce sl pc lo (.int x :: st) X M Q := by
  intro p l e s m args below meth c H locs ls hC hR hz hS hl
  exact lv_if_le hC.1 hC.2.1 hd ht (fun h => kt h p l e s m args below meth c H locs ls hC hR hz hS hl) (fun h => kf h p l e s m args below meth c H locs ls hC hR hz hS hl)
theorem wp_icmp_le {x y2 : Int32} {off : Int} {tgt : Nat} (hd : decode y.2.1 pc = .ok (.if_icmp .le off, 3)) (ht : (pc : Int) + off = (tgt : Int)) (kt : x ≤ y2 → Wp G y d mc ms ce sl tgt lo st X M Q) (kf : ¬ x ≤ y2 → Wp G y d mc ms ce sl (pc + 3) lo st X M Q) : Wp G y d mc ms ce sl pc lo (.int y2 :: .int x :: st) X M Q := by
  intro p l e s m args below meth c H locs ls hC hR hz hS hl
  exact lv_icmp_le hC.1 hC.2.1 hd ht (fun h => kt h p l e s m args below meth c H locs ls hC hR hz hS hl) (fun h => kf h p l e s m args below meth c H locs ls hC hR hz hS hl)
theorem wp_ifB_eq {b : Prop} (hb : Decidable b) {off : Int} {tgt : Nat} (hd : decode y.2.1 pc = .ok (.ifCond .eq off, 3)) (ht : (pc : Int) + off = (tgt : Int)) (kt : ¬ b → Wp G y d mc ms ce sl tgt lo st X M Q) (kf : b → Wp G y d mc ms ce sl (pc + 3) lo st X M Q) : Wp G y d mc ms ce sl pc lo (.int (if b then 1 else 0) :: st) X M Q := by
  refine wp_if_eq hd ht (fun h => kt (fun q => ?_)) (fun h => kf (Decidable.byContradiction fun q => ?_))
  · rw [if_pos q] at h
    exact absurd h (by decide)
  · rw [if_neg q] at h
    exact h rfl
theorem wp_ifB_ne {b : Prop} (hb : Decidable b) {off : Int} {tgt : Nat} (hd : decode y.2.1 pc = .ok (.ifCond .ne off, 3)) (ht : (pc : Int) + off = (tgt : Int)) (kt : b → Wp G y d mc ms ce sl tgt lo st X M Q) (kf : ¬ b → Wp G y d mc ms ce sl (pc + 3) lo st X M Q) : Wp G y d mc ms ce sl pc lo (.int (if b then 1 else 0) :: st) X M Q := by
  refine wp_if_ne hd ht (fun h => kt (Decidable.byContradiction fun q => ?_)) (fun h => kf (fun q => ?_))
  · rw [if_neg q] at h
    exact h rfl
  · rw [if_pos q] at h
    exact absurd h (by decide)
theorem wp_istore_n {j : Fin 4} {i : Nat} {x : Int32} {lo2 : List (Nat × Value)} (hd : decode y.2.1 pc = .ok (.istore_n j, 1)) (hi : (j : Nat) = i) (hn : i < y.2.2.1) (hlo : (i, Value.int x) :: lo.filter (fun q => !(q.1 == i) && !(q.1 + 1 == i && q.2.category == 2)) = lo2) (k : Wp G y d mc ms ce sl (pc + 1) lo2 st X M Q) : Wp G y d mc ms ce sl pc lo (.int x :: st) X M Q := by
  intro p l e s m args below meth c H locs ls hC hR hz hS hl
  exact lv_istore_n hC.1 hC.2.1 hd hi hl hn hlo (fun ls2 hl2 => k p l e s m args below meth c H locs ls2 hC hR hz hS hl2)
theorem wp_istore {i : Nat} {x : Int32} {lo2 : List (Nat × Value)} (hd : decode y.2.1 pc = .ok (.istore i, 2)) (hn : i < y.2.2.1) (hlo : (i, Value.int x) :: lo.filter (fun q => !(q.1 == i) && !(q.1 + 1 == i && q.2.category == 2)) = lo2) (k : Wp G y d mc ms ce sl (pc + 2) lo2 st X M Q) : Wp G y d mc ms ce sl pc lo (.int x :: st) X M Q := by
  intro p l e s m args below meth c H locs ls hC hR hz hS hl
  exact lv_istore hC.1 hC.2.1 hd hl hn hlo (fun ls2 hl2 => k p l e s m args below meth c H locs ls2 hC hR hz hS hl2)
theorem wp_astore_n {j : Fin 4} {i : Nat} {x : Nat} {lo2 : List (Nat × Value)} (hd : decode y.2.1 pc = .ok (.astore_n j, 1)) (hi : (j : Nat) = i) (hn : i < y.2.2.1) (hlo : (i, Value.ref x) :: lo.filter (fun q => !(q.1 == i) && !(q.1 + 1 == i && q.2.category == 2)) = lo2) (k : Wp G y d mc ms ce sl (pc + 1) lo2 st X M Q) : Wp G y d mc ms ce sl pc lo (.ref x :: st) X M Q := by
  intro p l e s m args below meth c H locs ls hC hR hz hS hl
  exact lv_astore_n hC.1 hC.2.1 hd hi hl hn hlo (fun ls2 hl2 => k p l e s m args below meth c H locs ls2 hC hR hz hS hl2)
theorem wp_astore {i : Nat} {x : Nat} {lo2 : List (Nat × Value)} (hd : decode y.2.1 pc = .ok (.astore i, 2)) (hn : i < y.2.2.1) (hlo : (i, Value.ref x) :: lo.filter (fun q => !(q.1 == i) && !(q.1 + 1 == i && q.2.category == 2)) = lo2) (k : Wp G y d mc ms ce sl (pc + 2) lo2 st X M Q) : Wp G y d mc ms ce sl pc lo (.ref x :: st) X M Q := by
  intro p l e s m args below meth c H locs ls hC hR hz hS hl
  exact lv_astore hC.1 hC.2.1 hd hl hn hlo (fun ls2 hl2 => k p l e s m args below meth c H locs ls2 hC hR hz hS hl2)
theorem wp_lstore_n {j : Fin 4} {i : Nat} {x : Int64} {lo2 : List (Nat × Value)} (hd : decode y.2.1 pc = .ok (.lstore_n j, 1)) (hi : (j : Nat) = i) (hn : i + 1 < y.2.2.1) (hlo : (i, Value.long x) :: lo.filter (fun q => !(q.1 == i) && (!(q.1 == i + 1) && !(q.1 + 1 == i && q.2.category == 2))) = lo2) (k : Wp G y d mc ms ce sl (pc + 1) lo2 st X M Q) : Wp G y d mc ms ce sl pc lo (.long x :: st) X M Q := by
  intro p l e s m args below meth c H locs ls hC hR hz hS hl
  exact lv_lstore_n hC.1 hC.2.1 hd hi hl hn hlo (fun ls2 hl2 => k p l e s m args below meth c H locs ls2 hC hR hz hS hl2)
theorem wp_lstore {i : Nat} {x : Int64} {lo2 : List (Nat × Value)} (hd : decode y.2.1 pc = .ok (.lstore i, 2)) (hn : i + 1 < y.2.2.1) (hlo : (i, Value.long x) :: lo.filter (fun q => !(q.1 == i) && (!(q.1 == i + 1) && !(q.1 + 1 == i && q.2.category == 2))) = lo2) (k : Wp G y d mc ms ce sl (pc + 2) lo2 st X M Q) : Wp G y d mc ms ce sl pc lo (.long x :: st) X M Q := by
  intro p l e s m args below meth c H locs ls hC hR hz hS hl
  exact lv_lstore hC.1 hC.2.1 hd hl hn hlo (fun ls2 hl2 => k p l e s m args below meth c H locs ls2 hC hR hz hS hl2)
theorem wp_iinc {i q : Nat} {n : Int} {x v : Int32} {lo2 : List (Nat × Value)} (hd : decode y.2.1 pc = .ok (.iinc i n, 3)) (hq : lo[q]? = some (i, .int x)) (hv : x + Int32.ofInt n = v) (hn : i < y.2.2.1) (hlo : (i, Value.int v) :: lo.filter (fun q => !(q.1 == i) && !(q.1 + 1 == i && q.2.category == 2)) = lo2) (k : Wp G y d mc ms ce sl (pc + 3) lo2 st X M Q) : Wp G y d mc ms ce sl pc lo st X M Q := by
  intro p l e s m args below meth c H locs ls hC hR hz hS hl
  exact lv_iinc hC.1 hC.2.1 hd hl hq hv hn hlo (fun ls2 hl2 => k p l e s m args below meth c H locs ls2 hC hR hz hS hl2)
/-- the pool's entry idx of the class own is the field k of class ci -/
def FLk (own : String) (idx ci k : Nat) : Prop := ci < 11 ∧ k < nFd ci ∧ ∃ (C : String) (T : u_T), vwCl[ci]? = some (C, T, nFd ci) ∧ (∀ w ∈ u_ws C T (nFd ci), w ∈ GW) ∧ Cond.fieldLink own idx (T k).1 (T k).2.1 (T k).2.2.1 ∈ GW
/-- ... and the field's type is ty, and how the fields are named and typed -/
def FLt (own : String) (idx ci k : Nat) (fin : Bool) (ty : FieldType) : Prop := ci < 11 ∧ k < nFd ci ∧ ∃ (C : String) (T : u_T) (ty0 : Nat → FieldType), vwCl[ci]? = some (C, T, nFd ci) ∧ (∀ w ∈ u_ws C T (nFd ci), w ∈ GW) ∧ Cond.fieldLink own idx (T k).1 (T k).2.1 (T k).2.2.1 ∈ GW ∧ (T k).1 = own ∧ (T k).2.2.2 = fin ∧ parseFieldDescriptor (T k).2.2.1 = some ty ∧ (∀ k, k < nFd ci → parseFieldDescriptor (T k).2.2.1 = some (ty0 k)) ∧ (∀ a, a < nFd ci → ∀ b, b < nFd ci → a ≠ b → (T a).2.1 ≠ (T b).2.1)
/-- ... of another class's field -/
def FLu (own : String) (idx ci k : Nat) (ty : FieldType) : Prop := ci < 11 ∧ k < nFd ci ∧ ∃ (C : String) (T : u_T) (ty0 : Nat → FieldType), vwCl[ci]? = some (C, T, nFd ci) ∧ (∀ w ∈ u_ws C T (nFd ci), w ∈ GW) ∧ Cond.fieldLink own idx (T k).1 (T k).2.1 (T k).2.2.1 ∈ GW ∧ (T k).2.2.2 = false ∧ parseFieldDescriptor (T k).2.2.1 = some ty ∧ (∀ k, k < nFd ci → parseFieldDescriptor (T k).2.2.1 = some (ty0 k)) ∧ (∀ a, a < nFd ci → ∀ b, b < nFd ci → a ≠ b → (T a).2.1 ≠ (T b).2.1)
theorem wp_get {a ci k idx : Nat} (hd : decode y.2.1 pc = .ok (.getfield idx, 3)) (hf : FLk y.1.cls idx ci k) (ha : xK X a = ci) (kk : Wp G y d mc ms ce sl (pc + 3) lo (fVal X M ci a k :: st) X M Q) : Wp G y d mc ms ce sl pc lo (.ref a :: st) X M Q := by
  intro p l e s m args below meth c H locs ls hC hR hz hS hl
  obtain ⟨hci, hk, C, T, hcl, hin, hlink⟩ := hf
  obtain ⟨q0, hq⟩ := hR.at (a := a) (by omega)
  rw [ent_obj ha hci] at hq
  exact va_get hC.1 hC.2.1 hC.2.2.2.2.2.2.1 hin hC.2.2.2.2.2.1 hC.2.2.2.2.2.2.2.1.1 hR.2.2 q0 hq hcl k hk (hC.2.2.2.2.2.2.1 _ hlink) (fun _ h => h) (rng_get _ hk) hd (kk p l e s m args below meth c H locs ls hC hR hz hS hl)
theorem wp_getI {a ci k idx : Nat} (hd : decode y.2.1 pc = .ok (.getfield idx, 3)) (hf : FLk y.1.cls idx ci k) (hr : fRef ci k = false) (ha : xK X a = ci) (kk : Wp G y d mc ms ce sl (pc + 3) lo (.int (mI M a k) :: st) X M Q) : Wp G y d mc ms ce sl pc lo (.ref a :: st) X M Q :=
  wp_get hd hf ha (by rw [fVal_I hr]; exact kk)
theorem wp_getR {a ci k idx t : Nat} (hd : decode y.2.1 pc = .ok (.getfield idx, 3)) (hf : FLk y.1.cls idx ci k) (hr : fRef ci k = true) (ha : xK X a = ci) (ht : xF X a k = some t) (kk : Wp G y d mc ms ce sl (pc + 3) lo (.ref t :: st) X M Q) : Wp G y d mc ms ce sl pc lo (.ref a :: st) X M Q :=
  wp_get hd hf ha (by rw [fVal_R hr, ht]; exact kk)
theorem ent_putI {a ci k : Nat} {v : Int32} (ha : xK X a = ci) (hci : ci < 11) (hr : fRef ci k = false) : ∀ b, va_up (ent G X M) a (.inr (ci, ((List.range (nFd ci)).map (fVal X M ci a)).set k (.int v))) b = ent G X (sI M a k v) b := by
  refine ent_up ?_ (fun b hb => ent_off (up2_off _ _ _ hb) rfl rfl)
  rw [ent_obj ha hci]
  unfold eObj
  rw [rng_set (fVal X M ci a) (fVal X (sI M a k v) ci a) (.int v)]
  · rw [fVal_I hr, mI_sI, up2_same]
  · intro j hj
    unfold fVal
    rw [mI_sI, up2_k _ _ _ hj]
theorem Rel.obj {a ci : Nat} {H : Heap} (hR : Rel G X M H) (ha : xK X a = ci) (hci : ci < 11) {C : String} {T : u_T} (hcl : vwCl[ci]? = some (C, T, nFd ci)) :
    ∃ (k : Nat) (cell : Cell), ([] ++ va_pl (LL G X) (ent G X M))[k]? = some (a, ent G X M a) ∧ H[a]? = some cell ∧ cell.cls = G.1.1 ci ∧ cell.vm = .none ∧ ∀ k, k < nFd ci → cell.slots[G.1.2 ci k]? = some (fVal X M ci a k) := by
  obtain ⟨q0, hq⟩ := hR.at (a := a) (by omega)
  have h1 := hR.2.2 q0 _ hq
  rw [ent_obj ha hci] at h1
  obtain ⟨r, h2, cell, h3, h4, h5, h6⟩ := h1
  have hr : r = (C, T, nFd ci) := Option.some.inj (h2.symm.trans hcl)
  subst hr
  refine ⟨q0, cell, hq, h3, h4, h5, fun k hk => ?_⟩
  have h7 := h6 k hk
  have h8 : vp_V ((List.range (nFd ci)).map (fVal X M ci a)) k = fVal X M ci a k := by
    unfold vp_V
    rw [List.getD_eq_getElem?_getD, rng_get _ hk]
    rfl
  rw [← h8]
  exact h7
/-- a heap in which the cell at a alone is another, and holds what the new world says -/
theorem Rel.putObj {a ci k : Nat} {H H1 : Heap} {v : Value} {X' : Sh} {M' : Mm} (hR : Rel G X M H) (ha : xK X a = ci) (hci : ci < 11) {C : String} {T : u_T} (hcl : vwCl[ci]? = some (C, T, nFd ci)) (hk : k < nFd ci) {cell : Cell} (hcell : cell.cls = G.1.1 ci) (hvm : cell.vm = .none) (hs : ∀ k, k < nFd ci → cell.slots[G.1.2 ci k]? = some (fVal X M ci a k))
    (hap : ∀ a b, a < nFd ci → b < nFd ci → a ≠ b → G.1.2 ci a ≠ G.1.2 ci b) (e1 : H1[a]? = some (cell.setSlot (G.1.2 ci k) v)) (e3 : ∀ q, q ≠ a → H1[q]? = H[q]?) (hz : xz X' = xz X) (hKd : xK X' = xK X) (he1 : fVal X' M' ci a k = v) (he2 : ∀ j, j ≠ k → fVal X' M' ci a j = fVal X M ci a j) (he3 : ∀ b, b ≠ a → ent G X' M' b = ent G X M b) : Rel G X' M' H1 := by
  refine ⟨by rw [hz]; exact hR.1, by rw [hz, hKd]; exact hR.2.1, ?_⟩
  have hL : LL G X' = LL G X := by
    unfold LL
    rw [hz, hKd]
  rw [hL]
  intro q0 q hq
  simp only [List.nil_append, va_pl, List.getElem?_map] at hq
  cases hb : (LL G X)[q0]? with
  | none => rw [hb] at hq; cases hq
  | some b =>
    rw [hb] at hq
    cases hq
    have h0 : ([] ++ va_pl (LL G X) (ent G X M))[q0]? = some (b, ent G X M b) := by
      simp only [List.nil_append, va_pl, List.getElem?_map, hb]
      rfl
    show va_at G.1 vwCl (b, ent G X' M' b) H1
    by_cases hba : b = a
    · subst hba
      rw [ent_obj (X := X') (by rw [hKd]; exact ha) hci]
      refine ⟨_, hcl, t_OB.to (V := updV (fVal X M ci b) k v) ⟨_, e1, hcell, hvm, t_set hs hap hk v⟩ (fun j hj => ?_)⟩
      unfold vp_V
      rw [List.getD_eq_getElem?_getD, rng_get _ hj]
      by_cases hjk : j = k
      · subst hjk
        simp [updV, he1]
      · simp [updV, hjk, he2 j hjk]
    · rw [he3 b hba]
      exact (hR.2.2 q0 _ h0).kept (e3 b hba)
/-- a field of ints (of booleans: 0 or 1) is written -/
theorem wp_put {a ci k idx : Nat} {v : Int32} {ty : FieldType} (hd : decode y.2.1 pc = .ok (.putfield idx, 3)) (hf : FLu y.1.cls idx ci k ty) (hr : fRef ci k = false) (ha : xK X a = ci) (hn : narrow ty (.int v) = .int v) (hfit : fits ty (.int v) = true) (kk : Wp G y d mc ms ce sl (pc + 3) lo st X (sI M a k v) Q) : Wp G y d mc ms ce sl pc lo (.int v :: .ref a :: st) X M Q := by
  intro p l e s m args below meth c H locs ls hC hR hz hS hl
  obtain ⟨hci, hk, C, T, ty0, hcl, hin, hlink, hfin, hty, hty0, hnm⟩ := hf
  have hts := hC.2.2.2.2.2.2.1
  have hK := hC.2.2.2.2.2.2.2.1.1
  obtain ⟨q0, cell, hq, h3, h4, h5, h6⟩ := hR.obj ha hci hcl
  have hap := va_apart (own := y.1.cls) hts hin ty0 hty0 hnm hK hcl
  obtain ⟨hSl, hfc, kC, hkC, hkind⟩ := hK.1 ci _ hcl
  obtain ⟨cf, kf, fi, f, hi, hsl⟩ := hSl k hk
  have hlay := hts _ (hin _ (u_in_lay hk))
  unfold u_lay at hlay
  rw [if_neg (by rw [hfin]; decide)] at hlay
  have hst := (u_facts hfc hkC (u_lays hts hin hk) hi).1
  have hsd := u_store hfc hkC hkind hlay hi hty hn hfit
  refine W.putK hC.1 hC.2.1 (f := f) ⟨hC.2.2.2.2.2.1, hts _ hlink, ⟨_, _, _, hi⟩, hst⟩ (by rw [h4]; exact hsd) h3 h5 (by rw [hsl]; exact k2_hasslot (h6 k hk)) rfl rfl hd fun H1 e1 e2 e3 => ?_
  rw [hsl] at e1 ⊢
  have hR1 : Rel G X (sI M a k v) H1 := hR.putObj ha hci hcl hk h4 h5 h6 hap e1 e3 rfl rfl (by rw [fVal_I hr, mI_sI, up2_same]) (fun j hj => by unfold fVal; rw [mI_sI, up2_k _ _ _ hj]) (fun b hb => ent_off (up2_off _ _ _ hb) rfl rfl)
  exact kk p l e s m args below meth c H1 _ ls hC hR1 hz (hS.put e2 e3 ((hR.2.1 a).mp (by omega)).1) hl
theorem wp_putI {a ci k idx : Nat} {v : Int32} (hd : decode y.2.1 pc = .ok (.putfield idx, 3)) (hf : FLu y.1.cls idx ci k .int) (hr : fRef ci k = false) (ha : xK X a = ci) (kk : Wp G y d mc ms ce sl (pc + 3) lo st X (sI M a k v) Q) : Wp G y d mc ms ce sl pc lo (.int v :: .ref a :: st) X M Q :=
  wp_put hd hf hr ha rfl rfl kk
theorem wp_putZ {a ci k idx : Nat} {v : Int32} (hd : decode y.2.1 pc = .ok (.putfield idx, 3)) (hf : FLu y.1.cls idx ci k .boolean) (hr : fRef ci k = false) (ha : xK X a = ci) (hv : v = 0 ∨ v = 1) (kk : Wp G y d mc ms ce sl (pc + 3) lo st X (sI M a k v) Q) : Wp G y d mc ms ce sl pc lo (.int v :: .ref a :: st) X M Q := by
  refine wp_put hd hf hr ha ?_ ?_ kk
  · rcases hv with rfl | rfl <;> rfl
  · rcases hv with rfl | rfl <;> rfl
theorem ix_in {i : Int32} {j n : Nat} (hj : i = nI j) (hlt : j < n) (hn : n < 2147483648) : vp_in i n ∧ i.toNatClampNeg = j := by
  subst hj
  exact ⟨vp_in_nI hlt hn, nI_clamp (by omega)⟩
theorem wp_iald {a n j : Nat} {i : Int32} (hd : decode y.2.1 pc = .ok (.iaload, 1)) (ha : xK X a = 11) (hn : xN X a = n) (hb : n < 2147483648) (hj : i = nI j) (hlt : j < n) (kk : Wp G y d mc ms ce sl (pc + 1) lo (.int (mI M a j) :: st) X M Q) : Wp G y d mc ms ce sl pc lo (.int i :: .ref a :: st) X M Q := by
  intro p l e s m args below meth c H locs ls hC hR hz hS hl
  obtain ⟨q0, hq⟩ := hR.at (a := a) (by omega)
  rw [ent_i ha, hn] at hq
  obtain ⟨h1, h2⟩ := ix_in hj hlt hb
  refine va_iald hC.1 hC.2.1 hC.2.2.2.2.2.2.2.1.1 hR.2.2 q0 0 hq rfl h1 hd ?_
  rw [h2]
  exact kk p l e s m args below meth c H locs ls hC hR hz hS hl
theorem wp_lald {a n j : Nat} {i : Int32} (hd : decode y.2.1 pc = .ok (.laload, 1)) (ha : xK X a = 12) (hn : xN X a = n) (hb : n < 2147483648) (hj : i = nI j) (hlt : j < n) (kk : Wp G y d mc ms ce sl (pc + 1) lo (.long (mJ M a j) :: st) X M Q) : Wp G y d mc ms ce sl pc lo (.int i :: .ref a :: st) X M Q := by
  intro p l e s m args below meth c H locs ls hC hR hz hS hl
  obtain ⟨q0, hq⟩ := hR.at (a := a) (by omega)
  rw [ent_j ha, hn] at hq
  obtain ⟨h1, h2⟩ := ix_in hj hlt hb
  refine va_lald hC.1 hC.2.1 hC.2.2.2.2.2.2.2.1.1 hR.2.2 q0 1 hq rfl h1 hd ?_
  rw [h2]
  exact kk p l e s m args below meth c H locs ls hC hR hz hS hl
theorem wp_zald {a n j : Nat} {i : Int32} (hd : decode y.2.1 pc = .ok (.baload, 1)) (ha : xK X a = 13) (hn : xN X a = n) (hb : n < 2147483648) (hj : i = nI j) (hlt : j < n) (kk : Wp G y d mc ms ce sl (pc + 1) lo (.int (mI M a j &&& 1) :: st) X M Q) : Wp G y d mc ms ce sl pc lo (.int i :: .ref a :: st) X M Q := by
  intro p l e s m args below meth c H locs ls hC hR hz hS hl
  obtain ⟨q0, hq⟩ := hR.at (a := a) (by omega)
  rw [ent_z ha, hn] at hq
  obtain ⟨h1, h2⟩ := ix_in hj hlt hb
  refine va_zald hC.1 hC.2.1 hC.2.2.2.2.2.2.2.1.1 hR.2.2 q0 2 hq rfl h1 hd ?_
  rw [h2]
  exact kk p l e s m args below meth c H locs ls hC hR hz hS hl
theorem wp_rald {a n j t : Nat} {i : Int32} (hd : decode y.2.1 pc = .ok (.aaload, 1)) (ha : xK X a = 14) (hn : xN X a = n) (hb : n < 2147483648) (hj : i = nI j) (hlt : j < n) (ht : mR M a j = some t) (kk : Wp G y d mc ms ce sl (pc + 1) lo (.ref t :: st) X M Q) : Wp G y d mc ms ce sl pc lo (.int i :: .ref a :: st) X M Q := by
  intro p l e s m args below meth c H locs ls hC hR hz hS hl
  obtain ⟨q0, hq⟩ := hR.at (a := a) (by omega)
  rw [ent_r ha, hn] at hq
  obtain ⟨h1, h2⟩ := ix_in hj hlt hb
  refine va_aldq hC.1 hC.2.1 hC.2.2.2.2.2.2.2.1.1 hR.2.2 q0 3 hq rfl h1 hd ?_
  rw [h2, ht]
  exact kk p l e s m args below meth c H locs ls hC hR hz hS hl
/-- rows of references that stay: of sheets (15), of slots (16), of rows of ints (17) -/
theorem wp_fald {a n j t : Nat} {i : Int32} (hd : decode y.2.1 pc = .ok (.aaload, 1)) (ha : xK X a = 15 ∨ xK X a = 16 ∨ xK X a = 17) (hn : xN X a = n) (hb : n < 2147483648) (hj : i = nI j) (hlt : j < n) (ht : xF X a j = some t) (kk : Wp G y d mc ms ce sl (pc + 1) lo (.ref t :: st) X M Q) : Wp G y d mc ms ce sl pc lo (.int i :: .ref a :: st) X M Q := by
  intro p l e s m args below meth c H locs ls hC hR hz hS hl
  obtain ⟨q0, hq⟩ := hR.at (a := a) (by omega)
  obtain ⟨h1, h2⟩ := ix_in hj hlt hb
  have hv : ∀ (cA : ClassId) (f : Nat → Option Nat), f = xF X a → (vp_cell cA (n, .inr (.inr (.inr (.inr f))))).slots[i.toNatClampNeg]? = some (.ref t) := by
    intro cA f hf
    show (arrV _ _ _).slots[_]? = _
    rw [h2, arrV_read _ _ hlt, hf, ht]
    rfl
  have hin : ∀ (cA : ClassId) (f : Nat → Option Nat), ¬ (i < 0 ∨ (vp_cell cA (n, .inr (.inr (.inr (.inr f))))).slots.size ≤ i.toNatClampNeg) := by
    intro cA f
    show ¬ (i < 0 ∨ (arrV _ _ _).slots.size ≤ _)
    rw [arrV_size]
    exact h1
  rcases ha with ha | ha | ha
  · rw [ent_f ha (by omega), hn] at hq
    exact W.aald hC.1 hC.2.1 (hR.2.2 q0 _ hq) ((hC.2.2.2.2.2.2.2.1.1.2 4 _ rfl).1 n (fun j => va_rf (xF X a j))) rfl (fun q => by cases q) (hin _ _) (hv _ _ rfl) rfl rfl hd (kk p l e s m args below meth c H locs ls hC hR hz hS hl)
  · rw [ent_f ha (by omega), hn] at hq
    exact W.aald hC.1 hC.2.1 (hR.2.2 q0 _ hq) ((hC.2.2.2.2.2.2.2.1.1.2 5 _ rfl).1 n (fun j => va_rf (xF X a j))) rfl (fun q => by cases q) (hin _ _) (hv _ _ rfl) rfl rfl hd (kk p l e s m args below meth c H locs ls hC hR hz hS hl)
  · rw [ent_f ha (by omega), hn] at hq
    exact W.aald hC.1 hC.2.1 (hR.2.2 q0 _ hq) ((hC.2.2.2.2.2.2.2.1.1.2 6 _ rfl).1 n (fun j => va_rf (xF X a j))) rfl (fun q => by cases q) (hin _ _) (hv _ _ rfl) rfl rfl hd (kk p l e s m args below meth c H locs ls hC hR hz hS hl)
theorem wp_alen {a n : Nat} {v : Int32} (hd : decode y.2.1 pc = .ok (.arraylength, 1)) (ha : xK X a = 11) (hn : xN X a = n) (hv : Int32.ofNat n = v) (kk : Wp G y d mc ms ce sl (pc + 1) lo (.int v :: st) X M Q) : Wp G y d mc ms ce sl pc lo (.ref a :: st) X M Q := by
  intro p l e s m args below meth c H locs ls hC hR hz hS hl
  obtain ⟨q0, hq⟩ := hR.at (a := a) (by omega)
  rw [ent_i ha, hn] at hq
  exact va_alen hC.1 hC.2.1 hC.2.2.2.2.2.2.2.1.1 hR.2.2 q0 0 hq rfl hv hd (kk p l e s m args below meth c H locs ls hC hR hz hS hl)
theorem wp_iast {a n j : Nat} {i v : Int32} (hd : decode y.2.1 pc = .ok (.iastore, 1)) (ha : xK X a = 11) (hn : xN X a = n) (hb : n < 2147483648) (hj : i = nI j) (hlt : j < n) (kk : Wp G y d mc ms ce sl (pc + 1) lo st X (sI M a j v) Q) : Wp G y d mc ms ce sl pc lo (.int v :: .int i :: .ref a :: st) X M Q := by
  intro p l e s m args below meth c H locs ls hC hR hz hS hl
  obtain ⟨q0, hq⟩ := hR.at (a := a) (by omega)
  have hq2 := hq
  rw [ent_i ha, hn] at hq2
  obtain ⟨h1, h2⟩ := ix_in hj hlt hb
  refine va_iast hC.1 hC.2.1 hC.2.2.2.2.2.2.2.1.1 hR.2.2 (LL_D G X _) hS q0 0 hq2 rfl h1 hd (fun H1 locs1 hP1 _ hS1 => ?_)
  rw [h2] at hP1
  exact kk p l e s m args below meth c H1 locs1 ls hC (hR.set (by omega) hq hP1 (ent_up (by rw [ent_i ha, hn, mI_sI, up2_row]) (fun b hb => ent_off (up2_off _ _ _ hb) rfl rfl))) hz hS1 hl
theorem wp_last {a n j : Nat} {i : Int32} {v : Int64} (hd : decode y.2.1 pc = .ok (.lastore, 1)) (ha : xK X a = 12) (hn : xN X a = n) (hb : n < 2147483648) (hj : i = nI j) (hlt : j < n) (kk : Wp G y d mc ms ce sl (pc + 1) lo st X (sJ M a j v) Q) : Wp G y d mc ms ce sl pc lo (.long v :: .int i :: .ref a :: st) X M Q := by
  intro p l e s m args below meth c H locs ls hC hR hz hS hl
  obtain ⟨q0, hq⟩ := hR.at (a := a) (by omega)
  have hq2 := hq
  rw [ent_j ha, hn] at hq2
  obtain ⟨h1, h2⟩ := ix_in hj hlt hb
  refine va_last hC.1 hC.2.1 hC.2.2.2.2.2.2.2.1.1 hR.2.2 (LL_D G X _) hS q0 1 hq2 rfl h1 hd (fun H1 locs1 hP1 _ hS1 => ?_)
  rw [h2] at hP1
  exact kk p l e s m args below meth c H1 locs1 ls hC (hR.set (by omega) hq hP1 (ent_up (by rw [ent_j ha, hn, mJ_sJ, up2_rowL]) (fun b hb => ent_off rfl (up2_off _ _ _ hb) rfl))) hz hS1 hl
theorem wp_zast {a n j : Nat} {i v : Int32} (hd : decode y.2.1 pc = .ok (.bastore, 1)) (ha : xK X a = 13) (hn : xN X a = n) (hb : n < 2147483648) (hj : i = nI j) (hlt : j < n) (kk : Wp G y d mc ms ce sl (pc + 1) lo st X (sI M a j v) Q) : Wp G y d mc ms ce sl pc lo (.int v :: .int i :: .ref a :: st) X M Q := by
  intro p l e s m args below meth c H locs ls hC hR hz hS hl
  obtain ⟨q0, hq⟩ := hR.at (a := a) (by omega)
  have hq2 := hq
  rw [ent_z ha, hn] at hq2
  obtain ⟨h1, h2⟩ := ix_in hj hlt hb
  refine va_zast hC.1 hC.2.1 hC.2.2.2.2.2.2.2.1.1 hR.2.2 (LL_D G X _) hS q0 2 hq2 rfl h1 hd (fun H1 locs1 hP1 _ hS1 => ?_)
  rw [h2] at hP1
  have hrow : (fun k => vp_nar .boolean (mI (sI M a j v) a k)) = upd (fun k => vp_nar .boolean (mI M a k)) j (vp_nar .boolean v) := by
    funext k
    rw [mI_sI, up2_row]
    unfold upd
    by_cases h : k = j <;> simp [h]
  exact kk p l e s m args below meth c H1 locs1 ls hC (hR.set (by omega) hq hP1 (ent_up (by rw [ent_z ha, hn, hrow]) (fun b hb => ent_off (up2_off _ _ _ hb) rfl rfl))) hz hS1 hl
theorem wp_rast {a n j t : Nat} {i : Int32} (hd : decode y.2.1 pc = .ok (.aastore, 1)) (ha : xK X a = 14) (hn : xN X a = n) (hb : n < 2147483648) (hj : i = nI j) (hlt : j < n) (ht : xK X t = 4) (kk : Wp G y d mc ms ce sl (pc + 1) lo st X (sR M a j (some t)) Q) : Wp G y d mc ms ce sl pc lo (.ref t :: .int i :: .ref a :: st) X M Q := by
  intro p l e s m args below meth c H locs ls hC hR hz hS hl
  obtain ⟨q0, hq⟩ := hR.at (a := a) (by omega)
  obtain ⟨q1, hq1⟩ := hR.at (a := t) (by omega)
  have hq2 := hq
  rw [ent_r ha, hn] at hq2
  rw [ent_obj ht (by decide)] at hq1
  obtain ⟨h1, h2⟩ := ix_in hj hlt hb
  refine va_astq (r := (RX4, TX4, 10)) hC.1 hC.2.1 hC.2.2.2.2.2.2.2.1.1 hR.2.2 (LL_D G X _) hS q0 3 q1 4 hq2 rfl hq1 rfl h1 hd (fun H1 locs1 hP1 _ hS1 => ?_)
  rw [h2] at hP1
  exact kk p l e s m args below meth c H1 locs1 ls hC (hR.set (by omega) hq hP1 (ent_up (by rw [ent_r ha, hn, mR_sR, up2_rowR]) (fun b hb => ent_off rfl rfl (up2_off _ _ _ hb)))) hz hS1 hl
theorem wp_ldc {idx : Nat} {v : Int32} (hd : decode y.2.1 pc = .ok (.ldc idx, 2)) (hw : Cond.constant y.1.cls idx v ∈ GW) (kk : Wp G y d mc ms ce sl (pc + 2) lo (.int v :: st) X M Q) : Wp G y d mc ms ce sl pc lo st X M Q :=
  fun p l e s m args below meth c H locs ls hC hR hz hS hl => lv_ldc hC.1 hC.2.1 hC.2.2.2.2.2.1 (hC.2.2.2.2.2.2.1 _ hw) hd (kk p l e s m args below meth c H locs ls hC hR hz hS hl)
theorem wp_ldcw {idx : Nat} {v : Int32} (hd : decode y.2.1 pc = .ok (.ldc_w idx, 3)) (hw : Cond.constant y.1.cls idx v ∈ GW) (kk : Wp G y d mc ms ce sl (pc + 3) lo (.int v :: st) X M Q) : Wp G y d mc ms ce sl pc lo st X M Q :=
  fun p l e s m args below meth c H locs ls hC hR hz hS hl => lv_ldcw hC.1 hC.2.1 hC.2.2.2.2.2.1 (hC.2.2.2.2.2.2.1 _ hw) hd (kk p l e s m args below meth c H locs ls hC hR hz hS hl)
theorem wp_ldc2 {idx : Nat} {v : Int64} (hd : decode y.2.1 pc = .ok (.ldc2_w idx, 3)) (hw : Cond.constantLong y.1.cls idx v ∈ GW) (kk : Wp G y d mc ms ce sl (pc + 3) lo (.long v :: st) X M Q) : Wp G y d mc ms ce sl pc lo st X M Q :=
  fun p l e s m args below meth c H locs ls hC hR hz hS hl => lv_ldc2 hC.1 hC.2.1 hC.2.2.2.2.2.1 (hC.2.2.2.2.2.2.1 _ hw) hd (kk p l e s m args below meth c H locs ls hC hR hz hS hl)
theorem wp_tblIn {dflt tl th : Int} {offs : Array Int} {len : Nat} {x : Int32} {off : Int} {tgt : Nat} (hd : decode y.2.1 pc = .ok (.tableswitch dflt tl th offs, len)) (h1 : ¬ x.toInt < tl) (h2 : ¬ th < x.toInt) (ho : offs[(x.toInt - tl).toNat]? = some off) (ht : (pc : Int) + off = (tgt : Int)) (kk : Wp G y d mc ms ce sl tgt lo st X M Q) : Wp G y d mc ms ce sl pc lo (.int x :: st) X M Q :=
  fun p l e s m args below meth c H locs ls hC hR hz hS hl => lv_tableIn hC.1 hC.2.1 hd h1 h2 ho ht (kk p l e s m args below meth c H locs ls hC hR hz hS hl)
theorem wp_tblOut {dflt tl th : Int} {offs : Array Int} {len : Nat} {x : Int32} {tgt : Nat} (hd : decode y.2.1 pc = .ok (.tableswitch dflt tl th offs, len)) (h : x.toInt < tl ∨ th < x.toInt) (ht : (pc : Int) + dflt = (tgt : Int)) (kk : Wp G y d mc ms ce sl tgt lo st X M Q) : Wp G y d mc ms ce sl pc lo (.int x :: st) X M Q :=
  fun p l e s m args below meth c H locs ls hC hR hz hS hl => lv_tableOut hC.1 hC.2.1 hd h ht (kk p l e s m args below meth c H locs ls hC hR hz hS hl)
theorem wp_lkup {dflt : Int} {ps : Array (Int × Int)} {len : Nat} {x : Int32} {off : Int} {tgt : Nat} (hd : decode y.2.1 pc = .ok (.lookupswitch dflt ps, len)) (hp : (ps.toList.zip (ps.toList.drop 1)).all (fun (a, next) => a.1 < next.1) = true) (ho : Op.lookupswitch.offset ps.toList dflt x.toInt = off) (ht : (pc : Int) + off = (tgt : Int)) (kk : Wp G y d mc ms ce sl tgt lo st X M Q) : Wp G y d mc ms ce sl pc lo (.int x :: st) X M Q :=
  fun p l e s m args below meth c H locs ls hC hR hz hS hl => lv_lookup hC.1 hC.2.1 hd hp ho ht (kk p l e s m args below meth c H locs ls hC hR hz hS hl)
theorem wp_iret {v : Int32} (hd : decode y.2.1 pc = .ok (.ireturn, 1)) (hr : y.2.2.2 = some .int) (h1 : ce = mc) (h2 : sl ≤ ms) (hq : Q X M (some (.int v))) : Wp G y d mc ms ce sl pc lo [.int v] X M Q := by
  intro p l e s m args below meth c H locs ls hC hR hz hS hl
  subst h1
  refine W.sized (fun hsz => ?_)
  have hsz2 := hR.size hz hC.2.2.2.2.2.2.2.2.2.2 hS hsz
  refine W.widen (Nat.le_refl _) h2 ?_
  exact W.iret hC.1 hC.2.1 (hC.2.2.2.1.trans hr) (fun t ht hw => ⟨⟨_, X, M, rfl, hq, by rw [ht]; exact hR, by rw [ht]; exact hsz2⟩, hS.F ht⟩) hS.2.2 hd hC.2.2.2.2.1
theorem wp_zret {v : Int32} (hd : decode y.2.1 pc = .ok (.ireturn, 1)) (hr : y.2.2.2 = some .boolean) (h1 : ce = mc) (h2 : sl ≤ ms) (hv : v = 0 ∨ v = 1) (hq : Q X M (some (.int v))) : Wp G y d mc ms ce sl pc lo [.int v] X M Q := by
  intro p l e s m args below meth c H locs ls hC hR hz hS hl
  subst h1
  refine W.sized (fun hsz => ?_)
  have hsz2 := hR.size hz hC.2.2.2.2.2.2.2.2.2.2 hS hsz
  refine W.widen (Nat.le_refl _) h2 ?_
  exact W.zret hC.1 hC.2.1 (hC.2.2.2.1.trans hr) (by rcases hv with rfl | rfl <;> rfl) (fun t ht hw => ⟨⟨_, X, M, rfl, hq, by rw [ht]; exact hR, by rw [ht]; exact hsz2⟩, hS.F ht⟩) hS.2.2 hd hC.2.2.2.2.1
theorem wp_vret (hd : decode y.2.1 pc = .ok (.return_, 1)) (hr : y.2.2.2 = none) (h1 : ce = mc) (h2 : sl ≤ ms) (hq : Q X M none) : Wp G y d mc ms ce sl pc lo [] X M Q := by
  intro p l e s m args below meth c H locs ls hC hR hz hS hl
  subst h1
  refine W.sized (fun hsz => ?_)
  have hsz2 := hR.size hz hC.2.2.2.2.2.2.2.2.2.2 hS hsz
  refine W.widen (Nat.le_refl _) h2 ?_
  exact W.vret hC.1 hC.2.1 (hC.2.2.2.1.trans hr) (fun t ht hw => ⟨⟨_, X, M, rfl, hq, by rw [ht]; exact hR, by rw [ht]; exact hsz2⟩, hS.F ht⟩) hS.2.2 hd hC.2.2.2.2.1
/-- the words of a call: the pool's entry idx of the class own is the method y2, of n arguments -/
def CK0 (y2 : Md) (n : Nat) : Prop := Cond.initialized y2.1.cls ∈ GW ∧ Cond.code y2.1 y2.2.1 y2.2.2.1 y2.2.2.2 ∈ GW ∧ (y2.1.cls ≠ "java/lang/invoke/MethodHandle" ∧ y2.1.cls ≠ "java/lang/invoke/VarHandle" ∧ (parseMethodDescriptor y2.1.desc).map (fun d => d.parameters.length) = some n) ∧ y2.2.2.1 ≤ 21
def CKs (own : String) (idx : Nat) (y2 : Md) (n : Nat) : Prop := CK0 y2 n ∧ Cond.methodLink own idx y2.1 ∈ GW ∧ Cond.static y2.1 ∈ GW
def CKv (own : String) (idx : Nat) (y2 : Md) (n ci : Nat) : Prop := CK0 y2 n ∧ Cond.methodLink own idx y2.1 ∈ GW ∧ Cond.instanceMethod y2.1 ∈ GW ∧ Cond.selects y2.1.cls y2.1 y2.1 ∈ GW ∧ ci < 11 ∧ ∃ T : u_T, vwCl[ci]? = some (y2.1.cls, T, nFd ci)
def CKi (own : String) (idx : Nat) (y2 : Md) (n : Nat) : Prop := CK0 y2 n ∧ Cond.methodLink own idx y2.1 ∈ GW ∧ Cond.instanceMethod y2.1 ∈ GW ∧ y2.1.name = "<init>" ∧ y2.2.2.2 = none
def CKn (own : String) (idx : Nat) (y2 : Md) (n : Nat) : Prop := CK0 y2 n ∧ (own, idx, y2.1) ∈ NW1 ∧ Cond.static y2.1 ∈ GW
theorem gw_wsm {y2 : Md} (h : Cond.code y2.1 y2.2.1 y2.2.2.1 y2.2.2.2 ∈ GW) : GoodIn GW (wsm y2) := by
  intro w hw
  rcases List.mem_cons.mp hw with rfl | hw
  · exact ⟨h, (gw_good _ h).2⟩
  · exact ⟨hw, (gw_good _ hw).2⟩
theorem rmd_fit {d mc2 ms2 maxL : Nat} (h : maxL ≤ 21) : (rmd d mc2 ms2).frames + 1 ≤ (rmd (d + 1) mc ms).frames ∧ 8 + (maxL + 11) + (rmd d mc2 ms2).locals ≤ (rmd (d + 1) mc ms).locals := by
  constructor
  · exact Nat.le_refl _
  · show 8 + (maxL + 11) + 40 * d ≤ 40 * (d + 1)
    omega
theorem Pc_blind {as : List Value} : FrameBlind (va_Pc as (fun U => KU G U ∧ SE G U U.heap ∧ Rel G X M U.heap ∧ U.heap.size = xz X)) := by
  rintro a U g mk ⟨h1, h2, h3, h4, h5⟩
  exact ⟨h1, KU.same (u := U) rfl h2, SE.moved (u := U) (Vm.Alike.refl U.vm) h3, h4, h5⟩
theorem Pc_of {s : State} {H : Heap} {locs : List Loc} {as : List Value} (hK : KU G s) (hE : SE G s s.heap) (hS : va_S (AA G) s.heap H locs) (hR : Rel G X M H) (hsz : H.size = xz X) (U : State) (hU : U.heap = H) (hW : s.WarmedH U.vm) : va_Pc as (fun U => KU G U ∧ SE G U U.heap ∧ Rel G X M U.heap ∧ U.heap.size = xz X) as.toArray U :=
  ⟨rfl, hK.warm hW, (by rw [hU]; exact (hE.moved hW.alike).kept hS.2.1), by rw [hU]; exact hR, by rw [hU]; exact hsz⟩
/-- behind a call -/
theorem wp_back {p : Program} {l : Launch} {e : Env} {s : State} {m : MethodId} {args : Array Value} {below : List Frame} {meth : Method} {c : Code} {H : Heap} {locs : List Loc} {ls : Array Slot} {a : Array Value} {rest st0 : List Value} {mc2 ms2 : Nat} {Q1 : Sh → Mm → Option Value → Prop}
    (hC : Cx G y p s m args meth c) (hz : xz X = s.heap.size + ce) (hS : va_S (AA G) s.heap H locs) (hl : lv_has ls y.2.2.1 lo)
    (hr : va_Run p l e (rmd d mc ms) s m args below meth c H locs ce sl mc2 ms2 (F0 m pc ls st0) rest (Qm G Q1 a) (AA G)) (hzz : ∀ X' M' v, Q1 X' M' v → xz X' = xz X + mc2)
    (kk : ∀ X' M' v, Q1 X' M' v → Wp G y d mc ms (ce + mc2) (sl + ms2) (pc + 3) lo (v.toList ++ rest) X' M' Q) : W p l e (rmd d mc ms) s m args below meth c H locs ce sl (MQ below (Qm G Q) args s mc ms (AA G)) (F0 m pc ls st0) := by
  intro T hT X0
  obtain ⟨v, st₀, t, T', L, h0, X', hL, e1, e2, ⟨⟨v1, X1, M1, hv, hq, hR1, hs1⟩, hF⟩, hst⟩ := hr T hT X0
  cases hv
  obtain ⟨hF1, hF2⟩ := hF
  rw [h0] at hF1 hF2
  have hS1 : va_S (AA G) s.heap T'.heap (locs ++ L) := ⟨Nat.le_trans hS.1 (by rw [e1]; exact hF1), fun q h1 h2 => by rw [e1, hF2 q (Nat.lt_of_lt_of_le h1 hS.1) h2]; exact hS.2.1 q h1 h2, fun q hq => by
    rcases List.mem_append.mp hq with h | h
    · exact hS.2.2 q h
    · exact hL q h⟩
  obtain ⟨t2, a1, b1⟩ := kk X1 M1 v hq p l e s m args below meth c T'.heap (locs ++ L) ls hC (by rw [e1]; exact hR1) (by rw [hzz X1 M1 v hq, hz, Nat.add_assoc]) hS1 hl T' rfl X'
  exact ⟨t2, hst t2 a1, b1⟩
theorem wp_callS {y2 : Md} {n idx mc2 ms2 : Nat} {as rest : List Value} {Q1 : Sh → Mm → Option Value → Prop} (hd : decode y.2.1 pc = .ok (.invokestatic idx, 3)) (hw : CKs y.1.cls idx y2 n) (hn : as.length = n) (hst : st = as.reverse ++ rest) (hc8 : (rest.map fun v => v.category).sum ≤ 8) (h1 : ce + mc2 ≤ mc) (h2 : sl + ms2 ≤ ms) (hM : Cl G y2 d mc2 ms2 as X M Q1) (hzz : ∀ X' M' v, Q1 X' M' v → xz X' = xz X + mc2)
    (kk : ∀ X' M' v, Q1 X' M' v → Wp G y (d + 1) mc ms (ce + mc2) (sl + ms2) (pc + 3) lo (v.toList ++ rest) X' M' Q) : Wp G y (d + 1) mc ms ce sl pc lo st X M Q := by
  intro p l e s m args below meth c H locs ls hC hR hz hS hl
  subst hst
  have hts := hC.2.2.2.2.2.2.1
  obtain ⟨⟨hi, hcd, hdd, h21⟩, hl1, hst⟩ := hw
  refine W.sized (fun hsz => ?_)
  have hsz2 := hR.size hz hC.2.2.2.2.2.2.2.2.2.2 hS hsz
  refine wp_back hC hz hS hl (va_runS (bytes := y2.2.1) (maxL := y2.2.2.1) (ret := y2.2.2.2) (n := n) (nL := y.2.2.1) (Ts := GW) ⟨hC.1, hC.2.1, hC.2.2.1, hC.2.2.2.2.2.1, hts⟩ (hM l) ⟨callB_of n hts (gw_wsm hcd) rfl rfl rfl (hts _ hi) (hts _ hl1) hdd (rmd_fit h21), hts _ hst⟩ ⟨Pc_blind, Pc_of hC.2.2.2.2.2.2.2.1 hC.2.2.2.2.2.2.2.2.1 hS hR hsz2⟩ rfl hn hl.1 rfl (lv_room hc8) hd ⟨h1, h2⟩) hzz kk
theorem wp_callN {y2 : Md} {n idx mc2 ms2 : Nat} {as rest : List Value} {Q1 : Sh → Mm → Option Value → Prop} (hd : decode y.2.1 pc = .ok (.invokestatic idx, 3)) (hw : CKn y.1.cls idx y2 n) (hn : as.length = n) (hst : st = as.reverse ++ rest) (hc8 : (rest.map fun v => v.category).sum ≤ 8) (h1 : ce + mc2 ≤ mc) (h2 : sl + ms2 ≤ ms) (hM : Cl G y2 d mc2 ms2 as X M Q1) (hzz : ∀ X' M' v, Q1 X' M' v → xz X' = xz X + mc2)
    (kk : ∀ X' M' v, Q1 X' M' v → Wp G y (d + 1) mc ms (ce + mc2) (sl + ms2) (pc + 3) lo (v.toList ++ rest) X' M' Q) : Wp G y (d + 1) mc ms ce sl pc lo st X M Q := by
  intro p l e s m args below meth c H locs ls hC hR hz hS hl
  subst hst
  have hts := hC.2.2.2.2.2.2.1
  obtain ⟨⟨hi, hcd, hdd, h21⟩, hnw, hst⟩ := hw
  refine W.sized (fun hsz => ?_)
  have hsz2 := hR.size hz hC.2.2.2.2.2.2.2.2.2.2 hS hsz
  have hnl : va_Nw (.methodLinkNest y.1.cls idx y2.1 "BurdenHouse") s := hC.2.2.2.2.2.2.2.1.2.1 _ hnw
  refine wp_back hC hz hS hl (va_runSN (host := "BurdenHouse") (bytes := y2.2.1) (maxL := y2.2.2.1) (ret := y2.2.2.2) (n := n) (nL := y.2.2.1) (Ts := GW) ⟨hC.1, hC.2.1, hC.2.2.1, hC.2.2.2.2.2.1, hts⟩ (hM l) ⟨va_cnB n hts (gw_wsm hcd) rfl rfl rfl hnl (hts _ hi) hdd (rmd_fit h21), hts _ hst, trivial⟩ ⟨Pc_blind, Pc_of hC.2.2.2.2.2.2.2.1 hC.2.2.2.2.2.2.2.2.1 hS hR hsz2⟩ rfl hn hl.1 rfl (lv_room hc8) hd ⟨h1, h2⟩) hzz kk
theorem wp_callI {y2 : Md} {n idx mc2 ms2 b : Nat} {as rest : List Value} {Q1 : Sh → Mm → Option Value → Prop} (hd : decode y.2.1 pc = .ok (.invokespecial idx, 3)) (hw : CKi y.1.cls idx y2 n) (hn : as.length = n) (hst : st = as.reverse ++ .ref b :: rest) (hc8 : (rest.map fun v => v.category).sum ≤ 8) (h1 : ce + mc2 ≤ mc) (h2 : sl + ms2 ≤ ms) (hM : Cl G y2 d mc2 ms2 (.ref b :: as) X M Q1) (hzz : ∀ X' M' v, Q1 X' M' v → xz X' = xz X + mc2)
    (kk : ∀ X' M' v, Q1 X' M' v → Wp G y (d + 1) mc ms (ce + mc2) (sl + ms2) (pc + 3) lo (v.toList ++ rest) X' M' Q) : Wp G y (d + 1) mc ms ce sl pc lo st X M Q := by
  intro p l e s m args below meth c H locs ls hC hR hz hS hl
  subst hst
  have hts := hC.2.2.2.2.2.2.1
  obtain ⟨⟨hi, hcd, hdd, h21⟩, hl1, hins, hnm, hret⟩ := hw
  refine W.sized (fun hsz => ?_)
  have hsz2 := hR.size hz hC.2.2.2.2.2.2.2.2.2.2 hS hsz
  have hg := gw_wsm hcd
  have hfit := rmd_fit (mc := mc) (ms := ms) (d := d) (mc2 := mc2) (ms2 := ms2) h21
  rw [hret] at hcd
  refine wp_back hC hz hS hl (va_runI (bytes := y2.2.1) (maxL := y2.2.2.1) (n := n) (nL := y.2.2.1) (Ts := GW) ⟨hC.1, hC.2.1, hC.2.2.1, hC.2.2.2.2.2.1, hts⟩ (hM l) ⟨callB_of n hts hg (by rw [wsm, hret]) rfl rfl (hts _ hi) (hts _ hl1) hdd hfit, hnm, hts _ hins⟩ ⟨Pc_blind, Pc_of hC.2.2.2.2.2.2.2.1 hC.2.2.2.2.2.2.2.2.1 hS hR hsz2⟩ rfl hn hl.1 rfl (lv_room hc8) hd ⟨h1, h2⟩) hzz kk
theorem wp_callV {y2 : Md} {n ci idx mc2 ms2 b : Nat} {as rest : List Value} {Q1 : Sh → Mm → Option Value → Prop} (hd : decode y.2.1 pc = .ok (.invokevirtual idx, 3)) (hw : CKv y.1.cls idx y2 n ci) (hb : xK X b = ci) (hn : as.length = n) (hst : st = as.reverse ++ .ref b :: rest) (hc8 : (rest.map fun v => v.category).sum ≤ 8) (h1 : ce + mc2 ≤ mc) (h2 : sl + ms2 ≤ ms) (hM : Cl G y2 d mc2 ms2 (.ref b :: as) X M Q1) (hzz : ∀ X' M' v, Q1 X' M' v → xz X' = xz X + mc2)
    (kk : ∀ X' M' v, Q1 X' M' v → Wp G y (d + 1) mc ms (ce + mc2) (sl + ms2) (pc + 3) lo (v.toList ++ rest) X' M' Q) : Wp G y (d + 1) mc ms ce sl pc lo st X M Q := by
  intro p l e s m args below meth c H locs ls hC hR hz hS hl
  subst hst
  have hts := hC.2.2.2.2.2.2.1
  obtain ⟨⟨hi, hcd, hdd, h21⟩, hl1, hins, hsel, hci, T, hcl⟩ := hw
  refine W.sized (fun hsz => ?_)
  have hsz2 := hR.size hz hC.2.2.2.2.2.2.2.2.2.2 hS hsz
  obtain ⟨q0, cell, hq, h3, h4, h5, h6⟩ := hR.obj hb hci hcl
  obtain ⟨hSl, hfc, kC, hkC, hkind⟩ := hC.2.2.2.2.2.2.2.1.1.1 ci _ hcl
  refine wp_back hC hz hS hl (va_runV (bytes := y2.2.1) (maxL := y2.2.2.1) (ret := y2.2.2.2) (n := n) (nL := y.2.2.1) (Ts := GW) (C := y2.1.cls) ⟨hC.1, hC.2.1, hC.2.2.1, hC.2.2.2.2.2.1, hts⟩ (hM l) ⟨callB_of n hts (gw_wsm hcd) rfl rfl rfl (hts _ hi) (hts _ hl1) hdd (rmd_fit h21), hts _ hins, hts _ hsel⟩ ⟨Pc_blind, ⟨cell, h3, by rw [h5]; rfl, by rw [h4]; exact hfc⟩, Pc_of hC.2.2.2.2.2.2.2.1 hC.2.2.2.2.2.2.2.2.1 hS hR hsz2⟩ rfl hn hl.1 rfl (lv_room hc8) hd ⟨h1, h2⟩) hzz kk
theorem wp_objInit {idx b : Nat} {rest : List Value} (hd : decode y.2.1 pc = .ok (.invokespecial idx, 3)) (hw : Cond.methodLink y.1.cls idx Lib.objectInit ∈ GW) (hw2 : Cond.instanceMethod Lib.objectInit ∈ GW) (hw3 : Cond.code Lib.objectInit ⟨#[0xb1]⟩ 1 none ∈ GW) (hc8 : (rest.map fun v => v.category).sum ≤ 8) (kk : Wp G y (d + 1) mc ms ce sl (pc + 3) lo rest X M Q) : Wp G y (d + 1) mc ms ce sl pc lo (.ref b :: rest) X M Q := by
  intro p l e s m args below meth c H locs ls hC hR hz hS hl
  have hts := hC.2.2.2.2.2.2.1
  refine W.objInit hC.1 hC.2.1 hC.2.2.2.2.2.1 (hts _ hw) (hts _ hw2) (hts _ hw3) rfl (hl.1.trans hC.2.2.1.symm) rfl hd ?_ ?_ (kk p l e s m args below meth c H locs ls hC hR hz hS hl)
  · show 1 ≤ d + 1
    omega
  · have := lv_room (m := m) (pc := pc) (ls := ls) (rest := .ref b :: rest) hc8
    show _ ≤ 40 * (d + 1)
    omega
theorem rmd_1 : 1 ≤ (rmd (d + 1) mc ms).frames := by
  show 1 ≤ d + 1
  omega
theorem rmd_l {k : Nat} (h : k ≤ 40) : k ≤ (rmd (d + 1) mc ms).locals := by
  show k ≤ 40 * (d + 1)
  omega
theorem wp_mmax {idx : Nat} {x1 y1 : Int32} {rest : List Value} (hd : decode y.2.1 pc = .ok (.invokestatic idx, 3)) (hw : Cond.methodLink y.1.cls idx Lib.Math.max.name ∈ GW) (hw2 : Cond.static Lib.Math.max.name ∈ GW) (hw3 : Cond.initialized "java/lang/Math" ∈ GW) (hw4 : Cond.code Lib.Math.max.name Lib.Math.max.code 2 (some .int) ∈ GW) (hc8 : (rest.map fun v => v.category).sum ≤ 8) (h1 : ce ≤ mc) (h2 : sl ≤ ms) (kk : Wp G y (d + 1) mc ms ce sl (pc + 3) lo (.int (if x1 < y1 then y1 else x1) :: rest) X M Q) : Wp G y (d + 1) mc ms ce sl pc lo (.int y1 :: .int x1 :: rest) X M Q := by
  intro p l e s m args below meth c H locs ls hC hR hz hS hl
  have hts := hC.2.2.2.2.2.2.1
  exact va_mmax hC.1 hC.2.1 (hC.2.2.1.trans hl.1.symm) hC.2.2.2.2.2.1 (hts _ hw) (hts _ hw2) (hts _ hw3) (hts _ hw4) rmd_1 (rmd_l (by omega)) h1 h2 hd (kk p l e s m args below meth c H locs ls hC hR hz hS hl)
theorem wp_mmin {idx : Nat} {x1 y1 : Int32} {rest : List Value} (hd : decode y.2.1 pc = .ok (.invokestatic idx, 3)) (hw : Cond.methodLink y.1.cls idx Lib.Math.min.name ∈ GW) (hw2 : Cond.static Lib.Math.min.name ∈ GW) (hw3 : Cond.initialized "java/lang/Math" ∈ GW) (hw4 : Cond.code Lib.Math.min.name Lib.Math.min.code 2 (some .int) ∈ GW) (hc8 : (rest.map fun v => v.category).sum ≤ 8) (h1 : ce ≤ mc) (h2 : sl ≤ ms) (kk : Wp G y (d + 1) mc ms ce sl (pc + 3) lo (.int (if y1 < x1 then y1 else x1) :: rest) X M Q) : Wp G y (d + 1) mc ms ce sl pc lo (.int y1 :: .int x1 :: rest) X M Q := by
  intro p l e s m args below meth c H locs ls hC hR hz hS hl
  have hts := hC.2.2.2.2.2.2.1
  exact va_mmin hC.1 hC.2.1 (hC.2.2.1.trans hl.1.symm) hC.2.2.2.2.2.1 (hts _ hw) (hts _ hw2) (hts _ hw3) (hts _ hw4) rmd_1 (rmd_l (by omega)) h1 h2 hd (kk p l e s m args below meth c H locs ls hC hR hz hS hl)
theorem wp_mabs {idx : Nat} {x1 : Int32} {rest : List Value} (hd : decode y.2.1 pc = .ok (.invokestatic idx, 3)) (hw : Cond.methodLink y.1.cls idx Lib.Math.abs.name ∈ GW) (hw2 : Cond.static Lib.Math.abs.name ∈ GW) (hw3 : Cond.initialized "java/lang/Math" ∈ GW) (hw4 : Cond.code Lib.Math.abs.name Lib.Math.abs.code 1 (some .int) ∈ GW) (hc8 : (rest.map fun v => v.category).sum ≤ 8) (h1 : ce ≤ mc) (h2 : sl ≤ ms) (kk : Wp G y (d + 1) mc ms ce sl (pc + 3) lo (.int (if 0 ≤ x1 then x1 else 0 - x1) :: rest) X M Q) : Wp G y (d + 1) mc ms ce sl pc lo (.int x1 :: rest) X M Q := by
  intro p l e s m args below meth c H locs ls hC hR hz hS hl
  have hts := hC.2.2.2.2.2.2.1
  exact va_mabs hC.1 hC.2.1 (hC.2.2.1.trans hl.1.symm) hC.2.2.2.2.2.1 (hts _ hw) (hts _ hw2) (hts _ hw3) (hts _ hw4) rmd_1 (rmd_l (by omega)) h1 h2 hd (kk p l e s m args below meth c H locs ls hC hR hz hS hl)
/-- many places of one row of ints come to another (or the same), as they were -/
def sC (M : Mm) (a0 sp a dp n : Nat) : Mm := (fun b => if b = a then va_cpy (mI M a0) (mI M a) sp dp n else mI M b, mJ M, mR M)
theorem sC_row (M : Mm) (a0 sp a dp n : Nat) : mI (sC M a0 sp a dp n) a = va_cpy (mI M a0) (mI M a) sp dp n := by simp [sC, mI]
theorem sC_off (M : Mm) (a0 sp a dp n : Nat) {b : Nat} (h : b ≠ a) : mI (sC M a0 sp a dp n) b = mI M b := by simp [sC, mI, h]
theorem mJ_sC (M : Mm) (a0 sp a dp n : Nat) : mJ (sC M a0 sp a dp n) = mJ M := rfl
theorem mR_sC (M : Mm) (a0 sp a dp n : Nat) : mR (sC M a0 sp a dp n) = mR M := rfl
def CKc (own : String) (idx : Nat) : Prop := Cond.methodLink own idx arraycopyName ∈ GW ∧ Cond.native arraycopyName ∈ GW ∧ Cond.static arraycopyName ∈ GW ∧ Cond.initialized "java/lang/System" ∈ GW
theorem wp_copy {idx a a0 n0 n1 i k j : Nat} {sp dp n : Int32} {rest : List Value} (hd : decode y.2.1 pc = .ok (.invokestatic idx, 3)) (hw : CKc y.1.cls idx) (ha0 : xK X a0 = 11) (ha : xK X a = 11) (hn0 : xN X a0 = n0) (hn1 : xN X a = n1) (hb0 : n0 < 2147483648) (hb1 : n1 < 2147483648) (hsp : sp = nI i) (hdp : dp = nI k) (hn : n = nI j) (h4 : i + j ≤ n0) (h5 : k + j ≤ n1) (hc8 : (rest.map fun v => v.category).sum ≤ 8)
    (kk : Wp G y (d + 1) mc ms ce sl (pc + 3) lo rest X (sC M a0 i a k j) Q) : Wp G y (d + 1) mc ms ce sl pc lo (.int n :: .int dp :: .ref a :: .int sp :: .ref a0 :: rest) X M Q := by
  intro p l e s m args below meth c H locs ls hC hR hz hS hl
  have hts := hC.2.2.2.2.2.2.1
  obtain ⟨q0, hq0⟩ := hR.at (a := a0) (by omega)
  obtain ⟨q1, hq1⟩ := hR.at (a := a) (by omega)
  have hq2 := hq1
  rw [ent_i ha0, hn0] at hq0
  rw [ent_i ha, hn1] at hq2
  subst hsp
  subst hdp
  subst hn
  have c1 : (nI i).toNatClampNeg = i := nI_clamp (by omega)
  have c2 : (nI k).toNatClampNeg = k := nI_clamp (by omega)
  have c3 : (nI j).toNatClampNeg = j := nI_clamp (by omega)
  refine va_copyi (ty := .int) hC.1 hC.2.1 (hC.2.2.1.trans hl.1.symm) hC.2.2.2.2.2.1 (hts _ hw.1) (hts _ hw.2.1) (hts _ hw.2.2.1) (hts _ hw.2.2.2) hC.2.2.2.2.2.2.2.1.1 hR.2.2 (LL_D G X _) hS q0 q1 0 0 hq0 hq2 rfl rfl rfl (nI_pos (by omega)) (nI_pos (by omega)) (nI_pos (by omega)) (by rw [c1, c3]; exact h4) (by rw [c2, c3]; exact h5) (fun _ _ => rfl) rmd_1 (rmd_l ?_) hd (fun H1 locs1 hP1 _ hS1 => ?_)
  · have : nativeFrameWords "java/lang/System" "arraycopy" 5 = 7 := by decide +kernel
    omega
  · rw [c1, c2, c3] at hP1
    exact kk p l e s m args below meth c H1 locs1 ls hC (hR.set (by omega) hq1 hP1 (ent_up (by rw [ent_i ha, hn1, sC_row]) (fun b hb => ent_off (sC_off _ _ _ _ _ _ hb) rfl rfl))) hz hS1 hl
theorem z1_fit (x : Int32) : fits .boolean (.int (vp_nar .boolean x)) = true := by
  have h : vp_nar .boolean x = x &&& 1 := rfl
  rw [h]
  obtain ⟨j, hj, e⟩ := pk_andE x (m := 1) 1 (by decide)
  rw [e]
  match j, hj with
  | 0, _ => rfl
  | 1, _ => rfl
theorem wp_copyZ {idx a a0 n0 n1 i k j : Nat} {sp dp n : Int32} {rest : List Value} (hd : decode y.2.1 pc = .ok (.invokestatic idx, 3)) (hw : CKc y.1.cls idx) (ha0 : xK X a0 = 13) (ha : xK X a = 13) (hn0 : xN X a0 = n0) (hn1 : xN X a = n1) (hb0 : n0 < 2147483648) (hb1 : n1 < 2147483648) (hsp : sp = nI i) (hdp : dp = nI k) (hn : n = nI j) (h4 : i + j ≤ n0) (h5 : k + j ≤ n1) (hc8 : (rest.map fun v => v.category).sum ≤ 8)
    (kk : Wp G y (d + 1) mc ms ce sl (pc + 3) lo rest X (sC M a0 i a k j) Q) : Wp G y (d + 1) mc ms ce sl pc lo (.int n :: .int dp :: .ref a :: .int sp :: .ref a0 :: rest) X M Q := by
  intro p l e s m args below meth c H locs ls hC hR hz hS hl
  have hts := hC.2.2.2.2.2.2.1
  obtain ⟨q0, hq0⟩ := hR.at (a := a0) (by omega)
  obtain ⟨q1, hq1⟩ := hR.at (a := a) (by omega)
  have hq2 := hq1
  rw [ent_z ha0, hn0] at hq0
  rw [ent_z ha, hn1] at hq2
  subst hsp
  subst hdp
  subst hn
  have c1 : (nI i).toNatClampNeg = i := nI_clamp (by omega)
  have c2 : (nI k).toNatClampNeg = k := nI_clamp (by omega)
  have c3 : (nI j).toNatClampNeg = j := nI_clamp (by omega)
  refine va_copyi (ty := .boolean) hC.1 hC.2.1 (hC.2.2.1.trans hl.1.symm) hC.2.2.2.2.2.1 (hts _ hw.1) (hts _ hw.2.1) (hts _ hw.2.2.1) (hts _ hw.2.2.2) hC.2.2.2.2.2.2.2.1.1 hR.2.2 (LL_D G X _) hS q0 q1 2 2 hq0 hq2 rfl rfl rfl (nI_pos (by omega)) (nI_pos (by omega)) (nI_pos (by omega)) (by rw [c1, c3]; exact h4) (by rw [c2, c3]; exact h5) (fun _ _ => z1_fit _) rmd_1 (rmd_l ?_) hd (fun H1 locs1 hP1 _ hS1 => ?_)
  · have : nativeFrameWords "java/lang/System" "arraycopy" 5 = 7 := by decide +kernel
    omega
  · rw [c1, c2, c3] at hP1
    have hrow : (fun q => vp_nar .boolean (mI (sC M a0 i a k j) a q)) = va_cpy (fun q => vp_nar .boolean (mI M a0 q)) (fun q => vp_nar .boolean (mI M a q)) i k j := by
      funext q
      rw [sC_row]
      unfold va_cpy
      by_cases h : k ≤ q ∧ q < k + j <;> simp [h]
    exact kk p l e s m args below meth c H1 locs1 ls hC (hR.set (by omega) hq1 hP1 (ent_up (by rw [ent_z ha, hn1, hrow]) (fun b hb => ent_off (sC_off _ _ _ _ _ _ hb) rfl rfl))) hz hS1 hl
/-- the two static rows -/
theorem wp_areas {idx : Nat} (hd : decode y.2.1 pc = .ok (.getstatic idx, 3)) (hw : Cond.fieldLink y.1.cls idx "BurdenHouse$Furnace" "AREAS" "[I" ∈ GW) (kk : Wp G y d mc ms ce sl (pc + 3) lo (.ref (G.2 8) :: st) X M Q) : Wp G y d mc ms ce sl pc lo st X M Q := by
  intro p l e s m args below meth c H locs ls hC hR hz hS hl
  exact va_gets hC.1 hC.2.1 hC.2.2.2.2.2.2.2.2.1.1 hS hC.2.2.2.2.2.1 (hC.2.2.2.2.2.2.1 _ hw) (fun _ h => h) hd (kk p l e s m args below meth c H locs ls hC hR hz hS hl)
theorem wp_areaAt {j : Nat} {i : Int32} (hd : decode y.2.1 pc = .ok (.iaload, 1)) (hj : i = nI j) (hlt : j < 5) (kk : Wp G y d mc ms ce sl (pc + 1) lo (.int (areaV j) :: st) X M Q) : Wp G y d mc ms ce sl pc lo (.int i :: .ref (G.2 8) :: st) X M Q := by
  intro p l e s m args below meth c H locs ls hC hR hz hS hl
  obtain ⟨h1, h2⟩ := ix_in hj hlt (by omega)
  refine va_ti hC.1 hC.2.1 hC.2.2.2.2.2.2.2.2.1.2.1 hS h1 (v := .int (areaV j)) (by rw [h2]) hd (kk p l e s m args below meth c H locs ls hC hR hz hS hl)
theorem wp_above {idx : Nat} (hd : decode y.2.1 pc = .ok (.getstatic idx, 3)) (hw : Cond.fieldLink y.1.cls idx "BurdenHouse$Stuff" "ABOVE" "[I" ∈ GW) (kk : Wp G y d mc ms ce sl (pc + 3) lo (.ref (G.2 9) :: st) X M Q) : Wp G y d mc ms ce sl pc lo st X M Q := by
  intro p l e s m args below meth c H locs ls hC hR hz hS hl
  exact va_gets hC.1 hC.2.1 hC.2.2.2.2.2.2.2.2.1.2.2.1 hS hC.2.2.2.2.2.1 (hC.2.2.2.2.2.2.1 _ hw) (fun _ h => h) hd (kk p l e s m args below meth c H locs ls hC hR hz hS hl)
theorem wp_aboveAt {j : Nat} {i : Int32} (hd : decode y.2.1 pc = .ok (.iaload, 1)) (hj : i = nI j) (hlt : j < 6) (kk : Wp G y d mc ms ce sl (pc + 1) lo (.int (aboveV j) :: st) X M Q) : Wp G y d mc ms ce sl pc lo (.int i :: .ref (G.2 9) :: st) X M Q := by
  intro p l e s m args below meth c H locs ls hC hR hz hS hl
  obtain ⟨h1, h2⟩ := ix_in hj hlt (by omega)
  refine va_ti hC.1 hC.2.1 hC.2.2.2.2.2.2.2.2.1.2.2.2.1 hS h1 (v := .int (aboveV j)) (by rw [h2]) hd (kk p l e s m args below meth c H locs ls hC hR hz hS hl)
end ROWS
