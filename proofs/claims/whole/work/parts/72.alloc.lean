/-! allocation: the world grows by a cell -/
theorem ac_int : Cond.arrayClass .int ∈ GW := (gw_1 (List.mem_of_getElem? (l := tables_1_1) (i := 77) (by decide +kernel)) rfl)
theorem ac_long : Cond.arrayClass .long ∈ GW := (gw_1 (List.mem_of_getElem? (l := tables_1_1) (i := 177) (by decide +kernel)) rfl)
theorem ac_boolean : Cond.arrayClass .boolean ∈ GW := (gw_2 (List.mem_of_getElem? (l := tables_1_2) (i := 105) (by decide +kernel)) rfl)
theorem oi_i : Cond.instanceMethod objectInit ∈ GW ∧ Cond.code objectInit ⟨#[0xb1]⟩ 1 none ∈ GW := ⟨(gw_1 (List.mem_of_getElem? (l := tables_1_1) (i := 26) (by decide +kernel)) rfl), (gw_1 (List.mem_of_getElem? (l := tables_1_1) (i := 27) (by decide +kernel)) rfl)⟩
def xAdd (X : Sh) (K N : Nat) : Sh := (xz X + 1, va_up (xK X) (xz X) K, va_up (xN X) (xz X) N, xF X)
def xSet (X : Sh) (a k t : Nat) : Sh := (xz X, xK X, xN X, up2 (xF X) a k (some t))
theorem LL_add {G : Gl} {X : Sh} {K N : Nat} (h7 : G.2 7 ≤ xz X) (hK : K ≠ 99) : LL G (xAdd X K N) = LL G X ++ [xz X] := by
  unfold LL
  show ((List.range (xz X + 1 - G.2 7)).map (fun i => G.2 7 + i)).filter (fun a => va_up (xK X) (xz X) K a != 99) = _
  rw [show xz X + 1 - G.2 7 = (xz X - G.2 7) + 1 by omega, List.range_succ, List.map_append, List.filter_append]
  congr 1
  · refine List.filter_congr (fun a ha => ?_)
    obtain ⟨i, hi, rfl⟩ := List.mem_map.mp ha
    have := List.mem_range.mp hi
    rw [va_up_ne _ _ (by omega)]
  · show ([G.2 7 + (xz X - G.2 7)]).filter _ = [xz X]
    rw [show G.2 7 + (xz X - G.2 7) = xz X by omega]
    simp [va_up_self, hK]
theorem ent_add {G : Gl} {X : Sh} {M : Mm} {K N a : Nat} (ha : a ≠ xz X) : ent G (xAdd X K N) M a = ent G X M a := by
  have e1 : xK (xAdd X K N) a = xK X a := va_up_ne _ _ ha
  have e2 : xN (xAdd X K N) a = xN X a := va_up_ne _ _ ha
  unfold ent
  rw [e1, e2]
  rfl
theorem Rel.add {G : Gl} {X : Sh} {M : Mm} {H H1 : Heap} {K N : Nat} (h : Rel G X M H) (hK : K ≠ 99) (o1 : ∀ q, q < xz X → H1[q]? = H[q]?) (hat : va_at G.1 vwCl (xz X, ent G (xAdd X K N) M (xz X)) H1) : Rel G (xAdd X K N) M H1 := by
  refine ⟨Nat.le_succ_of_le h.1, fun a => ?_, ?_⟩
  · show va_up (xK X) (xz X) K a ≠ 99 ↔ G.2 7 ≤ a ∧ a < xz X + 1
    have h1 := h.1
    by_cases e : a = xz X
    · rw [e, va_up_self]
      exact ⟨fun _ => ⟨h1, by omega⟩, fun _ => hK⟩
    · rw [va_up_ne _ _ e, h.2.1 a]
      omega
  · rw [LL_add h.1 hK]
    intro k q hk
    have hq := List.mem_of_getElem? hk
    simp only [List.nil_append, va_pl, List.map_append] at hq
    rcases List.mem_append.mp hq with hq | hq
    · obtain ⟨a, ha, rfl⟩ := List.mem_map.mp hq
      have hb := LL_mem.mp ha
      obtain ⟨k2, hk2⟩ := h.at hb.2
      have h2 := h.2.2 k2 _ hk2
      rw [ent_add (by omega)]
      exact h2.kept (o1 a (by omega))
    · have e : q = (xz X, ent G (xAdd X K N) M (xz X)) := List.mem_singleton.mp hq
      rw [e]
      exact hat
section NEWS
variable {G : Gl} {y : Md} {d mc ms ce sl pc : Nat} {lo : List (Nat × Value)} {st : List Value} {X : Sh} {M : Mm} {Q : Sh → Mm → Option Value → Prop}
theorem wp_newi {n : Int32} {N : Nat} (hd : decode y.2.1 pc = .ok (.newarray .int, 2)) (hn : n = nI N) (hN : N ≤ 1000000) (h1 : ce + 1 ≤ mc) (h2 : sl + N ≤ ms) (hz0 : ∀ j, mI M (xz X) j = 0) (kk : Wp G y d mc ms (ce + 1) (sl + N) (pc + 2) lo (.ref (xz X) :: st) (xAdd X 11 N) M Q) : Wp G y d mc ms ce sl pc lo (.int n :: st) X M Q := by
  intro p l e s m args below meth c H locs ls hC hR hz hS hl
  refine W.sized (fun hsz => ?_)
  have hs2 := hR.size hz hC.2.2.2.2.2.2.2.2.2.2 hS hsz
  have hK := hC.2.2.2.2.2.2.2.1.1
  subst hn
  refine va_newaK (atype := .int) hC.1 hC.2.1 (hC.2.2.2.2.2.2.1 _ ac_int) rfl hd rfl (nI_pos (by omega)) (nI_clamp (by omega)) ?_ h1 h2 hs2 fun H1 cA e1 z1 o1 hAr hNm => ?_
  · show N * 4 ≤ 536870912
    omega
  have hcA : cA = G.2 0 := Option.some.inj (hNm.symm.trans (hK.2 0 _ rfl).2)
  subst hcA
  have hrow : mI M (xz X) = fun _ => 0 := funext hz0
  refine kk p l e s m args below meth c H1 locs ls hC (hR.add (by decide) o1 ?_) (by show xz X + 1 = _; omega) ⟨Nat.le_trans hS.1 (by omega), fun x hx1 hx2 => (o1 x (by omega)).trans (hS.2.1 x hx1 hx2), hS.2.2⟩ hl
  rw [ent_i (X := xAdd X 11 N) (a := xz X) (va_up_self _ _ _), show xN (xAdd X 11 N) (xz X) = N from va_up_self _ _ _, hrow]
  show H1[xz X]? = some (vp_cell _ _)
  rw [e1]
  rfl
theorem wp_newl {n : Int32} {N : Nat} (hd : decode y.2.1 pc = .ok (.newarray .long, 2)) (hn : n = nI N) (hN : N ≤ 1000000) (h1 : ce + 1 ≤ mc) (h2 : sl + N ≤ ms) (hz0 : ∀ j, mJ M (xz X) j = 0) (kk : Wp G y d mc ms (ce + 1) (sl + N) (pc + 2) lo (.ref (xz X) :: st) (xAdd X 12 N) M Q) : Wp G y d mc ms ce sl pc lo (.int n :: st) X M Q := by
  intro p l e s m args below meth c H locs ls hC hR hz hS hl
  refine W.sized (fun hsz => ?_)
  have hs2 := hR.size hz hC.2.2.2.2.2.2.2.2.2.2 hS hsz
  have hK := hC.2.2.2.2.2.2.2.1.1
  subst hn
  refine va_newaK (atype := .long) hC.1 hC.2.1 (hC.2.2.2.2.2.2.1 _ ac_long) rfl hd rfl (nI_pos (by omega)) (nI_clamp (by omega)) ?_ h1 h2 hs2 fun H1 cA e1 z1 o1 hAr hNm => ?_
  · show N * 8 ≤ 536870912
    omega
  have hcA : cA = G.2 1 := Option.some.inj (hNm.symm.trans (hK.2 1 _ rfl).2)
  subst hcA
  have hrow : mJ M (xz X) = fun _ => 0 := funext hz0
  refine kk p l e s m args below meth c H1 locs ls hC (hR.add (by decide) o1 ?_) (by show xz X + 1 = _; omega) ⟨Nat.le_trans hS.1 (by omega), fun x hx1 hx2 => (o1 x (by omega)).trans (hS.2.1 x hx1 hx2), hS.2.2⟩ hl
  rw [ent_j (X := xAdd X 12 N) (a := xz X) (va_up_self _ _ _), show xN (xAdd X 12 N) (xz X) = N from va_up_self _ _ _, hrow]
  show H1[xz X]? = some (vp_cell _ _)
  rw [e1]
  rfl
theorem wp_newz {n : Int32} {N : Nat} (hd : decode y.2.1 pc = .ok (.newarray .boolean, 2)) (hn : n = nI N) (hN : N ≤ 1000000) (h1 : ce + 1 ≤ mc) (h2 : sl + N ≤ ms) (hz0 : ∀ j, mI M (xz X) j = 0) (kk : Wp G y d mc ms (ce + 1) (sl + N) (pc + 2) lo (.ref (xz X) :: st) (xAdd X 13 N) M Q) : Wp G y d mc ms ce sl pc lo (.int n :: st) X M Q := by
  intro p l e s m args below meth c H locs ls hC hR hz hS hl
  refine W.sized (fun hsz => ?_)
  have hs2 := hR.size hz hC.2.2.2.2.2.2.2.2.2.2 hS hsz
  have hK := hC.2.2.2.2.2.2.2.1.1
  subst hn
  refine va_newaK (atype := .boolean) hC.1 hC.2.1 (hC.2.2.2.2.2.2.1 _ ac_boolean) rfl hd rfl (nI_pos (by omega)) (nI_clamp (by omega)) ?_ h1 h2 hs2 fun H1 cA e1 z1 o1 hAr hNm => ?_
  · show N * 1 ≤ 536870912
    omega
  have hcA : cA = G.2 2 := Option.some.inj (hNm.symm.trans (hK.2 2 _ rfl).2)
  subst hcA
  have hrow : (fun i => vp_nar FieldType.boolean (mI M (xz X) i)) = fun _ => 0 := funext (fun i => by rw [hz0 i]; decide)
  refine kk p l e s m args below meth c H1 locs ls hC (hR.add (by decide) o1 ?_) (by show xz X + 1 = _; omega) ⟨Nat.le_trans hS.1 (by omega), fun x hx1 hx2 => (o1 x (by omega)).trans (hS.2.1 x hx1 hx2), hS.2.2⟩ hl
  rw [ent_z (X := xAdd X 13 N) (a := xz X) (va_up_self _ _ _), show xN (xAdd X 13 N) (xz X) = N from va_up_self _ _ _, hrow]
  show H1[xz X]? = some (vp_cell _ _)
  rw [e1]
  rfl
theorem wp_newq_Layer {n : Int32} {N idx : Nat} (hd : decode y.2.1 pc = .ok (.anewarray idx, 3)) (hw : Cond.classLink y.1.cls idx RX4 ∈ GW) (hn : n = nI N) (hN : N ≤ 1000000) (h1 : ce + 1 ≤ mc) (h2 : sl + N ≤ ms) (hz0 : ∀ j, mR M (xz X) j = none) (kk : Wp G y d mc ms (ce + 1) (sl + N) (pc + 3) lo (.ref (xz X) :: st) (xAdd X 14 N) M Q) : Wp G y d mc ms ce sl pc lo (.int n :: st) X M Q := by
  intro p l e s m args below meth c H locs ls hC hR hz hS hl
  refine W.sized (fun hsz => ?_)
  have hs2 := hR.size hz hC.2.2.2.2.2.2.2.2.2.2 hS hsz
  have hK := hC.2.2.2.2.2.2.2.1.1
  subst hn
  have cl : (nI N).toNatClampNeg = N := nI_clamp (by omega)
  refine W.anew hC.1 hC.2.1 hC.2.2.2.2.2.1 (hC.2.2.2.2.2.2.1 _ hw) (va_AO.use hC.2.2.2.2.2.2.2.1.2.2.2.1) rfl hd rfl (nI_pos (by omega)) (by rw [cl]; omega) h1 (by rw [cl]; exact h2) fun cA kA comp f1 f2 f3 f4 => ?_
  rw [cl]
  generalize hH1 : H.push ({ cls := cA, slots := Array.replicate N .null, vm := .none } : Jvm.Cell) = H1
  have z1 : H1.size = H.size + 1 := by rw [← hH1, Array.size_push]
  have e1 : H1[xz X]? = some (arrV cA N (fun _ => .null)) := by rw [← hs2, ← hH1, Array.getElem?_push_size, ← arrV_new]
  have o1 : ∀ q : Nat, q < xz X → H1[q]? = H[q]? := fun q hq => by rw [← hH1, Array.getElem?_push, if_neg (by omega)]
  have hcA : cA = G.2 3 := by
    obtain ⟨_, _, _, _, _, g⟩ := (hK.2 3 _ rfl).2
    exact Option.some.inj (f1.symm.trans g)
  subst hcA
  have hrow : mR M (xz X) = fun _ => none := funext hz0
  rw [hs2]
  refine kk p l e s m args below meth c H1 locs ls hC (hR.add (by decide) o1 ?_) (by show xz X + 1 = _; omega) ⟨Nat.le_trans hS.1 (by omega), fun x hx1 hx2 => (o1 x (by omega)).trans (hS.2.1 x hx1 hx2), hS.2.2⟩ hl
  rw [ent_r (X := xAdd X 14 N) (a := xz X) (va_up_self _ _ _), show xN (xAdd X 14 N) (xz X) = N from va_up_self _ _ _, hrow]
  show H1[xz X]? = some (vp_cell _ _)
  rw [e1]
  rfl
theorem wp_newq_Sheet {n : Int32} {N idx : Nat} (hd : decode y.2.1 pc = .ok (.anewarray idx, 3)) (hw : Cond.classLink y.1.cls idx RX5 ∈ GW) (hn : n = nI N) (hN : N ≤ 1000000) (h1 : ce + 1 ≤ mc) (h2 : sl + N ≤ ms) (hz0 : ∀ j, xF X (xz X) j = none) (kk : Wp G y d mc ms (ce + 1) (sl + N) (pc + 3) lo (.ref (xz X) :: st) (xAdd X 15 N) M Q) : Wp G y d mc ms ce sl pc lo (.int n :: st) X M Q := by
  intro p l e s m args below meth c H locs ls hC hR hz hS hl
  refine W.sized (fun hsz => ?_)
  have hs2 := hR.size hz hC.2.2.2.2.2.2.2.2.2.2 hS hsz
  have hK := hC.2.2.2.2.2.2.2.1.1
  subst hn
  have cl : (nI N).toNatClampNeg = N := nI_clamp (by omega)
  refine W.anew hC.1 hC.2.1 hC.2.2.2.2.2.1 (hC.2.2.2.2.2.2.1 _ hw) (va_AO.use hC.2.2.2.2.2.2.2.1.2.2.2.2.1) rfl hd rfl (nI_pos (by omega)) (by rw [cl]; omega) h1 (by rw [cl]; exact h2) fun cA kA comp f1 f2 f3 f4 => ?_
  rw [cl]
  generalize hH1 : H.push ({ cls := cA, slots := Array.replicate N .null, vm := .none } : Jvm.Cell) = H1
  have z1 : H1.size = H.size + 1 := by rw [← hH1, Array.size_push]
  have e1 : H1[xz X]? = some (arrV cA N (fun _ => .null)) := by rw [← hs2, ← hH1, Array.getElem?_push_size, ← arrV_new]
  have o1 : ∀ q : Nat, q < xz X → H1[q]? = H[q]? := fun q hq => by rw [← hH1, Array.getElem?_push, if_neg (by omega)]
  have hcA : cA = G.2 4 := by
    obtain ⟨_, _, _, _, _, g⟩ := (hK.2 4 _ rfl).2
    exact Option.some.inj (f1.symm.trans g)
  subst hcA
  have hrow : xF X (xz X) = fun _ => none := funext hz0
  rw [hs2]
  refine kk p l e s m args below meth c H1 locs ls hC (hR.add (by decide) o1 ?_) (by show xz X + 1 = _; omega) ⟨Nat.le_trans hS.1 (by omega), fun x hx1 hx2 => (o1 x (by omega)).trans (hS.2.1 x hx1 hx2), hS.2.2⟩ hl
  rw [ent_f (X := xAdd X 15 N) (a := xz X) (t := 15) (va_up_self _ _ _) (by decide), show xN (xAdd X 15 N) (xz X) = N from va_up_self _ _ _, show xF (xAdd X 15 N) (xz X) = xF X (xz X) from rfl, hrow]
  show H1[xz X]? = some (vp_cell _ _)
  rw [e1]
  rfl
theorem wp_newq_Slot {n : Int32} {N idx : Nat} (hd : decode y.2.1 pc = .ok (.anewarray idx, 3)) (hw : Cond.classLink y.1.cls idx RX6 ∈ GW) (hn : n = nI N) (hN : N ≤ 1000000) (h1 : ce + 1 ≤ mc) (h2 : sl + N ≤ ms) (hz0 : ∀ j, xF X (xz X) j = none) (kk : Wp G y d mc ms (ce + 1) (sl + N) (pc + 3) lo (.ref (xz X) :: st) (xAdd X 16 N) M Q) : Wp G y d mc ms ce sl pc lo (.int n :: st) X M Q := by
  intro p l e s m args below meth c H locs ls hC hR hz hS hl
  refine W.sized (fun hsz => ?_)
  have hs2 := hR.size hz hC.2.2.2.2.2.2.2.2.2.2 hS hsz
  have hK := hC.2.2.2.2.2.2.2.1.1
  subst hn
  have cl : (nI N).toNatClampNeg = N := nI_clamp (by omega)
  refine W.anew hC.1 hC.2.1 hC.2.2.2.2.2.1 (hC.2.2.2.2.2.2.1 _ hw) (va_AO.use hC.2.2.2.2.2.2.2.1.2.2.2.2.2.1) rfl hd rfl (nI_pos (by omega)) (by rw [cl]; omega) h1 (by rw [cl]; exact h2) fun cA kA comp f1 f2 f3 f4 => ?_
  rw [cl]
  generalize hH1 : H.push ({ cls := cA, slots := Array.replicate N .null, vm := .none } : Jvm.Cell) = H1
  have z1 : H1.size = H.size + 1 := by rw [← hH1, Array.size_push]
  have e1 : H1[xz X]? = some (arrV cA N (fun _ => .null)) := by rw [← hs2, ← hH1, Array.getElem?_push_size, ← arrV_new]
  have o1 : ∀ q : Nat, q < xz X → H1[q]? = H[q]? := fun q hq => by rw [← hH1, Array.getElem?_push, if_neg (by omega)]
  have hcA : cA = G.2 5 := by
    obtain ⟨_, _, _, _, _, g⟩ := (hK.2 5 _ rfl).2
    exact Option.some.inj (f1.symm.trans g)
  subst hcA
  have hrow : xF X (xz X) = fun _ => none := funext hz0
  rw [hs2]
  refine kk p l e s m args below meth c H1 locs ls hC (hR.add (by decide) o1 ?_) (by show xz X + 1 = _; omega) ⟨Nat.le_trans hS.1 (by omega), fun x hx1 hx2 => (o1 x (by omega)).trans (hS.2.1 x hx1 hx2), hS.2.2⟩ hl
  rw [ent_f (X := xAdd X 16 N) (a := xz X) (t := 16) (va_up_self _ _ _) (by decide), show xN (xAdd X 16 N) (xz X) = N from va_up_self _ _ _, show xF (xAdd X 16 N) (xz X) = xF X (xz X) from rfl, hrow]
  show H1[xz X]? = some (vp_cell _ _)
  rw [e1]
  rfl
/-- a class that can be made, as its maker names it -/
def NWc (own : String) (idx ci : Nat) : Prop := ci < 11 ∧ ∃ (C : String) (T : u_T) (ty : Nat → FieldType), vwCl[ci]? = some (C, T, nFd ci) ∧ (∀ w ∈ u_ws C T (nFd ci), w ∈ GW) ∧ (∀ k, k < nFd ci → parseFieldDescriptor (T k).2.2.1 = some (ty k)) ∧ (∀ j, j < nFd ci → defaultValue (ty j) = if fRef ci j = true then .null else .int 0) ∧ Cond.classLink own idx C ∈ GW ∧ Cond.instantiable C (nFd ci) ∈ GW ∧ Cond.initialized C ∈ GW
theorem wp_new {idx ci : Nat} (hd : decode y.2.1 pc = .ok (.new idx, 3)) (hw : NWc y.1.cls idx ci) (h1 : ce + 1 ≤ mc) (h2 : sl + nFd ci ≤ ms) (hz0 : ∀ j, mI M (xz X) j = 0) (hz1 : ∀ j, xF X (xz X) j = none) (kk : Wp G y d mc ms (ce + 1) (sl + nFd ci) (pc + 3) lo (.ref (xz X) :: st) (xAdd X ci 0) M Q) : Wp G y d mc ms ce sl pc lo st X M Q := by
  intro p l e s m args below meth c H locs ls hC hR hz hS hl
  refine W.sized (fun hsz => ?_)
  have hs2 := hR.size hz hC.2.2.2.2.2.2.2.2.2.2 hS hsz
  have hK := hC.2.2.2.2.2.2.2.1.1
  have hts := hC.2.2.2.2.2.2.1
  obtain ⟨hci, C, T, ty, hcl, hin, hty, hdv, hlk, hins, hini⟩ := hw
  have hKn := hK.1 ci _ hcl
  refine W.newcK hC.1 hC.2.1 hC.2.2.2.2.2.1 (hts _ hlk) (hts _ hins) (hts _ hini) rfl hd h1 h2 hKn.2.1 hs2 fun H1 kC hkC e1 z1 o1 => ?_
  refine kk p l e s m args below meth c H1 locs ls hC (hR.add (by omega) o1 ?_) (by show xz X + 1 = _; omega) ⟨Nat.le_trans hS.1 (by omega), fun x hx1 hx2 => (o1 x (by omega)).trans (hS.2.1 x hx1 hx2), hS.2.2⟩ hl
  rw [ent_obj (X := xAdd X ci 0) (a := xz X) (va_up_self _ _ _) hci]
  refine ⟨_, hcl, (u_born ty hts hin hKn hkC e1 hty).to (fun j hj => ?_)⟩
  unfold vp_V
  rw [List.getD_eq_getElem?_getD, rng_get _ hj, hdv j hj]
  show _ = fVal (xAdd X ci 0) M ci (xz X) j
  unfold fVal
  rw [hz0 j, show xF (xAdd X ci 0) (xz X) j = none from hz1 j]
  rfl
theorem ent_xset {a k t b : Nat} (h : b ≠ a) : ent G (xSet X a k t) M b = ent G X M b := by
  have e1 : xF (xSet X a k t) b = xF X b := up2_off _ _ _ h
  have e2 : fVal (xSet X a k t) M (xK X b) b = fVal X M (xK X b) b := by
    funext j
    unfold fVal
    rw [e1]
  unfold ent eObj
  rw [show xK (xSet X a k t) = xK X from rfl, show xN (xSet X a k t) = xN X from rfl, e1, e2]
theorem wp_putR {a ci k idx t : Nat} {ty : FieldType} (hd : decode y.2.1 pc = .ok (.putfield idx, 3)) (hf : FLt y.1.cls idx ci k true ty) (hr : fRef ci k = true) (ha : xK X a = ci) (hni : y.1.name = "<init>") (hn : narrow ty (.ref t) = .ref t) (hfit : fits ty (.ref t) = true) (kk : Wp G y d mc ms ce sl (pc + 3) lo st (xSet X a k t) M Q) : Wp G y d mc ms ce sl pc lo (.ref t :: .ref a :: st) X M Q := by
  intro p l e s m args below meth c H locs ls hC hR hz hS hl
  obtain ⟨hci, hk, C, T, ty0, hcl, hin, hlink, hdecl, hfin, hty, hty0, hnm⟩ := hf
  have hts := hC.2.2.2.2.2.2.1
  have hK := hC.2.2.2.2.2.2.2.1.1
  obtain ⟨q0, cell, hq, h3, h4, h5, h6⟩ := hR.obj ha hci hcl
  have hap := va_apart (own := y.1.cls) hts hin ty0 hty0 hnm hK hcl
  obtain ⟨hSl, hfc, kC, hkC, hkind⟩ := hK.1 ci _ hcl
  obtain ⟨cf, kf, fi, f, hi, hsl⟩ := hSl k hk
  have hlay := hts _ (hin _ (u_in_lay hk))
  unfold u_lay at hlay
  rw [if_pos hfin] at hlay
  have hst := (u_facts hfc hkC (u_lays hts hin hk) hi).1
  have hown := hC.2.2.2.2.2.1
  have hcf : m.cls = cf := by
    obtain ⟨_, _, c', _, _, _, -, -, hf', -, -, -, hown2, -⟩ := Cond.laysFinal_spec hlay
    have e1 : c' = cf := by
      have := hi.symm.trans hf'
      simp at this
      exact this.1.symm
    rw [hdecl] at hown2
    rw [← e1]
    exact Option.some.inj (hown.symm.trans hown2)
  have hsd := u_fits hfc hkC hkind (Or.inr hlay) hi hty hn hfit
  refine W.putFinK hC.1 hC.2.1 (f := f) hown (hts _ hlink) hi hst hcf (hC.2.2.2.2.2.2.2.2.2.1.trans hni) (by rw [h4]; exact hsd) h3 h5 (by rw [hsl]; exact k2_hasslot (h6 k hk)) rfl rfl hd fun H1 e1 e2 e3 => ?_
  rw [hsl] at e1 ⊢
  have hR1 : Rel G (xSet X a k t) M H1 := hR.putObj ha hci hcl hk h4 h5 h6 hap e1 e3 rfl rfl (by rw [fVal_R hr, show xF (xSet X a k t) a k = some t from up2_same _ _ _ _]; rfl) (fun j hj => by unfold fVal; rw [show xF (xSet X a k t) a j = xF X a j from up2_k _ _ _ hj]) (fun b hb => ent_xset hb)
  exact kk p l e s m args below meth c H1 _ ls hC hR1 hz (hS.put e2 e3 ((hR.2.1 a).mp (by omega)).1) hl
end NEWS
