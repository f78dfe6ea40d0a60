/-! allocation: rows of references are written; a row of rows -/
theorem Rel.setX {G : Gl} {X X' : Sh} {M : Mm} {H H1 : Heap} (h : Rel G X M H) (hz : xz X' = xz X) (hKd : xK X' = xK X) {a k : Nat} {e : va_E} (ha : xK X a ≠ 99) (hk : ([] ++ va_pl (LL G X) (ent G X M))[k]? = some (a, ent G X M a)) (hP : va_P G.1 vwCl (([] ++ va_pl (LL G X) (ent G X M)).set k (a, e)) H1) (he : ∀ b, va_up (ent G X M) a e b = ent G X' M b) : Rel G X' M H1 := by
  refine ⟨by rw [hz]; exact h.1, by rw [hz, hKd]; exact h.2.1, ?_⟩
  have hL : LL G X' = LL G X := by
    unfold LL
    rw [hz, hKd]
  rw [hL]
  rw [va_pl_set (LL_D G X _) (LL_mem.mpr ⟨(h.2.1 a).mp ha, ha⟩) hk, va_pl_congr he] at hP
  exact hP
theorem Rel.grow {G : Gl} {X X' : Sh} {M : Mm} {H H1 : Heap} (h : Rel G X M H) (n : xz X ≤ xz X') (hk' : ∀ a, xK X' a ≠ 99 ↔ G.2 7 ≤ a ∧ a < xz X') (old : ∀ a, a < xz X → ent G X' M a = ent G X M a) (o1 : ∀ q, q < xz X → H1[q]? = H[q]?) (new : ∀ a, xz X ≤ a → a < xz X' → va_at G.1 vwCl (a, ent G X' M a) H1) : Rel G X' M H1 := by
  refine ⟨Nat.le_trans h.1 n, hk', fun k q hk => ?_⟩
  have hq := List.mem_of_getElem? hk
  simp only [List.nil_append, va_pl] at hq
  obtain ⟨a, ha, rfl⟩ := List.mem_map.mp hq
  have hb := LL_mem.mp ha
  by_cases e : a < xz X
  · obtain ⟨k2, hk2⟩ := h.at ((h.2.1 a).mpr ⟨hb.1.1, e⟩)
    have h2 := h.2.2 k2 _ hk2
    rw [old a e]
    exact h2.kept (o1 a e)
  · exact new a (by omega) hb.1.2
def xMna (X : Sh) (N K : Nat) : Sh := (xz X + 1 + N, fun a => if a = xz X then 17 else if xz X < a ∧ a < xz X + 1 + N then 11 else xK X a, fun a => if a = xz X then N else if xz X < a ∧ a < xz X + 1 + N then K else xN X a, fun a => if a = xz X then (fun i => if i < N then some (xz X + 1 + i) else none) else xF X a)
section NEWS2
variable {G : Gl} {y : Md} {d mc ms ce sl pc : Nat} {lo : List (Nat × Value)} {st : List Value} {X : Sh} {M : Mm} {Q : Sh → Mm → Option Value → Prop}
theorem wp_fast15 {a n j t : Nat} {i : Int32} (hd : decode y.2.1 pc = .ok (.aastore, 1)) (ha : xK X a = 15) (hn : xN X a = n) (hb : n < 2147483648) (hj : i = nI j) (hlt : j < n) (ht : xK X t = 5) (kk : Wp G y d mc ms ce sl (pc + 1) lo st (xSet X a j t) M Q) : Wp G y d mc ms ce sl pc lo (.ref t :: .int i :: .ref a :: st) X M Q := by
  intro p l e s m args below meth c H locs ls hC hR hz hS hl
  obtain ⟨q0, hq⟩ := hR.at (a := a) (by omega)
  obtain ⟨q1, hq1⟩ := hR.at (a := t) (by omega)
  have hq2 := hq
  rw [ent_f ha (by decide), hn] at hq2
  rw [ent_obj ht (by decide)] at hq1
  obtain ⟨h1, h2⟩ := ix_in hj hlt hb
  refine va_astq (r := (RX5, TX5, 4)) hC.1 hC.2.1 hC.2.2.2.2.2.2.2.1.1 hR.2.2 (LL_D G X _) hS q0 4 q1 5 hq2 rfl hq1 rfl h1 hd (fun H1 locs1 hP1 _ hS1 => ?_)
  rw [h2] at hP1
  refine kk p l e s m args below meth c H1 locs1 ls hC (hR.setX rfl rfl (by omega) hq hP1 (fun b => ?_)) hz hS1 hl
  by_cases hba : b = a
  · subst hba
    rw [va_up_self, ent_f (X := xSet X b j t) (a := b) (t := 15) ha (by decide), show xN (xSet X b j t) b = n from hn, show xF (xSet X b j t) b = va_up (xF X b) j (some t) from up2_rowR _ _ _ _]
  · rw [va_up_ne _ _ hba, ent_xset hba]
theorem wp_fast16 {a n j t : Nat} {i : Int32} (hd : decode y.2.1 pc = .ok (.aastore, 1)) (ha : xK X a = 16) (hn : xN X a = n) (hb : n < 2147483648) (hj : i = nI j) (hlt : j < n) (ht : xK X t = 6) (kk : Wp G y d mc ms ce sl (pc + 1) lo st (xSet X a j t) M Q) : Wp G y d mc ms ce sl pc lo (.ref t :: .int i :: .ref a :: st) X M Q := by
  intro p l e s m args below meth c H locs ls hC hR hz hS hl
  obtain ⟨q0, hq⟩ := hR.at (a := a) (by omega)
  obtain ⟨q1, hq1⟩ := hR.at (a := t) (by omega)
  have hq2 := hq
  rw [ent_f ha (by decide), hn] at hq2
  rw [ent_obj ht (by decide)] at hq1
  obtain ⟨h1, h2⟩ := ix_in hj hlt hb
  refine va_astq (r := (RX6, TX6, 5)) hC.1 hC.2.1 hC.2.2.2.2.2.2.2.1.1 hR.2.2 (LL_D G X _) hS q0 5 q1 6 hq2 rfl hq1 rfl h1 hd (fun H1 locs1 hP1 _ hS1 => ?_)
  rw [h2] at hP1
  refine kk p l e s m args below meth c H1 locs1 ls hC (hR.setX rfl rfl (by omega) hq hP1 (fun b => ?_)) hz hS1 hl
  by_cases hba : b = a
  · subst hba
    rw [va_up_self, ent_f (X := xSet X b j t) (a := b) (t := 16) ha (by decide), show xN (xSet X b j t) b = n from hn, show xF (xSet X b j t) b = va_up (xF X b) j (some t) from up2_rowR _ _ _ _]
  · rw [va_up_ne _ _ hba, ent_xset hba]
end NEWS2
