/-! shapes out of the rows that a maker made; shapes that stay -/
/-- two worlds say the same of these addresses -/
def Agr (X X2 : Sh) (lo hi : Nat) : Prop := ∀ c, lo ≤ c → c < hi → xK X2 c = xK X c ∧ xN X2 c = xN X c ∧ xF X2 c = xF X c
theorem Agr.trans {X X2 X3 : Sh} {lo hi : Nat} (h1 : Agr X X2 lo hi) (h2 : Agr X2 X3 lo hi) : Agr X X3 lo hi := fun c a b => ⟨(h2 c a b).1.trans (h1 c a b).1, (h2 c a b).2.1.trans (h1 c a b).2.1, (h2 c a b).2.2.trans (h1 c a b).2.2⟩
theorem Agr.sub {X X2 : Sh} {lo hi lo2 hi2 : Nat} (h : Agr X X2 lo hi) (h1 : lo ≤ lo2) (h2 : hi2 ≤ hi) : Agr X X2 lo2 hi2 := fun c a b => h c (Nat.le_trans h1 a) (Nat.lt_of_lt_of_le b h2)
/-- a's maker has made n cells: the world is as it was but for a's fields and these -/
def Mk (X X2 : Sh) (a n : Nat) : Prop := (xz X2 = xz X + n) ∧ (∀ c, c < xz X → c ≠ a → xK X2 c = xK X c ∧ xN X2 c = xN X c ∧ xF X2 c = xF X c) ∧ (xK X2 a = xK X a ∧ xN X2 a = xN X a) ∧ (∀ c, xz X2 ≤ c → xF X2 c = xF X c)
theorem Mk.z {X X2 : Sh} {a n : Nat} (h : Mk X X2 a n) : xz X2 = xz X + n := h.1
theorem Mk.old {X X2 : Sh} {a n : Nat} (h : Mk X X2 a n) : ∀ c, c < xz X → c ≠ a → xK X2 c = xK X c ∧ xN X2 c = xN X c ∧ xF X2 c = xF X c := h.2.1
theorem Mk.ka {X X2 : Sh} {a n : Nat} (h : Mk X X2 a n) : xK X2 a = xK X a ∧ xN X2 a = xN X a := h.2.2.1
theorem Mk.far {X X2 : Sh} {a n : Nat} (h : Mk X X2 a n) : ∀ c, xz X2 ≤ c → xF X2 c = xF X c := h.2.2.2
theorem Lay.mk {X X2 : Sh} {a : Nat} {l : List (Nat × Nat × Nat)} (h : Lay X X2 a l) (ha : a < xz X) : Mk X X2 a l.length := ⟨h.z, fun c h1 h2 => ⟨(h.old c h1).1, (h.old c h1).2, h.oldF c h2⟩, h.old a ha, fun c hc => h.oldF c (by have := h.z; omega)⟩
theorem Mk.agr {X X2 : Sh} {a n lo hi : Nat} (h : Mk X X2 a n) (h1 : a < lo) (h2 : hi ≤ xz X) : Agr X X2 lo hi := fun c a1 a2 => h.old c (by omega) (by omega)
theorem agr_add {X : Sh} {K N lo hi : Nat} (h : hi ≤ xz X) : Agr X (xAdd X K N) lo hi := fun c _ a2 => ⟨va_up_ne _ _ (by omega), va_up_ne _ _ (by omega), rfl⟩
theorem agr_set {X : Sh} {a k t lo hi : Nat} (h : a < lo ∨ hi ≤ a) : Agr X (xSet X a k t) lo hi := fun c a1 a2 => ⟨rfl, rfl, up2_off _ _ _ (by omega)⟩
theorem sh0_of {X X2 : Sh} {a : Nat} (h : Lay X X2 a [(0, 11, 6), (1, 11, 6), (2, 11, 6), (3, 11, 6), (4, 11, 6), (6, 11, 3)]) (hx : xz X = a + 1) (ha : xK X a = 0) : Sh0 X2 a := by
  have g := h.got
  rw [hx] at g
  exact ⟨(h.old a (by omega)).1.trans ha, (g 0 (by decide)).2.2, (g 0 (by decide)).1, (g 0 (by decide)).2.1, (g 1 (by decide)).2.2, (g 1 (by decide)).1, (g 1 (by decide)).2.1, (g 2 (by decide)).2.2, (g 2 (by decide)).1, (g 2 (by decide)).2.1, (g 3 (by decide)).2.2, (g 3 (by decide)).1, (g 3 (by decide)).2.1, (g 4 (by decide)).2.2, (g 4 (by decide)).1, (g 4 (by decide)).2.1, (g 5 (by decide)).2.2, (g 5 (by decide)).1, (g 5 (by decide)).2.1⟩
theorem sh0_mono {X X2 : Sh} {a : Nat} (h : Sh0 X a) (e : Agr X X2 a (a + 7)) : Sh0 X2 a := by
  unfold Sh0
  rw [(e a (by omega) (by omega)).1, (e a (by omega) (by omega)).2.2, (e (a + 1) (by omega) (by omega)).1, (e (a + 1) (by omega) (by omega)).2.1, (e (a + 2) (by omega) (by omega)).1, (e (a + 2) (by omega) (by omega)).2.1, (e (a + 3) (by omega) (by omega)).1, (e (a + 3) (by omega) (by omega)).2.1, (e (a + 4) (by omega) (by omega)).1, (e (a + 4) (by omega) (by omega)).2.1, (e (a + 5) (by omega) (by omega)).1, (e (a + 5) (by omega) (by omega)).2.1, (e (a + 6) (by omega) (by omega)).1, (e (a + 6) (by omega) (by omega)).2.1]
  exact h
theorem sh3_of {X X2 : Sh} {a : Nat} (h : Lay X X2 a [(0, 11, 6), (1, 11, 6)]) (hx : xz X = a + 1) (ha : xK X a = 3) : Sh3 X2 a := by
  have g := h.got
  rw [hx] at g
  exact ⟨(h.old a (by omega)).1.trans ha, (g 0 (by decide)).2.2, (g 0 (by decide)).1, (g 0 (by decide)).2.1, (g 1 (by decide)).2.2, (g 1 (by decide)).1, (g 1 (by decide)).2.1⟩
theorem sh3_mono {X X2 : Sh} {a : Nat} (h : Sh3 X a) (e : Agr X X2 a (a + 3)) : Sh3 X2 a := by
  unfold Sh3
  rw [(e a (by omega) (by omega)).1, (e a (by omega) (by omega)).2.2, (e (a + 1) (by omega) (by omega)).1, (e (a + 1) (by omega) (by omega)).2.1, (e (a + 2) (by omega) (by omega)).1, (e (a + 2) (by omega) (by omega)).2.1]
  exact h
theorem sh4_of {X X2 : Sh} {a : Nat} (h : Lay X X2 a [(9, 11, 5)]) (hx : xz X = a + 1) (ha : xK X a = 4) : Sh4 X2 a := by
  have g := h.got
  rw [hx] at g
  exact ⟨(h.old a (by omega)).1.trans ha, (g 0 (by decide)).2.2, (g 0 (by decide)).1, (g 0 (by decide)).2.1⟩
theorem sh4_mono {X X2 : Sh} {a : Nat} (h : Sh4 X a) (e : Agr X X2 a (a + 2)) : Sh4 X2 a := by
  unfold Sh4
  rw [(e a (by omega) (by omega)).1, (e a (by omega) (by omega)).2.2, (e (a + 1) (by omega) (by omega)).1, (e (a + 1) (by omega) (by omega)).2.1]
  exact h
theorem sh5_of {X X2 : Sh} {a : Nat} (h : Lay X X2 a [(2, 11, 24), (3, 13, 24)]) (hx : xz X = a + 1) (ha : xK X a = 5) : Sh5 X2 a := by
  have g := h.got
  rw [hx] at g
  exact ⟨(h.old a (by omega)).1.trans ha, (g 0 (by decide)).2.2, (g 0 (by decide)).1, (g 0 (by decide)).2.1, (g 1 (by decide)).2.2, (g 1 (by decide)).1, (g 1 (by decide)).2.1⟩
theorem sh5_mono {X X2 : Sh} {a : Nat} (h : Sh5 X a) (e : Agr X X2 a (a + 3)) : Sh5 X2 a := by
  unfold Sh5
  rw [(e a (by omega) (by omega)).1, (e a (by omega) (by omega)).2.2, (e (a + 1) (by omega) (by omega)).1, (e (a + 1) (by omega) (by omega)).2.1, (e (a + 2) (by omega) (by omega)).1, (e (a + 2) (by omega) (by omega)).2.1]
  exact h
theorem sh7_of {X X2 : Sh} {a : Nat} (h : Lay X X2 a [(0, 11, 96), (9, 11, 96), (11, 11, 96)]) (hx : xz X = a + 1) (ha : xK X a = 7) : Sh7 X2 a := by
  have g := h.got
  rw [hx] at g
  exact ⟨(h.old a (by omega)).1.trans ha, (g 0 (by decide)).2.2, (g 0 (by decide)).1, (g 0 (by decide)).2.1, (g 1 (by decide)).2.2, (g 1 (by decide)).1, (g 1 (by decide)).2.1, (g 2 (by decide)).2.2, (g 2 (by decide)).1, (g 2 (by decide)).2.1⟩
theorem sh7_mono {X X2 : Sh} {a : Nat} (h : Sh7 X a) (e : Agr X X2 a (a + 4)) : Sh7 X2 a := by
  unfold Sh7
  rw [(e a (by omega) (by omega)).1, (e a (by omega) (by omega)).2.2, (e (a + 1) (by omega) (by omega)).1, (e (a + 1) (by omega) (by omega)).2.1, (e (a + 2) (by omega) (by omega)).1, (e (a + 2) (by omega) (by omega)).2.1, (e (a + 3) (by omega) (by omega)).1, (e (a + 3) (by omega) (by omega)).2.1]
  exact h
theorem sh8_mono {X X2 : Sh} {a : Nat} (h : Sh8 X a) (e : Agr X X2 a (a + 20)) : Sh8 X2 a := by
  obtain ⟨h1, h2, h3, h4, h5, h6, h7, h8, h9, h10, h11, h12, h13, h14, h15, h16, h17⟩ := h
  unfold Sh8
  rw [(e a (by omega) (by omega)).1, (e a (by omega) (by omega)).2.2, (e (a + 1) (by omega) (by omega)).1, (e (a + 1) (by omega) (by omega)).2.1, (e (a + 2) (by omega) (by omega)).1, (e (a + 2) (by omega) (by omega)).2.1, (e (a + 3) (by omega) (by omega)).1, (e (a + 3) (by omega) (by omega)).2.1, (e (a + 4) (by omega) (by omega)).1, (e (a + 4) (by omega) (by omega)).2.1, (e (a + 4) (by omega) (by omega)).2.2, (e (a + 17) (by omega) (by omega)).1, (e (a + 17) (by omega) (by omega)).2.1, (e (a + 18) (by omega) (by omega)).1, (e (a + 18) (by omega) (by omega)).2.1, (e (a + 19) (by omega) (by omega)).1, (e (a + 19) (by omega) (by omega)).2.1]
  exact ⟨h1, h2, h3, h4, h5, h6, h7, h8, h9, h10, h11, h12, h13, h14, fun i hi => (e _ (by omega) (by omega)).1.trans (h15 i hi), fun i hi => (e _ (by omega) (by omega)).2.1.trans (h16 i hi), h17⟩
theorem sh1_mono {X X2 : Sh} {a : Nat} (h : Sh1 X a) (e : Agr X X2 a (a + 54)) : Sh1 X2 a := by
  obtain ⟨h1, h2, h3, h4, h5, h6, h7, h8, h9, h10, h11, h12, h13, h14, h15, h16, h17⟩ := h
  unfold Sh1
  rw [(e a (by omega) (by omega)).1, (e a (by omega) (by omega)).2.2, (e (a + 1) (by omega) (by omega)).1, (e (a + 1) (by omega) (by omega)).2.1, (e (a + 50) (by omega) (by omega)).1, (e (a + 50) (by omega) (by omega)).2.1, (e (a + 51) (by omega) (by omega)).1, (e (a + 51) (by omega) (by omega)).2.1, (e (a + 52) (by omega) (by omega)).1, (e (a + 52) (by omega) (by omega)).2.1, (e (a + 53) (by omega) (by omega)).1, (e (a + 53) (by omega) (by omega)).2.1]
  exact ⟨h1, h2, h3, h4, h5, h6, h7, h8, h9, h10, h11, h12, h13, h14, h15, h16, fun i hi => sh4_mono (h17 i hi) (e.sub (by omega) (by omega))⟩
theorem sh6_mono {X X2 : Sh} {a : Nat} (h : Sh6 X a) (e : Agr X X2 a (a + 4)) : Sh6 X2 a := by
  obtain ⟨h1, h2, h3⟩ := h
  exact ⟨(e a (by omega) (by omega)).1.trans h1, by rw [(e a (by omega) (by omega)).2.2]; exact h2, sh5_mono h3 (e.sub (by omega) (by omega))⟩
theorem sh2_mono {X X2 : Sh} {a : Nat} (h : Sh2 X a) (e : Agr X X2 a (a + 86)) : Sh2 X2 a := by
  obtain ⟨h1, h2, h3, h4, h5, h6, h7, h8, h9, h10, h11, h12⟩ := h
  unfold Sh2
  rw [(e a (by omega) (by omega)).1, (e a (by omega) (by omega)).2.2, (e (a + 85) (by omega) (by omega)).1, (e (a + 85) (by omega) (by omega)).2.1]
  exact ⟨h1, h2, sh0_mono h3 (e.sub (by omega) (by omega)), h4, sh1_mono h5 (e.sub (by omega) (by omega)), h6, sh8_mono h7 (e.sub (by omega) (by omega)), h8, sh3_mono h9 (e.sub (by omega) (by omega)), h10, h11, h12⟩
