/-! the class reads the whole text -/
theorem CB.step {M M2 : Mm} {a n key : Nat} {c : Nat → Nat} {k k2 : Tk} {b : Bd} (h : CB M a c n key k b) (hC : CT M2 a k2) (hF : StF a M M2) : CB M2 a c n key k2 b := by
  obtain ⟨hBy, _, h6, hHO, h8, h13, h14, h15⟩ := h
  refine ⟨hF.by hBy, hC, by rw [hF.2.1 6 (by omega), h6], ⟨?_, ?_, ?_, ?_⟩, by rw [hF.2.1 8 (by omega), h8], by rw [hF.2.1 13 (by omega), h13], by rw [hF.2.1 14 (by omega), h14], by rw [hF.2.1 15 (by omega), h15]⟩
  · rw [hF.2.1 10 (by omega)]
    exact hHO.1
  · rw [hF.1 (a + 2) (by omega)]
    exact hHO.2.1
  · rw [hF.2.1 12 (by omega)]
    exact hHO.2.2.1
  · rw [hF.1 (a + 3) (by omega)]
    exact hHO.2.2.2
theorem cl_read (G : Gl) (d : Nat) (hd : 6 ≤ d) {X : Sh} {a n key : Nat} {c : Nat → Nat} {Q : Mm → Int32 → Prop} (hS : Sh7 X a) (hk : key ≤ 7) (hc : ∀ i, i < n → c i ≤ 255) (M0 : Mm) (s2 : Tk × Bd) (hend : Stuck c key s2 ∨ (kS s2.1 = 0 ∧ s2.2.1 = false ∧ s2.2.2.2.2.1 = 0)) (hstuck : Stuck c key s2 → ∀ M2, TF a M0 M2 → Q M2 (nI (kB s2.1)))
    (hdone : (kS s2.1 = 0 ∧ s2.2.1 = false ∧ s2.2.2.2.2.1 = 0) → ∀ M2, TF a M0 M2 → mI M2 a 6 = nI (kc key) → mI M2 a 8 = nI s2.2.2.2.2.2.2 → HO M2 a (fl 1 true s2.2.2.1 s2.2.2.2.1).1 (fl 1 true s2.2.2.1 s2.2.2.2.1).2 → Q M2 (-1)) :
    ∀ (j x1 : Nat) (k : Tk) (b : Bd) (M : Mm), crun c n key j (k, b) = some s2 → x1 ≤ kB k → CB M a c n key k b → IV c n k b → TF a M0 M → Wn G m_X8_readText (d + 1) 22 [(0, .ref a), (1, .int (nI x1))] [] X M Q
  | 0, x1, k, b, M, h, hx, hCB, hI, hF => by
    have e : (k, b) = s2 := Option.some.inj h
    subst e
    obtain ⟨w, H, O, nb, nn, np⟩ := b
    obtain ⟨hBy, hCT, h6, hHO, h8, h13, h14, h15⟩ := id hCB
    obtain ⟨hT, hHB, hc33, hl, hnb, hnn⟩ := id hI
    have n96 := hBy.2.1
    have bn := hT.2.1
    have s3 := hT.2.2.2.2.2.2.1
    have h13 : mI M a 13 = nI nb := h13
    have hnb : nb ≤ 8 := hnb
    have hHB : HB H := hHB
    have hl : H.length + O.length ≤ kB k := hl
    have hHO : HO M a H O := hHO
    have h15 : mI M a 15 = (if w = true then 1 else 0) := h15
    have wt : ¬ mI M a 15 = 0 ↔ w = true := by
      rw [h15]
      cases w
      · exact ⟨fun y => absurd rfl y, fun y => by cases y⟩
      · exact ⟨fun _ => rfl, fun _ => by decide⟩
    have wf : mI M a 15 = 0 ↔ w = false := by
      rw [h15]
      cases w
      · exact ⟨fun _ => rfl, fun _ => rfl⟩
      · exact ⟨fun y => absurd y (by decide), fun y => by cases y⟩
    by_cases hE : kS k = 0
    · have fin : (¬ mI M a 15 = 0 → Q M (mI M a 2)) ∧ (mI M a 15 = 0 → ((mI M a 13 ≤ 0 → ∃ q4 : Mm → Prop, Cv G m_X8_writeHeldFrom d [.ref a, .int 1, .int 1] X M q4 ∧ ∀ M6, q4 M6 → Q M6 (-1)) ∧ (¬ mI M a 13 ≤ 0 → Q M (mI M a 2)))) := by
        rw [hCT.1]
        refine ⟨fun y => hstuck (Or.inr ⟨hE, Or.inl (wt.mp y)⟩) M hF, fun y => ⟨fun y2 => ?_, fun y2 => ?_⟩⟩
        · rw [h13] at y2
          have nb0 : nb = 0 := by
            have := (nI_leI (b := 0) (by omega) (by omega)).mp y2
            omega
          refine ⟨_, cp_X8_writeHeldFrom G d (by omega) X M a 1 true 1 H O hS (by omega) (by decide) hHO hHB (by omega), ?_⟩
          rintro M6 ⟨g1, g2, g3⟩
          exact hdone ⟨hE, wf.mp y, nb0⟩ M6 (hF.trans g2.tf) (by rw [g2.2.1 6 (by omega) (by omega) (by omega), h6]) (by rw [g2.2.1 8 (by omega) (by omega) (by omega), h8]) g1
        · rw [h13] at y2
          refine hstuck (Or.inr ⟨hE, Or.inr (Nat.pos_of_ne_zero (fun z => y2 ?_))⟩) M hF
          have z : nb = 0 := z
          rw [z]
          exact Int32.le_refl _
      exact bX8_readText_22 hS ⟨fun _ => fin, fun _ => ⟨fun _ => fin, fun y => absurd (by rw [hCT.2.2.1, hE]; rfl) y⟩⟩
    · have st : cbody c key k (w, H, O, nb, nn, np) = none := by
        rcases hend with (y | y) | y
        · exact y.2
        · exact absurd y.1 hE
        · exact absurd y.1 hE
      have hs := hstuck (Or.inl ⟨hE, st⟩)
      have lt := hT.2.2.2.2.1 hE
      have ke := hT.2.2.1
      refine bX8_readText_22 hS ⟨fun y => ?_, fun _ => ⟨fun y => absurd ((nI_inj (b := 0) (by omega) (by omega)).mp (hCT.2.2.1.symm.trans y)) hE, fun _ => ⟨fun y => ?_, fun y => ?_⟩⟩⟩
      · have := (nI_leI (a := 96) (by omega) (by omega)).mp y
        omega
      · have w0 := wf.mp y
        subst w0
        refine ⟨_, cp_X8_takesSign G d (by omega) X M a n key nb nn np c k H O hS hCB hI, ?_⟩
        intro M18 r19 g
        rcases g with ⟨_, rfl, g2, g3⟩ | ⟨b2, g1, _⟩
        · exact ⟨fun z => absurd rfl z, fun _ => by rw [g2]; exact hs M18 (hF.trans g3)⟩
        · rw [st] at g1
          cases g1
      · have w0 := wt.mp y
        subst w0
        refine ⟨_, cp_X8_takesPiece G d (by omega) X M a n key nb nn np c k H O hS hCB hI hk hE, ?_⟩
        intro M18 r19 g
        rcases g with ⟨_, rfl, g2, g3⟩ | ⟨b2, g1, _⟩
        · exact ⟨fun _ => by rw [g2]; exact hs M18 (hF.trans g3), fun z => absurd rfl z⟩
        · rw [st] at g1
          cases g1
  | j + 1, x1, k, b, M, h, hx, hCB, hI, hF => by
    have h2 : (if kS k = 0 then none else match cbody c key k b with | none => none | some b => crun c n key j (tnext c n k, b)) = some s2 := h
    by_cases hE : kS k = 0
    · rw [if_pos hE] at h2
      cases h2
    rw [if_neg hE] at h2
    cases hb : cbody c key k b with
    | none => rw [hb] at h2; cases h2
    | some bb =>
      rw [hb] at h2
      have h3 : crun c n key j (tnext c n k, bb) = some s2 := h2
      have I2 := hI.step hc hE hb
      obtain ⟨w, H, O, nb, nn, np⟩ := b
      have hBy := hCB.1
      have hCT := hCB.2.1
      have h15 : mI M a 15 = (if w = true then 1 else 0) := hCB.2.2.2.2.2.2.2
      have hT := hI.1
      have n96 := hBy.2.1
      have s3 := hT.2.2.2.2.2.2.1
      have lt := hT.2.2.2.2.1 hE
      have ke := hT.2.2.1
      have nx := (TV.next (c := c) ke).2
      have go : ∀ (M18 : Mm) (b2 : Bd), cbody c key k (w, H, O, nb, nn, np) = some b2 → CB M18 a c n key k b2 → TF a M M18 → ∃ q22 : Mm → Prop, Cv G m_X8_step d [.ref a] X M18 q22 ∧ ∀ M24, q22 M24 → Wn G m_X8_readText (d + 1) 22 [(0, .ref a), (1, .int (nI x1 + 1))] [] X M24 Q := by
        intro M18 b2 g1 g2 g3
        rw [hb] at g1
        cases g1
        refine ⟨_, cp_X8_step G d (by omega) X M18 a n c k hS g2.1 ke s3 g2.2.1.2.1 g2.2.1.2.2.1, ?_⟩
        rintro M24 ⟨z1, z2⟩
        rw [nI_1]
        exact cl_read G d hd hS hk hc M0 s2 hend hstuck hdone j (x1 + 1) (tnext c n k) bb M24 h3 (by omega) (g2.step z1 z2) I2 (hF.trans (g3.trans z2.tf))
      refine bX8_readText_22 hS ⟨fun y => ?_, fun _ => ⟨fun y => absurd ((nI_inj (b := 0) (by omega) (by omega)).mp (hCT.2.2.1.symm.trans y)) hE, fun _ => ⟨fun y => ?_, fun y => ?_⟩⟩⟩
      · have := (nI_leI (a := 96) (by omega) (by omega)).mp y
        omega
      · have w0 : w = false := by
          cases w
          · rfl
          · rw [h15] at y
            exact absurd y (by decide)
        subst w0
        refine ⟨_, cp_X8_takesSign G d (by omega) X M a n key nb nn np c k H O hS hCB hI, ?_⟩
        intro M18 r19 g
        rcases g with ⟨g1, _⟩ | ⟨b2, g1, rfl, g2, g3⟩
        · rw [hb] at g1
          cases g1
        · exact ⟨fun _ => go M18 b2 g1 g2 g3, fun z => absurd z (by decide)⟩
      · have w0 : w = true := by
          cases w
          · rw [h15] at y
            exact absurd rfl y
          · rfl
        subst w0
        refine ⟨_, cp_X8_takesPiece G d (by omega) X M a n key nb nn np c k H O hS hCB hI hk hE, ?_⟩
        intro M18 r19 g
        rcases g with ⟨g1, _⟩ | ⟨b2, g1, rfl, g2, g3⟩
        · rw [hb] at g1
          cases g1
        · exact ⟨fun z => absurd z (by decide), fun _ => go M18 b2 g1 g2 g3⟩
abbrev k00 : Tk := (0, 0, 0, 0)
/-- the head of a text: where the reading stands behind it, and its key if it is one -/
def Head (c : Nat → Nat) (n : Nat) (k : Tk) (o : Option Nat) : Prop :=
  (isT c (tnext c n k00) 0 ∧ k = tnext c n (tnext c n k00) ∧ ((kS k = 2 ∧ kZ k = 0 ∧ kE k - kB k ≤ 4 ∧ tnum c (kB k) (kE k - kB k) < 6 ∧ o = some (tnum c (kB k) (kE k - kB k))) ∨ (¬ (kS k = 2 ∧ kZ k = 0 ∧ kE k - kB k ≤ 4 ∧ tnum c (kB k) (kE k - kB k) < 6) ∧ o = none))) ∨
  (¬ isT c (tnext c n k00) 0 ∧ isT c (tnext c n k00) 1 ∧ k = tnext c n k00 ∧ o = some 6) ∨
  (¬ isT c (tnext c n k00) 0 ∧ ¬ isT c (tnext c n k00) 1 ∧ isT c (tnext c n k00) 2 ∧ k = tnext c n k00 ∧ o = some 7) ∨
  (¬ isT c (tnext c n k00) 0 ∧ ¬ isT c (tnext c n k00) 1 ∧ ¬ isT c (tnext c n k00) 2 ∧ k = tnext c n k00 ∧ o = none)
theorem Head.ex (c : Nat → Nat) (n : Nat) : ∃ k o, Head c n k o := by
  by_cases h0 : isT c (tnext c n k00) 0
  · by_cases h : kS (tnext c n (tnext c n k00)) = 2 ∧ kZ (tnext c n (tnext c n k00)) = 0 ∧ kE (tnext c n (tnext c n k00)) - kB (tnext c n (tnext c n k00)) ≤ 4 ∧ tnum c (kB (tnext c n (tnext c n k00))) (kE (tnext c n (tnext c n k00)) - kB (tnext c n (tnext c n k00))) < 6
    · exact ⟨_, _, Or.inl ⟨h0, rfl, Or.inl ⟨h.1, h.2.1, h.2.2.1, h.2.2.2, rfl⟩⟩⟩
    · exact ⟨_, _, Or.inl ⟨h0, rfl, Or.inr ⟨h, rfl⟩⟩⟩
  · by_cases h1 : isT c (tnext c n k00) 1
    · exact ⟨_, _, Or.inr (Or.inl ⟨h0, h1, rfl, rfl⟩)⟩
    · by_cases h2 : isT c (tnext c n k00) 2
      · exact ⟨_, _, Or.inr (Or.inr (Or.inl ⟨h0, h1, h2, rfl, rfl⟩))⟩
      · exact ⟨_, _, Or.inr (Or.inr (Or.inr ⟨h0, h1, h2, rfl, rfl⟩))⟩
theorem TV.two (c : Nat → Nat) (n : Nat) : TV c n (tnext c n k00) ∧ TV c n (tnext c n (tnext c n k00)) := by
  have h1 := (TV.next (c := c) (n := n) (k := k00) (Nat.zero_le _)).1
  exact ⟨h1, (TV.next h1.2.2.1).1⟩
theorem Head.tv {c : Nat → Nat} {n : Nat} {k : Tk} {o : Option Nat} (h : Head c n k o) : TV c n k := by
  obtain ⟨h1, h2⟩ := TV.two c n
  rcases h with ⟨_, rfl, _⟩ | ⟨_, _, rfl, _⟩ | ⟨_, _, _, rfl, _⟩ | ⟨_, _, _, rfl, _⟩
  · exact h2
  · exact h1
  · exact h1
  · exact h1
theorem Head.key {c : Nat → Nat} {n : Nat} {k : Tk} {key : Nat} (h : Head c n k (some key)) : key ≤ 7 := by
  rcases h with ⟨_, _, h⟩ | ⟨_, _, _, h⟩ | ⟨_, _, _, _, h⟩ | ⟨_, _, _, _, h⟩
  · rcases h with ⟨_, _, _, h, e⟩ | ⟨_, e⟩
    · cases e
      omega
    · cases e
  · cases h
    omega
  · cases h
    omega
  · cases h
def THF (a : Nat) (M M2 : Mm) : Prop := (∀ b, b ≠ a → mI M2 b = mI M b) ∧ (∀ j, j < 2 ∨ 7 < j → mI M2 a j = mI M a j) ∧ mR M2 = mR M
theorem THF.by {a n : Nat} {c : Nat → Nat} {M M2 : Mm} (h : THF a M M2) (hB : BYc M a c n) : BYc M2 a c n := by
  obtain ⟨h1, hn, hc⟩ := hB
  refine ⟨by rw [h.2.1 1 (by omega), h1], hn, fun i hi => ?_⟩
  rw [h.1 (a + 1) (by omega)]
  exact hc i hi
theorem THF.trans {a : Nat} {M M2 M3 : Mm} (h1 : THF a M M2) (h2 : THF a M2 M3) : THF a M M3 := ⟨fun b p => (h2.1 b p).trans (h1.1 b p), fun j p => (h2.2.1 j p).trans (h1.2.1 j p), h2.2.2.trans h1.2.2⟩
theorem THF.set {a j : Nat} {v : Int32} {M M2 : Mm} (hj : 2 ≤ j ∧ j ≤ 7) (e : M2 = sI M a j v) : THF a M M2 := ⟨fun b hb => by rw [e, mI_sI, up2_off _ _ _ hb], fun i hi => by rw [e, mI_sI, up2_k _ _ _ (by omega)], by rw [e]; rfl⟩
theorem StF.th {a : Nat} {M M2 : Mm} (h : StF a M M2) : THF a M M2 := ⟨h.1, fun j hj => h.2.1 j (by omega), h.2.2⟩
theorem cp_X8_takesHead (G : Gl) (d : Nat) (hd : 6 ≤ d) (X : Sh) (M : Mm) (a n : Nat) (c : Nat → Nat) (k : Tk) (o : Option Nat) (hS : Sh7 X a) (hB : BYc M a c n) (h3 : mI M a 3 = 0) (h4 : mI M a 4 = 0) (hH : Head c n k o) : Cn G m_X8_takesHead d [.ref a] X M (fun M2 r => THF a M M2 ∧ CT M2 a k ∧ (o = none → r = 0) ∧ ∀ key, o = some key → ¬ r = 0 ∧ mI M2 a 6 = nI (kc key) ∧ mI M2 a 7 = (if key ≤ 5 then nI key else -1000000005)) := by
  obtain ⟨d, rfl⟩ : ∃ d1, d = d1 + 1 := ⟨d - 1, by omega⟩
  obtain ⟨T1, T2⟩ := TV.two c n
  have n96 := hB.2.1
  refine Cn.of (by decide) (Nat.le_of_ble_eq_true rfl) (bX8_takesHead_0 hS ⟨_, cp_X8_step G d (by omega) X M a n c k00 hS hB (Nat.zero_le _) (Nat.zero_le _) h3 h4, ?_⟩)
  rintro M3 ⟨g1, g2⟩
  refine ⟨_, cp_X8_keyThere G d (by omega) X M3 a n c (tnext c n k00) hS (g2.by hB) T1 g1, ?_⟩
  rintro M7 r8 ⟨e, r0, r1, r2, r3⟩
  have e := e.symm
  subst e
  intro M10 e10 M11 e11
  have F11 : THF a M M11 := g2.th.trans ((THF.set (by omega) e10).trans (THF.set (by omega) e11))
  have o11 : ∀ j, j ≠ 6 → j ≠ 7 → mI M11 a j = mI M3 a j := fun j j1 j2 => by rw [e11, mI_sI, up2_k _ _ _ j2, e10, mI_sI, up2_k _ _ _ j1]
  have C11 : CT M11 a (tnext c n k00) := ⟨by rw [o11 2 (by omega) (by omega)]; exact g1.1, by rw [o11 3 (by omega) (by omega)]; exact g1.2.1, by rw [o11 4 (by omega) (by omega)]; exact g1.2.2.1, by rw [o11 5 (by omega) (by omega)]; exact g1.2.2.2⟩
  have x6 : mI M11 a 6 = r8 := by rw [e11, mI_sI, up2_k _ _ _ (by omega), e10, mI_sI, up2_same]
  have x7 : mI M11 a 7 = -1000000005 := by rw [e11, mI_sI, up2_same]
  rcases hH with ⟨i0, rfl, hH⟩ | ⟨n0, i1, rfl, rfl⟩ | ⟨n0, n1, i2, rfl, rfl⟩ | ⟨n0, n1, n2, rfl, rfl⟩
  · have r8e := r0 i0
    subst r8e
    refine ⟨fun _ => ?_, fun y => absurd x6 y⟩
    refine ⟨_, cp_X8_step G d (by omega) X M11 a n c (tnext c n k00) hS (F11.by hB) T1.2.2.1 T1.2.2.2.2.2.2.1 C11.2.1 C11.2.2.1, ?_⟩
    rintro M15 ⟨z1, z2⟩
    have F15 := F11.trans z2.th
    rw [z1.2.2.1, z1.2.2.2]
    have s3 := T2.2.2.2.2.2.2.1
    have zz := T2.2.2.2.2.2.2.2
    have no : ∀ (P : Prop), P → ¬ (kS (tnext c n (tnext c n k00)) = 2 ∧ kZ (tnext c n (tnext c n k00)) = 0 ∧ kE (tnext c n (tnext c n k00)) - kB (tnext c n (tnext c n k00)) ≤ 4 ∧ tnum c (kB (tnext c n (tnext c n k00))) (kE (tnext c n (tnext c n k00)) - kB (tnext c n (tnext c n k00))) < 6) → o = none := by
      intro _ _ y
      rcases hH with ⟨h1, h2, h3, h4, _⟩ | ⟨_, h⟩
      · exact absurd ⟨h1, h2, h3, h4⟩ y
      · exact h
    have out : ∀ M2, THF a M M2 → CT M2 a (tnext c n (tnext c n k00)) → ¬ (kS (tnext c n (tnext c n k00)) = 2 ∧ kZ (tnext c n (tnext c n k00)) = 0 ∧ kE (tnext c n (tnext c n k00)) - kB (tnext c n (tnext c n k00)) ≤ 4 ∧ tnum c (kB (tnext c n (tnext c n k00))) (kE (tnext c n (tnext c n k00)) - kB (tnext c n (tnext c n k00))) < 6) → THF a M M2 ∧ CT M2 a (tnext c n (tnext c n k00)) ∧ (o = none → (0 : Int32) = 0) ∧ ∀ key, o = some key → ¬ (0 : Int32) = 0 ∧ mI M2 a 6 = nI (kc key) ∧ mI M2 a 7 = (if key ≤ 5 then nI key else -1000000005) := by
      intro M2 q1 q2 y
      refine ⟨q1, q2, fun _ => rfl, fun key hk => ?_⟩
      rw [no True trivial y] at hk
      cases hk
    refine ⟨fun y => out M15 F15 z1 (fun u => y (by rw [u.1]; rfl)), fun y => ?_⟩
    have s2 := (nI_inj (b := 2) (by omega) (by omega)).mp y
    refine ⟨fun y2 => ?_, fun y2 => out M15 F15 z1 (fun u => y2 (by rw [u.2.1]; rfl))⟩
    have z0 := (nI_inj (b := 0) (by omega) (by omega)).mp y2
    refine ⟨_, cp_X8_numberThere G d X M15 a n c _ hS (F15.by hB) T2 z1 s2, ?_⟩
    rintro M21 r22 ⟨e, er⟩
    have e := e.symm
    subst e
    intro M24 e24
    have F24 := F15.trans (THF.set (by omega) e24)
    have o24 : ∀ j, j ≠ 7 → mI M24 a j = mI M15 a j := fun j hj => by rw [e24, mI_sI, up2_k _ _ _ hj]
    have C24 : CT M24 a (tnext c n (tnext c n k00)) := ⟨by rw [o24 2 (by omega)]; exact z1.1, by rw [o24 3 (by omega)]; exact z1.2.1, by rw [o24 4 (by omega)]; exact z1.2.2.1, by rw [o24 5 (by omega)]; exact z1.2.2.2⟩
    have x24 : mI M24 a 7 = r22 := by rw [e24, mI_sI, up2_same]
    have x246 : mI M24 a 6 = 0 := by rw [o24 6 (by omega), z2.2.1 6 (by omega), x6]
    have dg := T2.2.2.2.2.2.1 s2
    by_cases l4 : kE (tnext c n (tnext c n k00)) - kB (tnext c n (tnext c n k00)) ≤ 4
    · rw [if_pos l4] at er
      have le := tnum_le (c := c) (b := kB (tnext c n (tnext c n k00))) l4 (fun i i1 i2 => dg i i1 (by omega))
      by_cases l6 : tnum c (kB (tnext c n (tnext c n k00))) (kE (tnext c n (tnext c n k00)) - kB (tnext c n (tnext c n k00))) < 6
      · have ho : o = some (tnum c (kB (tnext c n (tnext c n k00))) (kE (tnext c n (tnext c n k00)) - kB (tnext c n (tnext c n k00)))) := by
          rcases hH with ⟨_, _, _, _, h⟩ | ⟨h, _⟩
          · exact h
          · exact absurd ⟨s2, z0, l4, l6⟩ h
        have hc1 : (¬ (mI M24 a 7 < 0)) ∧ ¬ (6 ≤ mI M24 a 7) := by
          rw [x24, er]
          exact ⟨nI_pos (by omega), fun u => by
            have := (nI_leI (a := 6) (by omega) (by omega)).mp u
            omega⟩
        refine ⟨F24, C24, fun u => ?_, fun key u => ?_⟩
        · rw [ho] at u
          cases u
        · rw [ho] at u
          cases u
          refine ⟨?_, ?_, ?_⟩
          · rw [if_pos hc1]
            decide
          · rw [x246, show kc (tnum c (kB (tnext c n (tnext c n k00))) (kE (tnext c n (tnext c n k00)) - kB (tnext c n (tnext c n k00)))) = 0 from if_pos (by omega)]
            rfl
          · rw [x24, er, if_pos (by omega)]
      · have hc1 : ¬ ((¬ (mI M24 a 7 < 0)) ∧ ¬ (6 ≤ mI M24 a 7)) := by
          rw [x24, er]
          exact fun u => u.2 ((nI_leI (a := 6) (by omega) (by omega)).mpr (by omega))
        rw [if_neg hc1]
        exact out M24 F24 C24 (fun u => l6 u.2.2.2)
    · rw [if_neg l4] at er
      have hc1 : ¬ ((¬ (mI M24 a 7 < 0)) ∧ ¬ (6 ≤ mI M24 a 7)) := by
        rw [x24, er]
        decide
      rw [if_neg hc1]
      exact out M24 F24 C24 (fun u => l4 u.2.2.1)
  · have r8e := r1 n0 i1
    subst r8e
    refine ⟨fun y => absurd (x6.symm.trans y) (by decide), fun _ => ⟨F11, C11, fun u => (by cases u), fun key u => ?_⟩⟩
    cases u
    rw [x6]
    exact ⟨by decide, by decide, x7⟩
  · have r8e := r2 n0 n1 i2
    subst r8e
    refine ⟨fun y => absurd (x6.symm.trans y) (by decide), fun _ => ⟨F11, C11, fun u => (by cases u), fun key u => ?_⟩⟩
    cases u
    rw [x6]
    exact ⟨by decide, by decide, x7⟩
  · have r8e := r3 n0 n1 n2
    subst r8e
    refine ⟨fun y => absurd (x6.symm.trans y) (by decide), fun _ => ⟨F11, C11, fun _ => ?_, fun key u => (by cases u)⟩⟩
    rw [x6]
    decide
theorem cp_X8_beginReading (G : Gl) (d : Nat) (X : Sh) (M : Mm) (a : Nat) (hS : Sh7 X a) : Cv G m_X8_beginReading d [.ref a] X M (fun M2 => (∀ b, b ≠ a → mI M2 b = mI M b) ∧ (∀ j, j ≠ 3 → j ≠ 4 → j ≠ 8 → j ≠ 10 → j ≠ 12 → j ≠ 13 → j ≠ 14 → j ≠ 15 → mI M2 a j = mI M a j) ∧ mR M2 = mR M ∧ mI M2 a 3 = 0 ∧ mI M2 a 4 = 0 ∧ mI M2 a 8 = 0 ∧ mI M2 a 10 = 0 ∧ mI M2 a 12 = 0 ∧ mI M2 a 13 = 0 ∧ mI M2 a 14 = 0 ∧ mI M2 a 15 = 1) := by
  refine Cv.of (by decide) (Nat.le_of_ble_eq_true rfl) (bX8_beginReading_0 hS ?_)
  intro M1 e1 M2 e2 M3 e3 M4 e4 M5 e5 M6 e6 M7 e7 M8 e8
  subst e1 e2 e3 e4 e5 e6 e7 e8
  refine ⟨fun b hb => ?_, fun j j1 j2 j3 j4 j5 j6 j7 j8 => ?_, rfl, ?_, ?_, ?_, ?_, ?_, ?_, ?_, ?_⟩
  · simp only [mI_sI, up2_off _ _ _ hb]
  · simp only [mI_sI]
    rw [up2_k _ _ _ j8, up2_k _ _ _ j7, up2_k _ _ _ j6, up2_k _ _ _ j5, up2_k _ _ _ j4, up2_k _ _ _ j3, up2_k _ _ _ j2, up2_k _ _ _ j1]
  all_goals simp [mI_sI, up2]
/-- outside the tape's own -/
def RF (a : Nat) (M M2 : Mm) : Prop := (∀ b, b ≠ a → b ≠ a + 2 → b ≠ a + 3 → mI M2 b = mI M b) ∧ mR M2 = mR M
/-- the class reads a text: the head is none -/
theorem cp_X8_readText_no (G : Gl) (d : Nat) (hd : 7 ≤ d) (X : Sh) (M : Mm) (a n : Nat) (c : Nat → Nat) (k : Tk) (hS : Sh7 X a) (hB : BYc M a c n) (hH : Head c n k none) : Cn G m_X8_readText d [.ref a] X M (fun M2 r => RF a M M2 ∧ r = nI (kB k)) := by
  obtain ⟨d, rfl⟩ : ∃ d1, d = d1 + 1 := ⟨d - 1, by omega⟩
  refine Cn.of (by decide) (Nat.le_of_ble_eq_true rfl) (bX8_readText_0 hS ⟨_, cp_X8_beginReading G d X M a hS, ?_⟩)
  rintro M3 ⟨g1, g2, g3, z3, z4, _⟩
  have B3 : BYc M3 a c n := ⟨by rw [g2 1 (by omega) (by omega) (by omega) (by omega) (by omega) (by omega) (by omega) (by omega)]; exact hB.1, hB.2.1, fun i hi => by rw [g1 (a + 1) (by omega)]; exact hB.2.2 i hi⟩
  refine ⟨_, cp_X8_takesHead G d (by omega) X M3 a n c k none hS B3 z3 z4 hH, ?_⟩
  rintro M7 r8 ⟨f1, f2, f3, _⟩
  refine ⟨fun y => absurd (f3 rfl) y, fun _ => ⟨⟨fun b b1 _ _ => by rw [f1.1 b b1, g1 b b1], by rw [f1.2.2, g3]⟩, f2.1⟩⟩
/-- the class reads a text: the head is one -/
theorem cp_X8_readText_at (G : Gl) (d : Nat) (hd : 7 ≤ d) (X : Sh) (M : Mm) (a n key : Nat) (c : Nat → Nat) (k : Tk) (s2 : Tk × Bd) (hS : Sh7 X a) (hB : BYc M a c n) (hH : Head c n k (some key)) (hR : Runs c n key (tnext c n k, true, [], [], 0, 0, 0) s2) (hend : Stuck c key s2 ∨ (kS s2.1 = 0 ∧ s2.2.1 = false ∧ s2.2.2.2.2.1 = 0)) : Cn G m_X8_readText d [.ref a] X M (fun M2 r => RF a M M2 ∧
    ((Stuck c key s2 ∧ r = nI (kB s2.1)) ∨ ((kS s2.1 = 0 ∧ s2.2.1 = false ∧ s2.2.2.2.2.1 = 0) ∧ r = -1 ∧ mI M2 a 6 = nI (kc key) ∧ mI M2 a 7 = (if key ≤ 5 then nI key else -1000000005) ∧ mI M2 a 8 = nI s2.2.2.2.2.2.2 ∧ HO M2 a (fl 1 true s2.2.2.1 s2.2.2.2.1).1 (fl 1 true s2.2.2.1 s2.2.2.2.1).2))) := by
  obtain ⟨d, rfl⟩ : ∃ d1, d = d1 + 1 := ⟨d - 1, by omega⟩
  have hk := hH.key
  have hT := hH.tv
  refine Cn.of (by decide) (Nat.le_of_ble_eq_true rfl) (bX8_readText_0 hS ⟨_, cp_X8_beginReading G d X M a hS, ?_⟩)
  rintro M3 ⟨g1, g2, g3, z3, z4, z8, z10, z12, z13, z14, z15⟩
  have B3 : BYc M3 a c n := ⟨by rw [g2 1 (by omega) (by omega) (by omega) (by omega) (by omega) (by omega) (by omega) (by omega)]; exact hB.1, hB.2.1, fun i hi => by rw [g1 (a + 1) (by omega)]; exact hB.2.2 i hi⟩
  refine ⟨_, cp_X8_takesHead G d (by omega) X M3 a n c k (some key) hS B3 z3 z4 hH, ?_⟩
  rintro M7 r8 ⟨f1, f2, _, f4⟩
  obtain ⟨f4, f6, f7⟩ := f4 key rfl
  refine ⟨fun _ => ?_, fun y => absurd y f4⟩
  have B7 := f1.by B3
  refine ⟨_, cp_X8_step G d (by omega) X M7 a n c k hS B7 hT.2.2.1 hT.2.2.2.2.2.2.1 f2.2.1 f2.2.2.1, ?_⟩
  rintro M13 ⟨q1, q2⟩
  have w : ∀ j, 7 < j → mI M13 a j = mI M3 a j := fun j hj => by rw [q2.2.1 j (by omega), f1.2.1 j (by omega)]
  have F13 : RF a M M13 := ⟨fun b b1 _ _ => by rw [q2.1 b b1, f1.1 b b1, g1 b b1], by rw [q2.2.2, f1.2.2, g3]⟩
  obtain ⟨j, hj⟩ := hR
  refine cl_read G d (by omega) hS hk (fun i hi => (hB.2.2 i hi).2) M13 s2 hend (fun y M2 m1 => ⟨⟨fun b b1 b2 b3 => by rw [m1.1 b b1 b2 b3, F13.1 b b1 b2 b3], m1.2.2.trans F13.2⟩, Or.inl ⟨y, rfl⟩⟩) (fun y M2 m1 m2 m3 m4 => ⟨⟨fun b b1 b2 b3 => by rw [m1.1 b b1 b2 b3, F13.1 b b1 b2 b3], m1.2.2.trans F13.2⟩, Or.inr ⟨y, rfl, m2, (by rw [m1.2.1, q2.2.1 7 (by omega), f7]), m3, m4⟩⟩) j 0 (tnext c n k) (true, [], [], 0, 0, 0) M13 hj (Nat.zero_le _) ⟨q2.by B7, q1, ?_, ⟨?_, fun i hi => absurd hi (Nat.not_lt_zero i), ?_, fun i hi => absurd hi (Nat.not_lt_zero i)⟩, ?_, ?_, ?_, ?_⟩ ⟨(TV.next hT.2.2.1).1, fun x hx => (by cases hx), Nat.le_refl _, Nat.zero_le _, Nat.zero_le _, Nat.zero_le _⟩ (TF.refl _ _)
  · rw [q2.2.1 6 (by omega), f6]
  · rw [w 10 (by omega), z10]
    rfl
  · rw [w 12 (by omega), z12]
    rfl
  · rw [w 8 (by omega), z8]
    rfl
  · rw [w 13 (by omega), z13]
    rfl
  · rw [w 14 (by omega), z14]
    rfl
  · rw [w 15 (by omega), z15]
    rfl
