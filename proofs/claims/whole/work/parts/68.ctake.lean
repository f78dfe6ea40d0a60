/-! the class's steps over a text, and its whole reading -/
def CB (M : Mm) (a : Nat) (c : Nat → Nat) (n key : Nat) (k : Tk) (b : Bd) : Prop := BYc M a c n ∧ CT M a k ∧ mI M a 6 = nI (kc key) ∧ HO M a b.2.1 b.2.2.1 ∧ mI M a 8 = nI b.2.2.2.2.2 ∧ mI M a 13 = nI b.2.2.2.1 ∧ mI M a 14 = nI b.2.2.2.2.1 ∧ mI M a 15 = (if b.1 = true then 1 else 0)
def TF (a : Nat) (M M2 : Mm) : Prop := (∀ b, b ≠ a → b ≠ a + 2 → b ≠ a + 3 → mI M2 b = mI M b) ∧ mI M2 a 7 = mI M a 7 ∧ mR M2 = mR M
theorem TF.refl (a : Nat) (M : Mm) : TF a M M := ⟨fun _ _ _ _ => rfl, rfl, rfl⟩
theorem TF.trans {a : Nat} {M M2 M3 : Mm} (h1 : TF a M M2) (h2 : TF a M2 M3) : TF a M M3 := ⟨fun b p q r => (h2.1 b p q r).trans (h1.1 b p q r), h2.2.1.trans h1.2.1, h2.2.2.trans h1.2.2⟩
theorem TF.set {a j : Nat} {v : Int32} {M M2 : Mm} (hj : ¬ j = 7) (e : M2 = sI M a j v) : TF a M M2 := ⟨fun b hb _ _ => by rw [e, mI_sI, up2_off _ _ _ hb], by rw [e, mI_sI, up2_k _ _ _ (by omega)], by rw [e]; rfl⟩
theorem TF.set2 {a j : Nat} {v : Int32} {M M2 : Mm} (e : M2 = sI M (a + 2) j v) : TF a M M2 := ⟨fun b _ hb _ => by rw [e, mI_sI, up2_off _ _ _ hb], by rw [e, mI_sI, up2_off _ _ _ (by omega)], by rw [e]; rfl⟩
theorem TF.set3 {a j : Nat} {v : Int32} {M M2 : Mm} (e : M2 = sI M (a + 3) j v) : TF a M M2 := ⟨fun b _ _ hb => by rw [e, mI_sI, up2_off _ _ _ hb], by rw [e, mI_sI, up2_off _ _ _ (by omega)], by rw [e]; rfl⟩
theorem WhF.tf {a : Nat} {M M2 : Mm} (h : WhF a M M2) : TF a M M2 := ⟨fun b h1 h2 _ => h.1 b h1 h2, h.2.1 7 (by omega) (by omega) (by omega), h.2.2⟩
theorem StF.tf {a : Nat} {M M2 : Mm} (h : StF a M M2) : TF a M M2 := ⟨fun b h1 _ _ => h.1 b h1, h.2.1 7 (by omega), h.2.2⟩
/-- the tape, where it stands and the key: unchanged where these places are -/
def CA (M : Mm) (a : Nat) (c : Nat → Nat) (n key : Nat) (k : Tk) : Prop := BYc M a c n ∧ CT M a k ∧ mI M a 6 = nI (kc key)
theorem CA.same {M M2 : Mm} {a n key : Nat} {c : Nat → Nat} {k : Tk} (h : CA M a c n key k) (hF : TF a M M2) (hj : ∀ j, 1 ≤ j → j ≤ 6 → mI M2 a j = mI M a j) : CA M2 a c n key k := by
  obtain ⟨⟨h1, hn, hc⟩, ⟨t1, t2, t3, t4⟩, h6⟩ := h
  refine ⟨⟨by rw [hj 1 (by omega) (by omega), h1], hn, fun i hi => ?_⟩, ⟨by rw [hj 2 (by omega) (by omega), t1], by rw [hj 3 (by omega) (by omega), t2], by rw [hj 4 (by omega) (by omega), t3], by rw [hj 5 (by omega) (by omega), t4]⟩, by rw [hj 6 (by omega) (by omega), h6]⟩
  rw [hF.1 (a + 1) (by omega) (by omega) (by omega)]
  exact hc i hi
theorem HO.set {M M2 : Mm} {a j : Nat} {v : Int32} {H : List Nat} {O : List (Nat × Nat)} (h : HO M a H O) (e : M2 = sI M a j v) (h1 : ¬ j = 10) (h2 : ¬ j = 12) : HO M2 a H O :=
  ⟨by rw [e, mI_sI, up2_k _ _ _ (by omega)]; exact h.1, by rw [e, mI_sI, up2_off _ _ _ (by omega)]; exact h.2.1, by rw [e, mI_sI, up2_k _ _ _ (by omega)]; exact h.2.2.1, by rw [e, mI_sI, up2_off _ _ _ (by omega)]; exact h.2.2.2⟩
theorem HO.held {M M2 : Mm} {a x : Nat} {H : List Nat} {O : List (Nat × Nat)} (h : HO M a H O) (e : M2 = sI (sI M (a + 3) H.length (nI x)) a 12 (nI (H.length + 1))) : HO M2 a (x :: H) O := by
  refine ⟨?_, ?_, ?_, ?_⟩
  · rw [e, mI_sI, up2_k _ _ _ (by omega), mI_sI, up2_off _ _ _ (by omega)]
    exact h.1
  · rw [e, mI_sI, up2_off _ _ _ (by omega), mI_sI, up2_off _ _ _ (by omega)]
    exact h.2.1
  · rw [e, mI_sI, up2_same]
    rfl
  · rw [e, mI_sI, up2_off _ _ _ (by omega), mI_sI, up2_row]
    have := pile_push (x := nI x) h.2.2.2
    rw [List.length_map] at this
    exact this
theorem HO.wrote {M M2 : Mm} {a : Nat} {it : Nat × Nat} {v : Int32} {H : List Nat} {O : List (Nat × Nat)} (h : HO M a H O) (hv : v = ecd it) (e : M2 = sI (sI M (a + 2) O.length v) a 10 (nI (O.length + 1))) : HO M2 a H (O ++ [it]) := by
  refine ⟨?_, ?_, ?_, ?_⟩
  · rw [e, mI_sI, up2_same, List.length_append]
    rfl
  · rw [e, mI_sI, up2_off _ _ _ (by omega), mI_sI, up2_row]
    exact h.2.1.snoc hv
  · rw [e, mI_sI, up2_k _ _ _ (by omega), mI_sI, up2_off _ _ _ (by omega)]
    exact h.2.2.1
  · rw [e, mI_sI, up2_off _ _ _ (by omega), mI_sI, up2_off _ _ _ (by omega)]
    exact h.2.2.2
def IV (c : Nat → Nat) (n : Nat) (k : Tk) (b : Bd) : Prop := TV c n k ∧ HB b.2.1 ∧ cnt b.2.1 ≤ b.2.2.2.2.1 ∧ b.2.1.length + b.2.2.1.length ≤ kB k ∧ b.2.2.2.1 ≤ 8 ∧ b.2.2.2.2.1 ≤ 8
theorem fl_suf (r : Nat) (b : Bool) : ∀ (H : List Nat) (O : List (Nat × Nat)), ∃ P, H = P ++ (fl r b H O).1
  | [], O => ⟨[], rfl⟩
  | x :: H, O => by
    unfold fl
    split
    · obtain ⟨P, e⟩ := fl_suf r b H (O ++ [(2, x)])
      exact ⟨x :: P, congrArg (List.cons x) e⟩
    · exact ⟨[], rfl⟩
theorem cnt_app : ∀ (P H : List Nat), cnt (P ++ H) = cnt P + cnt H
  | [], H => by
    show cnt H = 0 + cnt H
    omega
  | x :: P, H => by
    show (if x = 33 then 1 else 0) + cnt (P ++ H) = (if x = 33 then 1 else 0) + cnt P + cnt H
    rw [cnt_app P H]
    omega
theorem nots_cnt : ∀ (H : List Nat) (O : List (Nat × Nat)) (nn : Nat), (∃ P, H = P ++ (nots H O nn).1) ∧ (nots H O nn).2.2 ≤ nn ∧ (cnt H ≤ nn → cnt (nots H O nn).1 ≤ (nots H O nn).2.2)
  | [], O, nn => ⟨⟨[], rfl⟩, Nat.le_refl _, fun h => h⟩
  | x :: H, O, nn => by
    unfold nots
    by_cases y : x = 33
    · rw [if_pos y]
      obtain ⟨⟨P, e⟩, h1, h2⟩ := nots_cnt H (O ++ [(2, 33)]) (nn - 1)
      refine ⟨⟨x :: P, congrArg (List.cons x) e⟩, by omega, fun h => h2 ?_⟩
      have h : (if x = 33 then 1 else 0) + cnt H ≤ nn := h
      rw [if_pos y] at h
      omega
    · rw [if_neg y]
      exact ⟨⟨[], rfl⟩, Nat.le_refl _, fun h => h⟩
theorem HB.suf {P H H2 : List Nat} (h : HB H) (e : H = P ++ H2) : HB H2 := fun x hx => h x (by rw [e]; exact List.mem_append.mpr (Or.inr hx))
theorem HB.cons {x : Nat} {H : List Nat} (h : HB H) (hx : x ≤ 255) : HB (x :: H) := fun y hy => by
  rcases List.mem_cons.mp hy with q | q
  · omega
  · exact h y q
theorem HB.tail {H : List Nat} (h : HB H) : HB H.tail := fun y hy => h y (List.mem_of_mem_tail hy)
theorem cnt_tail (H : List Nat) : cnt H.tail ≤ cnt H := by
  cases H with
  | nil => exact Nat.le_refl _
  | cons x H =>
    show cnt H ≤ (if x = 33 then 1 else 0) + cnt H
    omega
theorem IV.step {c : Nat → Nat} {n key : Nat} {k : Tk} {b b2 : Bd} (hc : ∀ i, i < n → c i ≤ 255) (h : IV c n k b) (h0 : ¬ kS k = 0) (e : cbody c key k b = some b2) : IV c n (tnext c n k) b2 := by
  obtain ⟨w, H, O, nb, nn, np⟩ := b
  obtain ⟨hT, hB, hc33, hl, hnb, hnn⟩ := h
  have hB : HB H := hB
  have hc33 : cnt H ≤ nn := hc33
  have hnb : nb ≤ 8 := hnb
  have hnn : nn ≤ 8 := hnn
  have len := cbody_len e
  obtain ⟨T2, be⟩ := TV.next (c := c) hT.2.2.1
  have lt := hT.2.2.2.2.1 h0
  have bn : kB k < n := by
    have := hT.2.2.1
    omega
  have cb := hc (kB k) bn
  have hl : H.length + O.length ≤ kB k := hl
  have len : b2.2.1.length + b2.2.2.1.length ≤ H.length + O.length + 1 := len
  have ll : b2.2.1.length + b2.2.2.1.length ≤ kB (tnext c n k) := by omega
  suffices hs : HB b2.2.1 ∧ cnt b2.2.1 ≤ b2.2.2.2.2.1 ∧ b2.2.2.2.1 ≤ 8 ∧ b2.2.2.2.2.1 ≤ 8 by
    exact ⟨T2, hs.1, hs.2.1, ll, hs.2.2.1, hs.2.2.2⟩
  cases w with
  | true =>
    rw [cbody_t] at e
    by_cases h3 : kS k = 3
    · rw [if_pos h3] at e
      by_cases y : c (kB k) = 40 ∧ nb < 8
      · rw [if_pos y] at e
        cases e
        refine ⟨hB.cons (by omega), ?_, ?_, hnn⟩
        · show (if 40 = 33 then 1 else 0) + cnt H ≤ nn
          rw [if_neg (by omega)]
          omega
        · show nb + 1 ≤ 8
          omega
      · rw [if_neg y] at e
        by_cases y2 : c (kB k) = 33 ∧ nn < 8
        · rw [if_pos y2] at e
          cases e
          refine ⟨hB.cons (by omega), ?_, hnb, ?_⟩
          · show (if 33 = 33 then 1 else 0) + cnt H ≤ nn + 1
            rw [if_pos rfl]
            omega
          · show nn + 1 ≤ 8
            omega
        · rw [if_neg y2] at e
          cases e
    · rw [if_neg h3] at e
      cases ht : tpc c key k with
      | none => rw [ht] at e; cases e
      | some it =>
        rw [ht] at e
        cases e
        obtain ⟨⟨P, eP⟩, n1, n2⟩ := nots_cnt H (O ++ [it]) nn
        exact ⟨hB.suf eP, n2 hc33, hnb, Nat.le_trans n1 hnn⟩
  | false =>
    rw [cbody_f] at e
    by_cases h3 : kS k = 3
    · rw [if_pos h3] at e
      by_cases h41 : c (kB k) = 41
      · rw [if_pos h41] at e
        by_cases y : nb = 0
        · rw [if_pos y] at e
          cases e
        · rw [if_neg y] at e
          cases e
          obtain ⟨P1, e1⟩ := fl_suf 1 true H O
          obtain ⟨⟨P, eP⟩, n1, n2⟩ := nots_cnt (fl 1 true H O).1.tail (fl 1 true H O).2 nn
          refine ⟨((hB.suf e1).tail).suf eP, n2 ?_, ?_, Nat.le_trans n1 hnn⟩
          · have a1 := cnt_app P1 (fl 1 true H O).1
            rw [← e1] at a1
            have a2 := cnt_tail (fl 1 true H O).1
            omega
          · show nb - 1 ≤ 8
            omega
      · rw [if_neg h41] at e
        by_cases y : rk (c (kB k)) = 0
        · rw [if_pos y] at e
          cases e
        · rw [if_neg y] at e
          by_cases y2 : rk (c (kB k)) = 3 ∧ trk (fl 3 false H O).1 = 3
          · rw [if_pos y2] at e
            cases e
          · rw [if_neg y2] at e
            cases e
            obtain ⟨P1, e1⟩ := fl_suf (rk (c (kB k))) (decide (¬ rk (c (kB k)) = 3)) H O
            refine ⟨(hB.suf e1).cons cb, ?_, hnb, hnn⟩
            have a1 := cnt_app P1 (fl (rk (c (kB k))) (decide (¬ rk (c (kB k)) = 3)) H O).1
            rw [← e1] at a1
            have n33 := (rk_mem y).2
            show (if c (kB k) = 33 then 1 else 0) + cnt (fl (rk (c (kB k))) (decide (¬ rk (c (kB k)) = 3)) H O).1 ≤ nn
            rw [if_neg n33]
            omega
    · rw [if_neg h3] at e
      cases e
/-- what a step of the class answers -/
def Took (a : Nat) (c : Nat → Nat) (n key : Nat) (k : Tk) (b : Bd) (M M2 : Mm) (r : Int32) : Prop := (cbody c key k b = none ∧ r = 0 ∧ mI M2 a 2 = nI (kB k) ∧ TF a M M2) ∨ (∃ b2, cbody c key k b = some b2 ∧ r = 1 ∧ CB M2 a c n key k b2 ∧ TF a M M2)
theorem piece_cont (G : Gl) (d : Nat) (hd : 2 ≤ d) {X : Sh} {a n key nb nn np : Nat} {c : Nat → Nat} {k : Tk} {H : List Nat} {O : List (Nat × Nat)} {Q : Mm → Int32 → Prop} (hS : Sh7 X a) (M : Mm) (it : Nat × Nat) (r : Int32) (hr : r = ecd it) (h : CB M a c n key k (true, H, O, nb, nn, np)) (hI : IV c n k (true, H, O, nb, nn, np)) (h0 : ¬ kS k = 0)
    (hq : ∀ M2, CB M2 a c n key k (false, (nots H (O ++ [it]) nn).1, (nots H (O ++ [it]) nn).2.1, nb, (nots H (O ++ [it]) nn).2.2, np + 1) → TF a M M2 → Q M2 1) :
    (∃ q10 : Mm → Prop, Cv G m_X8_write d [.ref a, .int r] X M q10 ∧ ∀ M12, q10 M12 → (∀ M14 : Mm, M14 = sI M12 a 8 ((mI M12 a 8) + 1) → (∃ q15 : Mm → Prop, Cv G m_X8_endPiece d [.ref a] X M14 q15 ∧ ∀ M17, q15 M17 → Q M17 1))) := by
  obtain ⟨hBy, hCT, h6, hHO, h8, h13, h14, h15⟩ := h
  obtain ⟨hT, hHB, hc33, hl, hnb, hnn⟩ := hI
  have hHO : HO M a H O := hHO
  have hHB : HB H := hHB
  have hl : H.length + O.length ≤ kB k := hl
  have h8 : mI M a 8 = nI np := h8
  have h13 : mI M a 13 = nI nb := h13
  have h14 : mI M a 14 = nI nn := h14
  have hc33 : cnt H ≤ nn := hc33
  have lt := hT.2.2.2.2.1 h0
  have bn : kB k < n := by
    have := hT.2.2.1
    omega
  have n96 := hBy.2.1
  refine ⟨_, cp_X8_write G d X M a O.length r hS hHO.1 (by omega), ?_⟩
  intro M12 e12 M14 e14
  have F12 : TF a M M12 := (TF.set2 rfl).trans (TF.set (by omega) e12)
  have A12 : CA M12 a c n key k := CA.same ⟨hBy, hCT, h6⟩ F12 (fun j j1 j2 => by rw [e12, mI_sI, up2_k _ _ _ (by omega), mI_sI, up2_off _ _ _ (by omega)])
  have o12 : ∀ j, j ≠ 10 → mI M12 a j = mI M a j := fun j hj => by rw [e12, mI_sI, up2_k _ _ _ hj, mI_sI, up2_off _ _ _ (by omega)]
  have H12 := hHO.wrote hr e12
  rw [o12 8 (by omega), h8, nI_1] at e14
  have F14 := F12.trans (TF.set (by omega) e14)
  have o14 : ∀ j, j ≠ 8 → mI M14 a j = mI M12 a j := fun j hj => by rw [e14, mI_sI, up2_k _ _ _ hj]
  have A14 := A12.same (TF.set (by omega) e14) (fun j j1 j2 => o14 j (by omega))
  have H14 := H12.set e14 (by omega) (by omega)
  refine ⟨_, cp_X8_endPiece G d hd X M14 a nn H (O ++ [it]) hS H14 hHB hc33 (by rw [List.length_append]; show H.length + (O.length + 1) ≤ 96; omega) (by rw [o14 14 (by omega), o12 14 (by omega), h14]), ?_⟩
  rintro M17 ⟨z1, z2, z3⟩
  have w : ∀ j, j ≠ 10 → j ≠ 12 → j ≠ 14 → j ≠ 15 → mI M17 a j = mI M14 a j := fun j j1 j2 j3 j4 => by rw [z2.2.1 j j1 j2 j3, mI_sI, up2_k _ _ _ j4]
  have F17 : TF a M14 M17 := (TF.set (by omega) rfl).trans z2.tf
  obtain ⟨b1, b2, b3⟩ := A14.same F17 (fun j j1 j2 => w j (by omega) (by omega) (by omega) (by omega))
  refine hq M17 ⟨b1, b2, b3, z1, ?_, ?_, z3, ?_⟩ (F14.trans F17)
  · rw [w 8 (by omega) (by omega) (by omega) (by omega), e14, mI_sI, up2_same]
  · rw [w 13 (by omega) (by omega) (by omega) (by omega), o14 13 (by omega), o12 13 (by omega)]
    exact h13
  · rw [z2.2.1 15 (by omega) (by omega) (by omega), mI_sI, up2_same]
    rfl
theorem cp_X8_takesOpening (G : Gl) (d : Nat) (hd : 1 ≤ d) (X : Sh) (M : Mm) (a n key nb nn np : Nat) (c : Nat → Nat) (k : Tk) (H : List Nat) (O : List (Nat × Nat)) (hS : Sh7 X a) (h : CB M a c n key k (true, H, O, nb, nn, np)) (hI : IV c n k (true, H, O, nb, nn, np)) (h3 : kS k = 3) : Cn G m_X8_takesOpening d [.ref a] X M (Took a c n key k (true, H, O, nb, nn, np) M) := by
  obtain ⟨d, rfl⟩ : ∃ d1, d = d1 + 1 := ⟨d - 1, by omega⟩
  obtain ⟨hBy, hCT, h6, hHO, h8, h13, h14, h15⟩ := h
  obtain ⟨hT, hHB, hc33, hl, hnb, hnn⟩ := hI
  have hHO : HO M a H O := hHO
  have hHB : HB H := hHB
  have hl : H.length + O.length ≤ kB k := hl
  have h8 : mI M a 8 = nI np := h8
  have h13 : mI M a 13 = nI nb := h13
  have h14 : mI M a 14 = nI nn := h14
  have hnb : nb ≤ 8 := hnb
  have hnn : nn ≤ 8 := hnn
  have lt := hT.2.2.2.2.1 (by omega)
  have bn : kB k < n := by
    have := hT.2.2.1
    omega
  have n96 := hBy.2.1
  obtain ⟨eb, lb⟩ := hBy.2.2 (kB k) bn
  have cno : ¬ (c (kB k) = 40 ∧ nb < 8) → ¬ (c (kB k) = 33 ∧ nn < 8) → Took a c n key k (true, H, O, nb, nn, np) M M 0 := fun y1 y2 => Or.inl ⟨by rw [cbody_t, if_pos h3, if_neg y1, if_neg y2], rfl, hCT.1, TF.refl _ _⟩
  have hold : ∀ (j x nb2 nn2 : Nat) (M8 : Mm) (v : Int32), (j = 13 ∨ j = 14) → c (kB k) = x → M8 = sI M a j v → (mI M8 a 13 = nI nb2) → (mI M8 a 14 = nI nn2) → cbody c key k (true, H, O, nb, nn, np) = some (true, x :: H, O, nb2, nn2, np) → (∃ q9 : Mm → Prop, Cv G m_X8_hold d [.ref a, .int (nI (c (kB k)))] X M8 q9 ∧ ∀ M11, q9 M11 → Took a c n key k (true, H, O, nb, nn, np) M M11 1) := by
    intro j x nb2 nn2 M8 v hj hx e8 k13 k14 hb
    have H8 := hHO.set e8 (by omega) (by omega)
    refine ⟨_, cp_X8_hold G d X M8 a H.length _ hS H8.2.2.1 (by omega), ?_⟩
    intro M11 e11
    rw [hx] at e11
    have F11 : TF a M M11 := (TF.set (by omega) e8).trans ((TF.set3 rfl).trans (TF.set (by omega) e11))
    have o11 : ∀ i, i ≠ 12 → mI M11 a i = mI M8 a i := fun i hi => by rw [e11, mI_sI, up2_k _ _ _ hi, mI_sI, up2_off _ _ _ (by omega)]
    have o8 : ∀ i, i ≠ j → mI M8 a i = mI M a i := fun i hi => by rw [e8, mI_sI, up2_k _ _ _ hi]
    obtain ⟨b1, b2, b3⟩ := CA.same ⟨hBy, hCT, h6⟩ F11 (fun i i1 i2 => by rw [o11 i (by omega), o8 i (by omega)])
    refine Or.inr ⟨_, hb, rfl, ⟨b1, b2, b3, H8.held e11, ?_, ?_, ?_, ?_⟩, F11⟩
    · rw [o11 8 (by omega), o8 8 (by omega)]
      exact h8
    · rw [o11 13 (by omega)]
      exact k13
    · rw [o11 14 (by omega)]
      exact k14
    · rw [o11 15 (by omega), o8 15 (by omega)]
      exact h15
  have no33 : ¬ (c (kB k) = 40 ∧ nb < 8) → ∀ v4 : Int32, v4 = nI (c (kB k)) → ((¬ (v4 = 33) → Took a c n key k (true, H, O, nb, nn, np) M M 0) ∧ (v4 = 33 → ((8 ≤ (mI M a 14) → Took a c n key k (true, H, O, nb, nn, np) M M 0) ∧ (¬ (8 ≤ (mI M a 14)) → (∀ M8 : Mm, M8 = sI M a 14 ((mI M a 14) + 1) → (∃ q9 : Mm → Prop, Cv G m_X8_hold d [.ref a, .int v4] X M8 q9 ∧ ∀ M11, q9 M11 → Took a c n key k (true, H, O, nb, nn, np) M M11 1)))))) := by
    intro y v4 e4
    subst e4
    refine ⟨fun q => cno y (fun z => q (by rw [z.1]; rfl)), fun q => ?_⟩
    have x33 := (nI_inj (b := 33) (by omega) (by omega)).mp q
    rw [h14]
    refine ⟨fun q2 => cno y (fun z => ?_), fun q2 M8 e8 => ?_⟩
    · have := (nI_leI (a := 8) (by omega) (by omega)).mp q2
      omega
    · have lt8 : nn < 8 := Nat.lt_of_not_le (fun z => q2 ((nI_leI (a := 8) (by omega) (by omega)).mpr z))
      rw [nI_1] at e8
      exact hold 14 33 nb (nn + 1) M8 _ (Or.inr rfl) x33 e8 (by rw [e8, mI_sI, up2_k _ _ _ (by omega), h13]) (by rw [e8, mI_sI, up2_same]) (by rw [cbody_t, if_pos h3, if_neg y, if_pos ⟨x33, lt8⟩])
  refine Cn.of (by decide) (Nat.le_of_ble_eq_true rfl) (bX8_takesOpening_0 hS ⟨kB k, hCT.1, by omega, ?_⟩)
  intro v4 e4
  rw [eb] at e4
  refine ⟨fun q => no33 (fun z => q (by rw [e4, z.1]; rfl)) v4 e4, fun q => ?_⟩
  rw [e4] at q
  have x40 := (nI_inj (b := 40) (by omega) (by omega)).mp q
  rw [h13]
  refine ⟨fun q2 => no33 (fun z => ?_) v4 e4, fun q2 M8 e8 => ?_⟩
  · have := (nI_leI (a := 8) (by omega) (by omega)).mp q2
    omega
  · have lt8 : nb < 8 := Nat.lt_of_not_le (fun z => q2 ((nI_leI (a := 8) (by omega) (by omega)).mpr z))
    rw [nI_1] at e8
    rw [e4]
    exact hold 13 40 (nb + 1) nn M8 _ (Or.inl rfl) x40 e8 (by rw [e8, mI_sI, up2_same]) (by rw [e8, mI_sI, up2_k _ _ _ (by omega), h14]) (by rw [cbody_t, if_pos h3, if_pos ⟨x40, lt8⟩])
theorem cp_X8_takesPiece (G : Gl) (d : Nat) (hd : 6 ≤ d) (X : Sh) (M : Mm) (a n key nb nn np : Nat) (c : Nat → Nat) (k : Tk) (H : List Nat) (O : List (Nat × Nat)) (hS : Sh7 X a) (h : CB M a c n key k (true, H, O, nb, nn, np)) (hI : IV c n k (true, H, O, nb, nn, np)) (hk : key ≤ 7) (h0 : ¬ kS k = 0) : Cn G m_X8_takesPiece d [.ref a] X M (Took a c n key k (true, H, O, nb, nn, np) M) := by
  obtain ⟨d, rfl⟩ : ∃ d1, d = d1 + 1 := ⟨d - 1, by omega⟩
  obtain ⟨hBy, hCT, h6, hHO, h8, h13, h14, h15⟩ := id h
  have hT := hI.1
  have s3 := hT.2.2.2.2.2.2.1
  have z1 := hT.2.2.2.2.2.2.2
  have n96 := hBy.2.1
  have be := hT.be
  have ke := hT.2.2.1
  have no : tpc c key k = none → ¬ kS k = 3 → Took a c n key k (true, H, O, nb, nn, np) M M 0 := fun y h3 => Or.inl ⟨by rw [cbody_t, if_neg h3, y], rfl, hCT.1, TF.refl _ _⟩
  have yes : ∀ it, tpc c key k = some it → ¬ kS k = 3 → ∀ M2, CB M2 a c n key k (false, (nots H (O ++ [it]) nn).1, (nots H (O ++ [it]) nn).2.1, nb, (nots H (O ++ [it]) nn).2.2, np + 1) → TF a M M2 → Took a c n key k (true, H, O, nb, nn, np) M M2 1 := fun it y h3 M2 g1 g2 => Or.inr ⟨_, by rw [cbody_t, if_neg h3, y], rfl, g1, g2⟩
  refine Cn.of (by decide) (Nat.le_of_ble_eq_true rfl) (bX8_takesPiece_0 hS ?_)
  rw [hCT.2.2.1, hCT.2.2.2]
  refine ⟨fun q => ?_, fun q => ?_⟩
  · have h3 : ¬ kS k = 3 := fun y => q (by rw [y]; rfl)
    refine ⟨fun q2 => ?_, fun q2 => ?_⟩
    · have z0 : kZ k = 0 := (nI_inj (b := 0) (by omega) (by omega)).mp q2
      refine ⟨fun q3 => ?_, fun q3 => ?_⟩
      · have h1 : kS k = 1 := by
          have : ¬ kS k = 2 := fun y => q3 (by rw [y]; rfl)
          omega
        refine ⟨_, cp_X8_nameThere G d (by omega) X M a n key c k hS hBy hT hCT h6 hk h1, ?_⟩
        rintro M6 r7 ⟨e, g1, g2⟩
        have e := e.symm
        subst e
        by_cases y : kE k - kB k = 1 ∧ p_isName (nI key) (nI (c (kB k)))
        · obtain ⟨g3, g4⟩ := g1 y
          have ht : tpc c key k = some (1, c (kB k)) := by
            unfold tpc
            rw [if_neg (by omega), if_pos h1, if_pos ⟨z0, y⟩]
          exact ⟨fun _ => piece_cont G d (by omega) hS M _ r7 g3 h hI h0 (yes _ ht h3), fun q4 => absurd g4 q4⟩
        · have g3 := g2 y
          have ht : tpc c key k = none := by
            unfold tpc
            rw [if_neg (by omega), if_pos h1, if_neg (fun z => y z.2)]
          subst g3
          exact ⟨fun q4 => absurd q4 (by decide), fun _ => no ht h3⟩
      · have h2 : kS k = 2 := (nI_inj (b := 2) (by omega) (by omega)).mp q3
        refine ⟨_, cp_X8_numberThere G d X M a n c k hS hBy hT hCT h2, ?_⟩
        rintro M6 r7 ⟨e, g1⟩
        have e := e.symm
        subst e
        have dg := hT.2.2.2.2.2.1 h2
        by_cases y : kE k - kB k ≤ 4
        · rw [if_pos y] at g1
          have le := tnum_le (c := c) (b := kB k) y (fun i i1 i2 => dg i i1 (by omega))
          have ht : tpc c key k = some (0, tnum c (kB k) (kE k - kB k)) := by
            unfold tpc
            rw [if_pos h2, if_pos ⟨z0, y⟩]
          exact ⟨fun _ => piece_cont G d (by omega) hS M _ r7 (by rw [g1]; rfl) h hI h0 (yes _ ht h3), fun q4 => absurd (by rw [g1]; exact (nI_leI (a := 0) (by omega) (by omega)).mpr (by omega)) q4⟩
        · rw [if_neg y] at g1
          have ht : tpc c key k = none := by
            unfold tpc
            rw [if_pos h2, if_neg (fun z => y z.2)]
          subst g1
          exact ⟨fun q4 => absurd q4 (by decide), fun _ => no ht h3⟩
    · have z0 : ¬ kZ k = 0 := fun y => q2 (by rw [y]; rfl)
      refine no ?_ h3
      unfold tpc
      by_cases s2 : kS k = 2
      · rw [if_pos s2, if_neg (fun y => z0 y.1)]
      · rw [if_neg s2]
        by_cases s1 : kS k = 1
        · rw [if_pos s1, if_neg (fun y => z0 y.1)]
        · rw [if_neg s1]
  · have h3 := (nI_inj (b := 3) (by omega) (by omega)).mp q
    refine ⟨_, cp_X8_takesOpening G d (by omega) X M a n key nb nn np c k H O hS h hI h3, ?_⟩
    intro M36 r37 g
    refine ⟨?_, g⟩
    rcases g with g | ⟨_, _, g, _⟩
    · exact Or.inl g.2.1
    · exact Or.inr g
theorem cp_X8_takesClosing (G : Gl) (d : Nat) (hd : 3 ≤ d) (X : Sh) (M : Mm) (a n key nb nn np : Nat) (c : Nat → Nat) (k : Tk) (H : List Nat) (O : List (Nat × Nat)) (hS : Sh7 X a) (h : CB M a c n key k (false, H, O, nb, nn, np)) (hI : IV c n k (false, H, O, nb, nn, np)) (h3 : kS k = 3) (h41 : c (kB k) = 41) : Cn G m_X8_takesClosing d [.ref a] X M (Took a c n key k (false, H, O, nb, nn, np) M) := by
  obtain ⟨d, rfl⟩ : ∃ d1, d = d1 + 1 := ⟨d - 1, by omega⟩
  obtain ⟨hBy, hCT, h6, hHO, h8, h13, h14, h15⟩ := h
  obtain ⟨hT, hHB, hc33, hl, hnb, hnn⟩ := hI
  have hHO : HO M a H O := hHO
  have hHB : HB H := hHB
  have hl : H.length + O.length ≤ kB k := hl
  have h8 : mI M a 8 = nI np := h8
  have h13 : mI M a 13 = nI nb := h13
  have h14 : mI M a 14 = nI nn := h14
  have hc33 : cnt H ≤ nn := hc33
  have hnb : nb ≤ 8 := hnb
  have bn : kB k ≤ n := hT.2.1
  have n96 := hBy.2.1
  refine Cn.of (by decide) (Nat.le_of_ble_eq_true rfl) (bX8_takesClosing_0 hS ?_)
  rw [h13]
  refine ⟨fun q => ?_, fun q => ?_⟩
  · have nb0 : ¬ nb = 0 := fun y => q (by rw [y]; rfl)
    have hb : cbody c key k (false, H, O, nb, nn, np) = some (false, (nots (fl 1 true H O).1.tail (fl 1 true H O).2 nn).1, (nots (fl 1 true H O).1.tail (fl 1 true H O).2 nn).2.1, nb - 1, (nots (fl 1 true H O).1.tail (fl 1 true H O).2 nn).2.2, np) := by
      rw [cbody_f, if_pos h3, if_pos h41, if_neg nb0]
    have fln := fl_len (r := 1) (b := true) (H := H) (O := O)
    obtain ⟨P1, e1⟩ := fl_suf 1 true H O
    have cn1 := cnt_app P1 (fl 1 true H O).1
    rw [← e1] at cn1
    have HB1 := hHB.suf e1
    refine ⟨_, cp_X8_writeHeldFrom G d (by omega) X M a 1 true 1 H O hS (by omega) (by decide) hHO hHB (by omega), ?_⟩
    rintro M4 ⟨g1, g2, g3⟩
    have F4 := g2.tf
    have o4 : ∀ j, j ≠ 10 → j ≠ 12 → j ≠ 14 → mI M4 a j = mI M a j := g2.2.1
    have A4 : CA M4 a c n key k := CA.same ⟨hBy, hCT, h6⟩ F4 (fun j j1 j2 => o4 j (by omega) (by omega) (by omega))
    -- the rest, from where the bracket is gone
    have rest : ∀ (M12 M13 : Mm), HO M12 a (fl 1 true H O).1.tail (fl 1 true H O).2 → TF a M4 M12 → (∀ j, j ≠ 12 → mI M12 a j = mI M4 a j) → M13 = sI M12 a 13 ((mI M12 a 13) - 1) → (∃ q14 : Mm → Prop, Cv G m_X8_endPiece d [.ref a] X M13 q14 ∧ ∀ M16, q14 M16 → Took a c n key k (false, H, O, nb, nn, np) M M16 1) := by
      intro M12 M13 H12 F12 o12 e13
      rw [o12 13 (by omega), o4 13 (by omega) (by omega) (by omega), h13] at e13
      have H13 := H12.set e13 (by omega) (by omega)
      have F13 : TF a M12 M13 := TF.set (by omega) e13
      have o13 : ∀ j, j ≠ 13 → mI M13 a j = mI M12 a j := fun j hj => by rw [e13, mI_sI, up2_k _ _ _ hj]
      have A13 := (A4.same F12 (fun j j1 j2 => o12 j (by omega))).same F13 (fun j j1 j2 => o13 j (by omega))
      have tl : (fl 1 true H O).1.tail.length ≤ (fl 1 true H O).1.length := by
        rw [List.length_tail]
        omega
      have ct := cnt_tail (fl 1 true H O).1
      refine ⟨_, cp_X8_endPiece G d (by omega) X M13 a nn _ _ hS H13 HB1.tail (by omega) (by omega) (by rw [o13 14 (by omega), o12 14 (by omega), g3, h14]), ?_⟩
      rintro M16 ⟨z1, z2, z3⟩
      have w : ∀ j, j ≠ 10 → j ≠ 12 → j ≠ 14 → j ≠ 15 → mI M16 a j = mI M13 a j := fun j j1 j2 j3 j4 => by rw [z2.2.1 j j1 j2 j3, mI_sI, up2_k _ _ _ j4]
      have F16 : TF a M13 M16 := (TF.set (by omega) rfl).trans z2.tf
      obtain ⟨b1, b2, b3⟩ := A13.same F16 (fun j j1 j2 => w j (by omega) (by omega) (by omega) (by omega))
      refine Or.inr ⟨_, hb, rfl, ⟨b1, b2, b3, z1, ?_, ?_, z3, ?_⟩, F4.trans (F12.trans (F13.trans F16))⟩
      · rw [w 8 (by omega) (by omega) (by omega) (by omega), o13 8 (by omega), o12 8 (by omega), o4 8 (by omega) (by omega) (by omega)]
        exact h8
      · rw [w 13 (by omega) (by omega) (by omega) (by omega), e13, mI_sI, up2_same, show nb = nb - 1 + 1 by omega, nI_pred]
        rfl
      · rw [z2.2.1 15 (by omega) (by omega) (by omega), mI_sI, up2_same]
        rfl
    rw [g1.2.2.1]
    cases hf : (fl 1 true H O).1 with
    | nil =>
      rw [hf] at rest g1
      exact ⟨fun _ M7 e7 => rest M4 M7 g1 (TF.refl _ _) (fun _ _ => rfl) e7, fun y => absurd (Int32.le_refl _) y⟩
    | cons x H2 =>
      rw [hf] at rest g1
      have xl : H2.length + 1 ≤ 96 := by
        rw [hf] at fln
        have := fln.2
        simp only [List.length_cons] at this
        omega
      refine ⟨fun y => ?_, fun _ M12 e12 M13 e13 => ?_⟩
      · have := (nI_leI (b := 0) (by simp only [List.length_cons]; omega) (by omega)).mp y
        simp only [List.length_cons] at this
        omega
      · have e12b : M12 = sI M4 a 12 (nI H2.length) := by
          rw [e12]
          show sI M4 a 12 (nI (H2.length + 1) - 1) = _
          rw [nI_pred]
        refine rest M12 M13 ⟨?_, ?_, ?_, ?_⟩ (TF.set (by omega) e12) (fun j hj => by rw [e12, mI_sI, up2_k _ _ _ hj]) e13
        · rw [e12b, mI_sI, up2_k _ _ _ (by omega)]
          exact g1.1
        · rw [e12b, mI_sI, up2_off _ _ _ (by omega)]
          exact g1.2.1
        · rw [e12b, mI_sI, up2_same]
          rfl
        · rw [e12b, mI_sI, up2_off _ _ _ (by omega)]
          exact pile_tail g1.2.2.2
  · have nb0 : nb = 0 := (nI_inj (b := 0) (by omega) (by omega)).mp q
    exact Or.inl ⟨by rw [cbody_f, if_pos h3, if_pos h41, if_pos nb0], rfl, hCT.1, TF.refl _ _⟩
theorem cp_X8_takesSign (G : Gl) (d : Nat) (hd : 4 ≤ d) (X : Sh) (M : Mm) (a n key nb nn np : Nat) (c : Nat → Nat) (k : Tk) (H : List Nat) (O : List (Nat × Nat)) (hS : Sh7 X a) (h : CB M a c n key k (false, H, O, nb, nn, np)) (hI : IV c n k (false, H, O, nb, nn, np)) : Cn G m_X8_takesSign d [.ref a] X M (Took a c n key k (false, H, O, nb, nn, np) M) := by
  obtain ⟨d, rfl⟩ : ∃ d1, d = d1 + 1 := ⟨d - 1, by omega⟩
  obtain ⟨hBy, hCT, h6, hHO, h8, h13, h14, h15⟩ := id h
  obtain ⟨hT, hHB, hc33, hl, hnb, hnn⟩ := id hI
  have hHO : HO M a H O := hHO
  have hHB : HB H := hHB
  have hl : H.length + O.length ≤ kB k := hl
  have h8 : mI M a 8 = nI np := h8
  have h13 : mI M a 13 = nI nb := h13
  have h14 : mI M a 14 = nI nn := h14
  have s3 := hT.2.2.2.2.2.2.1
  have n96 := hBy.2.1
  refine Cn.of (by decide) (Nat.le_of_ble_eq_true rfl) (bX8_takesSign_0 hS ?_)
  rw [hCT.2.2.1]
  refine ⟨fun q => ?_, fun q => Or.inl ⟨?_, rfl, hCT.1, TF.refl _ _⟩⟩
  · have h3 := (nI_inj (b := 3) (by omega) (by omega)).mp q
    have lt := hT.2.2.2.2.1 (by omega)
    have bn : kB k < n := by
      have := hT.2.2.1
      omega
    obtain ⟨eb, lb⟩ := hBy.2.2 (kB k) bn
    refine ⟨kB k, hCT.1, by omega, ?_⟩
    intro v5 e5
    rw [eb] at e5
    subst e5
    refine ⟨fun q2 => ?_, fun q2 => ?_⟩
    · have n41 : ¬ c (kB k) = 41 := fun y => q2 (by rw [y]; rfl)
      intro v7 e7
      rw [f_rank_n lb] at e7
      subst e7
      have r5 := rk_le (c (kB k))
      have cb := cbody_f (c := c) (key := key) (k := k) (H := H) (O := O) (nb := nb) (nn := nn) (np := np)
      rw [if_pos h3, if_neg n41] at cb
      refine ⟨fun q3 => ?_, fun q3 => ?_⟩
      · have r0 : ¬ rk (c (kB k)) = 0 := fun y => q3 (by rw [y]; rfl)
        rw [if_neg r0] at cb
        have is3 : nI (rk (c (kB k))) = (3 : Int32) ↔ rk (c (kB k)) = 3 := nI_inj (b := 3) (by omega) (by omega)
        refine ⟨_, cp_X8_writeHeldFrom G d (by omega) X M a (rk (c (kB k))) (decide (¬ rk (c (kB k)) = 3)) _ H O hS r5 ?_ hHO hHB (by omega), ?_⟩
        · by_cases y : rk (c (kB k)) = 3
          · rw [if_neg (fun z => z (is3.mpr y))]
            exact ⟨fun _ => decide_eq_false (fun z => z y), fun _ => rfl⟩
          · rw [if_pos (fun z => y (is3.mp z))]
            exact ⟨fun z => absurd z (by decide), fun z => absurd (decide_eq_false_iff_not.mp z) (fun u => u y)⟩
        rintro M17 ⟨g1, g2, g3⟩
        have F17 := g2.tf
        have o17 : ∀ j, j ≠ 10 → j ≠ 12 → j ≠ 14 → mI M17 a j = mI M a j := g2.2.1
        have A17 : CA M17 a c n key k := CA.same ⟨hBy, hCT, h6⟩ F17 (fun j j1 j2 => o17 j (by omega) (by omega) (by omega))
        have fln := fl_len (r := rk (c (kB k))) (b := decide (¬ rk (c (kB k)) = 3)) (H := H) (O := O)
        have hold : cbody c key k (false, H, O, nb, nn, np) = some (true, c (kB k) :: (fl (rk (c (kB k))) (decide (¬ rk (c (kB k)) = 3)) H O).1, (fl (rk (c (kB k))) (decide (¬ rk (c (kB k)) = 3)) H O).2, nb, nn, np) → (∃ q20 : Mm → Prop, Cv G m_X8_hold d [.ref a, .int (nI (c (kB k)))] X M17 q20 ∧ ∀ M22, q20 M22 → (∀ M24 : Mm, M24 = sI M22 a 15 1 → Took a c n key k (false, H, O, nb, nn, np) M M24 1)) := by
          intro hb
          refine ⟨_, cp_X8_hold G d X M17 a _ _ hS g1.2.2.1 (by omega), ?_⟩
          intro M22 e22 M24 e24
          have F22 : TF a M17 M22 := (TF.set3 rfl).trans (TF.set (by omega) e22)
          have F24 : TF a M22 M24 := TF.set (by omega) e24
          have o22 : ∀ j, j ≠ 12 → mI M22 a j = mI M17 a j := fun j hj => by rw [e22, mI_sI, up2_k _ _ _ hj, mI_sI, up2_off _ _ _ (by omega)]
          have o24 : ∀ j, j ≠ 15 → mI M24 a j = mI M22 a j := fun j hj => by rw [e24, mI_sI, up2_k _ _ _ hj]
          obtain ⟨b1, b2, b3⟩ := (A17.same F22 (fun j j1 j2 => o22 j (by omega))).same F24 (fun j j1 j2 => o24 j (by omega))
          refine Or.inr ⟨_, hb, rfl, ⟨b1, b2, b3, (g1.held e22).set e24 (by omega) (by omega), ?_, ?_, ?_, ?_⟩, F17.trans (F22.trans F24)⟩
          · rw [o24 8 (by omega), o22 8 (by omega), o17 8 (by omega) (by omega) (by omega)]
            exact h8
          · rw [o24 13 (by omega), o22 13 (by omega), o17 13 (by omega) (by omega) (by omega)]
            exact h13
          · rw [o24 14 (by omega), o22 14 (by omega), g3]
            exact h14
          · rw [e24, mI_sI, up2_same]
            rfl
        refine ⟨fun q4 => hold ?_, fun q4 => ?_⟩
        · rw [cb, if_neg (fun z => q4 (is3.mpr z.1))]
        · have r3 := is3.mp q4
          have fe : fl (rk (c (kB k))) (decide (¬ rk (c (kB k)) = 3)) H O = fl 3 false H O := by
            rw [r3]
            rfl
          obtain ⟨P1, e1⟩ := fl_suf (rk (c (kB k))) (decide (¬ rk (c (kB k)) = 3)) H O
          refine ⟨_, cp_X8_heldRank G d (by omega) X M17 a _ hS g1.2.2.1 g1.2.2.2 (hHB.suf e1) (by omega), ?_⟩
          rintro M27 r28 ⟨e, rfl⟩
          have e := e.symm
          subst e
          have tl : trk (fl (rk (c (kB k))) (decide (¬ rk (c (kB k)) = 3)) H O).1 ≤ 5 := by
            cases (fl (rk (c (kB k))) (decide (¬ rk (c (kB k)) = 3)) H O).1 with
            | nil => exact Nat.zero_le _
            | cons x L => exact rk_le x
          refine ⟨fun q5 => hold ?_, fun q5 => Or.inl ⟨?_, rfl, A17.2.1.1, F17⟩⟩
          · rw [cb, if_neg (fun z => q5 (by rw [fe, z.2]; rfl))]
          · have q5 := (nI_inj (b := 3) (by omega) (by omega)).mp q5
            rw [fe] at q5
            rw [cb, if_pos ⟨r3, q5⟩]
      · have r0 := (nI_inj (b := 0) (by omega) (by omega)).mp q3
        rw [if_pos r0] at cb
        exact Or.inl ⟨cb, rfl, hCT.1, TF.refl _ _⟩
    · have x41 := (nI_inj (b := 41) (by omega) (by omega)).mp q2
      refine ⟨_, cp_X8_takesClosing G d (by omega) X M a n key nb nn np c k H O hS h hI h3 x41, ?_⟩
      intro M38 r39 g
      refine ⟨?_, g⟩
      rcases g with g | ⟨_, _, g, _⟩
      · exact Or.inl g.2.1
      · exact Or.inr g
  · rw [cbody_f, if_neg (fun y => q (by rw [y]; rfl))]
