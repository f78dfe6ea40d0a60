/-! the class's object at b and the reference's at m say the same -/
/-- the layers' bins are there -/
def LBn (σ : Nat → Int32) (nl nb : Nat) : Prop := ∀ l, l < nl → ∃ b, b < nb ∧ σ (60 + 10 * l) = nI b
/-- the hour is within its ends -/
def HIn (σ : Nat → Int32) : Prop := ∃ t : Nat, t ≤ 999 ∧ σ 5 = nI t
theorem HIn.cong {σ τ : Nat → Int32} (h : HIn σ) (e : τ 5 = σ 5) : HIn τ := h.imp (fun _ q => ⟨q.1, e.trans q.2⟩)
/-- the flat row's numbers are within their ends -/
def WS (σ : Nat → Int32) (nb nl nx nt nd : Nat) : Prop :=
  σ 0 = nI nb ∧ nb ≤ 6 ∧ σ 1 = nI nl ∧ nl ≤ 24 ∧ σ 2 = nI nx ∧ nx ≤ 12 ∧ σ 3 = nI nt ∧ nt ≤ 3 ∧ σ 4 = nI nd ∧ nd ≤ 6 ∧ (∀ b, b < nb → WB σ b) ∧ FW σ nl ∧ LBn σ nl nb ∧ (∀ k, k < nt → ∃ b, b < nb ∧ σ (310 + k) = nI b) ∧ (∀ i, i < nd → ∃ c, 1 ≤ c ∧ c ≤ 999 ∧ σ (320 + 2 * i) = nI c) ∧ ∃ sl g, 1 ≤ sl ∧ (sl ≤ 999 ∧ HIn σ) ∧ g ≤ 999 ∧ σ 6 = nI sl ∧ σ 7 = nI g
def DRep (M : Mm) (a : Nat) (σ : Nat → Int32) (nd : Nat) : Prop := mI M a 2 = nI nd ∧ ∀ i, i < nd → mI M (a + 1) i = σ (320 + 2 * i) ∧ mI M (a + 2) i = σ (321 + 2 * i)
/-- the house at h is the flat row's -/
def HSx (M : Mm) (h : Nat) (σ : Nat → Int32) (nb nl nx nt nd : Nat) (la : Nat → Nat) : Prop := WS σ nb nl nx nt nd ∧ BRep M (h + 1) σ nb ∧ FR M (h + 8) σ nl la ∧ TRep M (h + 62) σ nx ∧ DRep M (h + 82) σ nd ∧ ∀ k, k < 3 → mI M (h + 85) k = σ (6 + k)
def HS (M : Mm) (h : Nat) (σ : Nat → Int32) : Prop := ∃ nb nl nx nt nd la, HSx M h σ nb nl nx nt nd la
def ImR (M : Mm) (b m : Nat) : Prop := mI M b 2 = mI M m 3 ∧ (¬ mI M m 3 = 0 → HS M (b + 87) (mI M (m + 2)))
def PeR (M : Mm) (b : Nat) : Prop := (∃ la, LPm M (b + 95) la) ∧ ∃ la, LPm M (b + 173) la
def TaR (M : Mm) (b m : Nat) : Prop := ∃ n, n ≤ 96 ∧ mI M (b + 227) 1 = nI n ∧ mI M m 19 = nI n ∧ ∀ i, i < n → mI M (b + 228) i = mI M (m + 17) i ∧ ∃ c, c ≤ 255 ∧ mI M (m + 17) i = nI c
/-- a place of a sheet: no number, or the number x -/
def Cell (v l x : Int32) : Prop := (x = -1000000005 ∧ l = 1) ∨ (¬ x = -1000000005 ∧ l = 0 ∧ v = x)
def ShR (M : Mm) (b m : Nat) : Prop := ∀ i, i < 4 → mI M (b + 232 + 3 * i) 0 = mI M (m + 4) i ∧ (mI M (m + 4) i = -1 ∨ mI M (m + 4) i = 0 ∨ mI M (m + 4) i = 1) ∧ (∃ n, n ≤ 24 ∧ mI M (b + 232 + 3 * i) 1 = nI n ∧ mI M (m + 5) i = nI n) ∧ ∀ j, j < 24 → Cell (mI M (b + 233 + 3 * i) j) (mI M (b + 234 + 3 * i) j) (mI M (m + 6) (24 * i + j))
def SlR (M : Mm) (b m : Nat) : Prop := ∀ i, i < 5 → mI M (b + 245 + 4 * i) 0 = mI M (m + 7) i ∧ (∃ v, v ≤ 3 ∧ mI M (m + 7) i = nI v) ∧ (mI M (m + 7) i = 1 → mI M (b + 245 + 4 * i) 1 = mI M (m + 8) i ∧ mI M (b + 245 + 4 * i) 2 = mI M (m + 9) i ∧ ∃ k sh, k ≤ 5 ∧ sh ≤ 99 ∧ mI M (m + 8) i = nI k ∧ mI M (m + 9) i = nI sh) ∧ (mI M (m + 7) i = 3 → mI M (b + 245 + 4 * i) 3 = mI M (m + 8) i) ∧
  (mI M (m + 7) i = 2 → (∃ n, n ≤ 24 ∧ mI M (b + 246 + 4 * i) 1 = nI n ∧ mI M (m + 10) i = nI n) ∧ ∀ j, j < 24 → Cell (mI M (b + 247 + 4 * i) j) (mI M (b + 248 + 4 * i) j) (mI M (m + 11) (24 * i + j)))
def WaR (M : Mm) (b m : Nat) : Prop := ∃ w, w ≤ 60 ∧ mI M b 8 = nI w ∧ mI M m 34 = nI w ∧ ∀ i, i < w → mI M (b + 265) i = mI M (m + 21) i
def Rest (M : Mm) (b m : Nat) : Prop := ImR M b m ∧ PeR M b ∧ TaR M b m ∧ ShR M b m ∧ SlR M b m ∧ WaR M b m
/-- the class's object at b and the reference's at m say the same -/
def Sim (M : Mm) (b m : Nat) : Prop := HS M (b + 1) (mI M (m + 1)) ∧ Rest M b m
theorem BRep.mem {M M2 : Mm} {a nb : Nat} {σ : Nat → Int32} (h : BRep M a σ nb) (e : ∀ c, a ≤ c → c ≤ a + 6 → mI M2 c = mI M c) : BRep M2 a σ nb := by
  unfold BRep
  rw [e a (by omega) (by omega), e (a + 1) (by omega) (by omega), e (a + 2) (by omega) (by omega), e (a + 3) (by omega) (by omega), e (a + 4) (by omega) (by omega), e (a + 5) (by omega) (by omega), e (a + 6) (by omega) (by omega)]
  exact h
theorem DRep.mem {M M2 : Mm} {a nd : Nat} {σ : Nat → Int32} (h : DRep M a σ nd) (e : ∀ c, a ≤ c → c ≤ a + 2 → mI M2 c = mI M c) : DRep M2 a σ nd := by
  unfold DRep
  rw [e a (by omega) (by omega), e (a + 1) (by omega) (by omega), e (a + 2) (by omega) (by omega)]
  exact h
/-- places of the house at h that are scratch -/
def Scr (h c : Nat) : Prop := (h + 59 ≤ c ∧ c ≤ h + 61) ∨ c = h + 80 ∨ c = h + 81
theorem HSx.mem {M M2 : Mm} {h nb nl nx nt nd : Nat} {σ : Nat → Int32} {la : Nat → Nat} (hs : HSx M h σ nb nl nx nt nd la) (e : ∀ c, h + 1 ≤ c → c ≤ h + 85 → ¬ Scr h c → mI M2 c = mI M c) (eR : mR M2 (h + 9) = mR M (h + 9)) : HSx M2 h σ nb nl nx nt nd la := by
  obtain ⟨hW, hB, hF, hT, hD, hR⟩ := hs
  obtain ⟨w0, w1, w2, w3, w4, w5, _⟩ := id hW
  refine ⟨hW, hB.mem (fun c h1 h2 => e c (by omega) (by omega) (by unfold Scr; omega)), hF.mem w3 (fun c h1 h2 => e c (by omega) (by omega) (by unfold Scr; omega)) eR, hT.mem w5 (fun c h1 h2 => e c (by omega) (by omega) (by unfold Scr; omega)), hD.mem (fun c h1 h2 => e c (by omega) (by omega) (by unfold Scr; omega)), fun k hk => ?_⟩
  rw [e (h + 85) (by omega) (by omega) (by unfold Scr; omega)]
  exact hR k hk
theorem HS.mem {M M2 : Mm} {h : Nat} {σ : Nat → Int32} (hs : HS M h σ) (e : ∀ c, h + 1 ≤ c → c ≤ h + 85 → ¬ Scr h c → mI M2 c = mI M c) (eR : mR M2 (h + 9) = mR M (h + 9)) : HS M2 h σ := by
  obtain ⟨nb, nl, nx, nt, nd, la, hs⟩ := hs
  exact ⟨nb, nl, nx, nt, nd, la, hs.mem e eR⟩
/-- places that the rest speaks of -/
def RestK (b m c : Nat) : Prop := (b + 88 ≤ c ∧ c ≤ b + 172 ∧ ¬ Scr (b + 87) c) ∨ c = b + 228 ∨ (b + 232 ≤ c ∧ c ≤ b + 265) ∨ c = m + 2 ∨ (m + 4 ≤ c ∧ c ≤ m + 11) ∨ c = m + 17 ∨ c = m + 21
theorem Rest.mem {M M2 : Mm} {b m : Nat} (h : Rest M b m) (e : ∀ c, RestK b m c → mI M2 c = mI M c) (f2 : mI M2 b 2 = mI M b 2) (f8 : mI M2 b 8 = mI M b 8) (f227 : mI M2 (b + 227) 1 = mI M (b + 227) 1) (g3 : mI M2 m 3 = mI M m 3) (g19 : mI M2 m 19 = mI M m 19) (g34 : mI M2 m 34 = mI M m 34) (r1 : mR M2 (b + 96) = mR M (b + 96)) (r2 : ∃ la, LPm M2 (b + 173) la) : Rest M2 b m := by
  obtain ⟨⟨i1, i2⟩, ⟨⟨la, p1⟩, _⟩, t, s, l, w⟩ := h
  refine ⟨⟨by rw [f2, g3]; exact i1, fun q => ?_⟩, ⟨⟨la, fun j hj => by rw [r1]; exact p1.1 j hj, p1.2⟩, r2⟩, ?_, fun i hi => ?_, fun i hi => ?_, ?_⟩
  · rw [g3] at q
    rw [e (m + 2) (by unfold RestK; omega)]
    exact (i2 q).mem (fun c h1 h2 h3 => e c (Or.inl ⟨by omega, by omega, h3⟩)) r1
  · unfold TaR
    rw [f227, g19, e (b + 228) (by unfold RestK; omega), e (m + 17) (by unfold RestK; omega)]
    exact t
  · rw [e (b + 232 + 3 * i) (by unfold RestK; omega), e (b + 233 + 3 * i) (by unfold RestK; omega), e (b + 234 + 3 * i) (by unfold RestK; omega), e (m + 4) (by unfold RestK; omega), e (m + 5) (by unfold RestK; omega), e (m + 6) (by unfold RestK; omega)]
    exact s i hi
  · rw [e (b + 245 + 4 * i) (by unfold RestK; omega), e (b + 246 + 4 * i) (by unfold RestK; omega), e (b + 247 + 4 * i) (by unfold RestK; omega), e (b + 248 + 4 * i) (by unfold RestK; omega), e (m + 7) (by unfold RestK; omega), e (m + 8) (by unfold RestK; omega), e (m + 9) (by unfold RestK; omega), e (m + 10) (by unfold RestK; omega), e (m + 11) (by unfold RestK; omega)]
    exact l i hi
  · unfold WaR
    rw [f8, g34, e (b + 265) (by unfold RestK; omega), e (m + 21) (by unfold RestK; omega)]
    exact w
