/-! reading a text, without the machine: words and signs, the class's automaton over them -/
def tsrt (c : Nat → Nat) (n p : Nat) : Nat := if n ≤ p then 0 else if 97 ≤ c p ∧ c p ≤ 122 then 1 else if 48 ≤ c p ∧ c p ≤ 57 then 2 else 3
def tskip (c : Nat → Nat) : Nat → Nat → Nat
  | 0, p => p
  | f + 1, p => if c p = 32 then tskip c f (p + 1) else p
def tend (c : Nat → Nat) (n s : Nat) : Nat → Nat → Nat
  | 0, p => p
  | f + 1, p => if tsrt c n p = s then tend c n s f (p + 1) else p
/-- a word or sign: its place, the place behind it, its sort, whether it is close behind a word -/
abbrev Tk : Type := Nat × Nat × Nat × Nat
def kB (k : Tk) : Nat := k.1
def kE (k : Tk) : Nat := k.2.1
def kS (k : Tk) : Nat := k.2.2.1
def kZ (k : Tk) : Nat := k.2.2.2
def tbeg (c : Nat → Nat) (n : Nat) (k : Tk) : Nat := tskip c (n - kE k) (kE k)
def tfin (c : Nat → Nat) (n b : Nat) : Nat := if tsrt c n b = 0 then b else if tsrt c n b = 3 then b + 1 else tend c n (tsrt c n b) (n - (b + 1)) (b + 1)
def tnext (c : Nat → Nat) (n : Nat) (k : Tk) : Tk := (tbeg c n k, tfin c n (tbeg c n k), tsrt c n (tbeg c n k), if (kS k = 1 ∨ kS k = 2) ∧ tbeg c n k = kE k then 1 else 0)
def TV (c : Nat → Nat) (n : Nat) (k : Tk) : Prop := kS k = tsrt c n (kB k) ∧ kB k ≤ n ∧ kE k ≤ n ∧ (kS k = 0 → kB k = n ∧ kE k = n) ∧ (¬ kS k = 0 → kB k < kE k) ∧ (kS k = 2 → ∀ j, kB k ≤ j → j < kE k → 48 ≤ c j ∧ c j ≤ 57) ∧ kS k ≤ 3 ∧ kZ k ≤ 1
theorem tskip_le (c : Nat → Nat) : ∀ f p, p ≤ tskip c f p ∧ tskip c f p ≤ p + f
  | 0, p => ⟨Nat.le_refl _, Nat.le_refl _⟩
  | f + 1, p => by
    have := tskip_le c f (p + 1)
    unfold tskip
    split <;> omega
theorem tend_le (c : Nat → Nat) (n s : Nat) : ∀ f p, p ≤ tend c n s f p ∧ tend c n s f p ≤ p + f
  | 0, p => ⟨Nat.le_refl _, Nat.le_refl _⟩
  | f + 1, p => by
    have := tend_le c n s f (p + 1)
    unfold tend
    split <;> omega
theorem tend_all (c : Nat → Nat) (n s : Nat) : ∀ f p j, p ≤ j → j < tend c n s f p → tsrt c n j = s
  | 0, p, j, h1, h2 => absurd h2 (by unfold tend; omega)
  | f + 1, p, j, h1, h2 => by
    unfold tend at h2
    by_cases h : tsrt c n p = s
    · rw [if_pos h] at h2
      by_cases e : j = p
      · rw [e]
        exact h
      · exact tend_all c n s f (p + 1) j (by omega) h2
    · rw [if_neg h] at h2
      omega
theorem tsrt_le (c : Nat → Nat) (n p : Nat) : tsrt c n p ≤ 3 := by
  unfold tsrt
  repeat' split
  all_goals omega
theorem tsrt_0 {c : Nat → Nat} {n p : Nat} : tsrt c n p = 0 ↔ n ≤ p := by
  unfold tsrt
  by_cases h : n ≤ p
  · rw [if_pos h]
    exact ⟨fun _ => h, fun _ => rfl⟩
  · rw [if_neg h]
    constructor
    · intro q
      repeat' split at q
      all_goals omega
    · intro q
      exact absurd q h
theorem tsrt_1 {c : Nat → Nat} {n p : Nat} (hp : p < n) : tsrt c n p = 1 ↔ 97 ≤ c p ∧ c p ≤ 122 := by
  unfold tsrt
  rw [if_neg (by omega)]
  by_cases h : 97 ≤ c p ∧ c p ≤ 122
  · rw [if_pos h]
    exact ⟨fun _ => h, fun _ => rfl⟩
  · rw [if_neg h]
    constructor
    · intro q
      split at q <;> omega
    · intro q
      exact absurd q h
theorem tsrt_2 {c : Nat → Nat} {n p : Nat} (hp : p < n) : tsrt c n p = 2 ↔ 48 ≤ c p ∧ c p ≤ 57 := by
  unfold tsrt
  rw [if_neg (by omega)]
  by_cases h : 97 ≤ c p ∧ c p ≤ 122
  · rw [if_pos h]
    omega
  · rw [if_neg h]
    by_cases h2 : 48 ≤ c p ∧ c p ≤ 57
    · rw [if_pos h2]
      exact ⟨fun _ => h2, fun _ => rfl⟩
    · rw [if_neg h2]
      omega
theorem tsrt_lt {c : Nat → Nat} {n p : Nat} (h : ¬ tsrt c n p = 0) : p < n := Nat.lt_of_not_le (fun q => h (tsrt_0.mpr q))
theorem tfin_le {c : Nat → Nat} {n b : Nat} (hb : b ≤ n) : b ≤ tfin c n b ∧ tfin c n b ≤ n ∧ (¬ tsrt c n b = 0 → b < tfin c n b) := by
  unfold tfin
  by_cases h0 : tsrt c n b = 0
  · rw [if_pos h0]
    exact ⟨Nat.le_refl _, hb, fun q => absurd h0 q⟩
  · rw [if_neg h0]
    have := tsrt_lt h0
    by_cases h3 : tsrt c n b = 3
    · rw [if_pos h3]
      omega
    · rw [if_neg h3]
      have := tend_le c n (tsrt c n b) (n - (b + 1)) (b + 1)
      omega
theorem TV.next {c : Nat → Nat} {n : Nat} {k : Tk} (h : kE k ≤ n) : TV c n (tnext c n k) ∧ kE k ≤ kB (tnext c n k) := by
  have h1 := tskip_le c (n - kE k) (kE k)
  have hb : tbeg c n k ≤ n := by
    show tskip c (n - kE k) (kE k) ≤ n
    omega
  obtain ⟨f1, f2, f3⟩ := tfin_le (c := c) hb
  refine ⟨⟨rfl, hb, f2, fun h0 => ?_, f3, fun h2 j j1 j2 => ?_, tsrt_le _ _ _, ?_⟩, h1.1⟩
  · have h0 : tsrt c n (tbeg c n k) = 0 := h0
    have := tsrt_0.mp h0
    refine ⟨?_, ?_⟩
    · show tbeg c n k = n
      omega
    · show tfin c n (tbeg c n k) = n
      omega
  · have h2 : tsrt c n (tbeg c n k) = 2 := h2
    have j1 : tbeg c n k ≤ j := j1
    have j2 : j < tfin c n (tbeg c n k) := j2
    have hj : tsrt c n j = 2 := by
      by_cases e : j = tbeg c n k
      · rw [e, h2]
      · unfold tfin at j2
        rw [h2, if_neg (by omega), if_neg (by omega)] at j2
        exact tend_all c n 2 _ _ j (by omega) j2
    exact (tsrt_2 (by omega)).mp hj
  · show (if (kS k = 1 ∨ kS k = 2) ∧ tbeg c n k = kE k then 1 else 0) ≤ 1
    split <;> omega
def tnum (c : Nat → Nat) (b : Nat) : Nat → Nat
  | 0 => 0
  | j + 1 => 10 * tnum c b j + (c (b + j) - 48)
theorem tnum_lt {c : Nat → Nat} {b : Nat} : ∀ {j : Nat}, (∀ i, b ≤ i → i < b + j → 48 ≤ c i ∧ c i ≤ 57) → tnum c b j < 10 ^ j
  | 0, _ => by
    show 0 < 1
    omega
  | j + 1, h => by
    have h1 := tnum_lt (j := j) (fun i h1 h2 => h i h1 (by omega))
    have h2 := h (b + j) (by omega) (by omega)
    show 10 * tnum c b j + (c (b + j) - 48) < 10 ^ (j + 1)
    rw [Nat.pow_succ]
    omega
theorem tnum_le {c : Nat → Nat} {b j : Nat} (hj : j ≤ 4) (h : ∀ i, b ≤ i → i < b + j → 48 ≤ c i ∧ c i ≤ 57) : tnum c b j ≤ 9999 := by
  have h1 := tnum_lt h
  have h2 : 10 ^ j ≤ 10 ^ 4 := Nat.pow_le_pow_right (by omega) hj
  omega
/-- the step of a text that a word is, for this key -/
def tpc (c : Nat → Nat) (key : Nat) (k : Tk) : Option (Nat × Nat) :=
  if kS k = 2 then (if kZ k = 0 ∧ kE k - kB k ≤ 4 then some (0, tnum c (kB k) (kE k - kB k)) else none)
  else if kS k = 1 then (if kZ k = 0 ∧ kE k - kB k = 1 ∧ p_isName (nI key) (nI (c (kB k))) then some (1, c (kB k)) else none) else none
def rk (x : Nat) : Nat := if x = 124 then 1 else if x = 38 then 2 else if x = 60 ∨ x = 61 ∨ x = 62 then 3 else if x = 43 ∨ x = 45 then 4 else if x = 42 ∨ x = 47 then 5 else 0
theorem rk_le (x : Nat) : rk x ≤ 5 := by
  unfold rk
  repeat' split
  all_goals omega
theorem rk_mem {x : Nat} (h : ¬ rk x = 0) : x ∈ [33, 38, 42, 43, 45, 47, 60, 61, 62, 124] ∧ ¬ x = 33 := by
  unfold rk at h
  simp only [List.mem_cons, List.not_mem_nil, or_false]
  repeat' split at h
  all_goals omega
def trk : List Nat → Nat
  | [] => 0
  | x :: _ => rk x
def hd33 : List Nat → Prop
  | [] => False
  | x :: _ => x = 33
/-- the held signs of a higher rank go to the code, those of the same too if told -/
def fl (r : Nat) (b : Bool) : List Nat → List (Nat × Nat) → List Nat × List (Nat × Nat)
  | [], O => ([], O)
  | x :: H, O => if r < rk x ∨ (b = true ∧ rk x = r) then fl r b H (O ++ [(2, x)]) else (x :: H, O)
/-- the ! right ahead of a piece go to the code -/
def nots : List Nat → List (Nat × Nat) → Nat → List Nat × List (Nat × Nat) × Nat
  | [], O, nn => ([], O, nn)
  | x :: H, O, nn => if x = 33 then nots H (O ++ [(2, 33)]) (nn - 1) else (x :: H, O, nn)
/-- a piece is wanted; held signs; the code; open brackets, open !, pieces -/
abbrev Bd : Type := Bool × List Nat × List (Nat × Nat) × Nat × Nat × Nat
def cbody (c : Nat → Nat) (key : Nat) (k : Tk) (s : Bd) : Option Bd :=
  if s.1 = true then
    (if kS k = 3 then
      (if c (kB k) = 40 ∧ s.2.2.2.1 < 8 then some (true, 40 :: s.2.1, s.2.2.1, s.2.2.2.1 + 1, s.2.2.2.2.1, s.2.2.2.2.2)
       else if c (kB k) = 33 ∧ s.2.2.2.2.1 < 8 then some (true, 33 :: s.2.1, s.2.2.1, s.2.2.2.1, s.2.2.2.2.1 + 1, s.2.2.2.2.2) else none)
     else match tpc c key k with
      | none => none
      | some it => some (false, (nots s.2.1 (s.2.2.1 ++ [it]) s.2.2.2.2.1).1, (nots s.2.1 (s.2.2.1 ++ [it]) s.2.2.2.2.1).2.1, s.2.2.2.1, (nots s.2.1 (s.2.2.1 ++ [it]) s.2.2.2.2.1).2.2, s.2.2.2.2.2 + 1))
  else if kS k = 3 then
    (if c (kB k) = 41 then
      (if s.2.2.2.1 = 0 then none
       else some (false, (nots (fl 1 true s.2.1 s.2.2.1).1.tail (fl 1 true s.2.1 s.2.2.1).2 s.2.2.2.2.1).1, (nots (fl 1 true s.2.1 s.2.2.1).1.tail (fl 1 true s.2.1 s.2.2.1).2 s.2.2.2.2.1).2.1, s.2.2.2.1 - 1, (nots (fl 1 true s.2.1 s.2.2.1).1.tail (fl 1 true s.2.1 s.2.2.1).2 s.2.2.2.2.1).2.2, s.2.2.2.2.2))
     else if rk (c (kB k)) = 0 then none
     else if rk (c (kB k)) = 3 ∧ trk (fl 3 false s.2.1 s.2.2.1).1 = 3 then none
     else some (true, c (kB k) :: (fl (rk (c (kB k))) (decide (¬ rk (c (kB k)) = 3)) s.2.1 s.2.2.1).1, (fl (rk (c (kB k))) (decide (¬ rk (c (kB k)) = 3)) s.2.1 s.2.2.1).2, s.2.2.2.1, s.2.2.2.2.1, s.2.2.2.2.2))
  else none
theorem cbody_t {c : Nat → Nat} {key : Nat} {k : Tk} {H : List Nat} {O : List (Nat × Nat)} {nb nn np : Nat} : cbody c key k (true, H, O, nb, nn, np) = if kS k = 3 then
      (if c (kB k) = 40 ∧ nb < 8 then some (true, 40 :: H, O, nb + 1, nn, np)
       else if c (kB k) = 33 ∧ nn < 8 then some (true, 33 :: H, O, nb, nn + 1, np) else none)
     else match tpc c key k with
      | none => none
      | some it => some (false, (nots H (O ++ [it]) nn).1, (nots H (O ++ [it]) nn).2.1, nb, (nots H (O ++ [it]) nn).2.2, np + 1) := rfl
theorem cbody_f {c : Nat → Nat} {key : Nat} {k : Tk} {H : List Nat} {O : List (Nat × Nat)} {nb nn np : Nat} : cbody c key k (false, H, O, nb, nn, np) = if kS k = 3 then
    (if c (kB k) = 41 then
      (if nb = 0 then none
       else some (false, (nots (fl 1 true H O).1.tail (fl 1 true H O).2 nn).1, (nots (fl 1 true H O).1.tail (fl 1 true H O).2 nn).2.1, nb - 1, (nots (fl 1 true H O).1.tail (fl 1 true H O).2 nn).2.2, np))
     else if rk (c (kB k)) = 0 then none
     else if rk (c (kB k)) = 3 ∧ trk (fl 3 false H O).1 = 3 then none
     else some (true, c (kB k) :: (fl (rk (c (kB k))) (decide (¬ rk (c (kB k)) = 3)) H O).1, (fl (rk (c (kB k))) (decide (¬ rk (c (kB k)) = 3)) H O).2, nb, nn, np))
  else none := rfl
def crun (c : Nat → Nat) (n key : Nat) : Nat → Tk × Bd → Option (Tk × Bd)
  | 0, s => some s
  | j + 1, s => if kS s.1 = 0 then none else match cbody c key s.1 s.2 with
    | none => none
    | some b => crun c n key j (tnext c n s.1, b)
def Runs (c : Nat → Nat) (n key : Nat) (s s2 : Tk × Bd) : Prop := ∃ j, crun c n key j s = some s2
theorem Runs.refl {c : Nat → Nat} {n key : Nat} (s : Tk × Bd) : Runs c n key s s := ⟨0, rfl⟩
theorem crun_add {c : Nat → Nat} {n key : Nat} : ∀ {i j : Nat} {s s1 s2 : Tk × Bd}, crun c n key i s = some s1 → crun c n key j s1 = some s2 → crun c n key (i + j) s = some s2
  | 0, j, s, s1, s2, h1, h2 => by
    cases h1
    rw [Nat.zero_add]
    exact h2
  | i + 1, j, s, s1, s2, h1, h2 => by
    rw [show i + 1 + j = i + j + 1 by omega]
    unfold crun at h1 ⊢
    by_cases h0 : kS s.1 = 0
    · rw [if_pos h0] at h1
      cases h1
    · rw [if_neg h0] at h1 ⊢
      cases hb : cbody c key s.1 s.2 with
      | none => rw [hb] at h1; cases h1
      | some b =>
        rw [hb] at h1
        exact crun_add h1 h2
theorem Runs.trans {c : Nat → Nat} {n key : Nat} {s s1 s2 : Tk × Bd} (h1 : Runs c n key s s1) (h2 : Runs c n key s1 s2) : Runs c n key s s2 := by
  obtain ⟨i, h1⟩ := h1
  obtain ⟨j, h2⟩ := h2
  exact ⟨i + j, crun_add h1 h2⟩
theorem Runs.one {c : Nat → Nat} {n key : Nat} {k : Tk} {b b2 : Bd} (h0 : ¬ kS k = 0) (h : cbody c key k b = some b2) : Runs c n key (k, b) (tnext c n k, b2) := by
  refine ⟨1, ?_⟩
  unfold crun
  rw [if_neg h0]
  show (match cbody c key k b with | none => none | some b => crun c n key 0 (tnext c n k, b)) = _
  rw [h]
  rfl
/-- the class answers with a fault here -/
def Stuck (c : Nat → Nat) (key : Nat) (s : Tk × Bd) : Prop := (¬ kS s.1 = 0 ∧ cbody c key s.1 s.2 = none) ∨ (kS s.1 = 0 ∧ (s.2.1 = true ∨ 0 < s.2.2.2.2.1))
/-- signs as steps of the code -/
def sgs (P : List Nat) : List (Nat × Nat) := P.map (fun x => (2, x))
theorem fl_all {r : Nat} {b : Bool} : ∀ {P H : List Nat} {O : List (Nat × Nat)}, (∀ p ∈ P, r < rk p ∨ (b = true ∧ rk p = r)) → ¬ (r < trk H ∨ (b = true ∧ trk H = r)) ∨ H = [] → fl r b (P ++ H) O = (H, O ++ sgs P)
  | [], [], O, _, _ => by
    show ([], O) = ([], O ++ [])
    rw [List.append_nil]
  | [], x :: H, O, _, h2 => by
    have h2 : ¬ (r < rk x ∨ (b = true ∧ rk x = r)) := by
      rcases h2 with h2 | h2
      · exact h2
      · cases h2
    show (if r < rk x ∨ (b = true ∧ rk x = r) then fl r b H (O ++ [(2, x)]) else (x :: H, O)) = (x :: H, O ++ [])
    rw [if_neg h2, List.append_nil]
  | p :: P, H, O, h1, h2 => by
    show (if r < rk p ∨ (b = true ∧ rk p = r) then fl r b (P ++ H) (O ++ [(2, p)]) else (p :: (P ++ H), O)) = _
    rw [if_pos (h1 p List.mem_cons_self), fl_all (fun q hq => h1 q (List.mem_cons_of_mem _ hq)) h2]
    show (H, O ++ [(2, p)] ++ sgs P) = (H, O ++ ((2, p) :: sgs P))
    rw [List.append_assoc]
    rfl
theorem nots_rep : ∀ {j : Nat} {H : List Nat} {O : List (Nat × Nat)} {nn : Nat}, ¬ hd33 H → nots (List.replicate j 33 ++ H) O nn = (H, O ++ List.replicate j (2, 33), nn - j)
  | 0, [], O, nn, _ => by
    show ([], O, nn) = ([], O ++ [], nn - 0)
    rw [List.append_nil]
    rfl
  | 0, x :: H, O, nn, h => by
    show (if x = 33 then nots H (O ++ [(2, 33)]) (nn - 1) else (x :: H, O, nn)) = (x :: H, O ++ [], nn - 0)
    rw [if_neg (show ¬ x = 33 from h), List.append_nil]
    rfl
  | j + 1, H, O, nn, h => by
    show (if 33 = 33 then nots (List.replicate j 33 ++ H) (O ++ [(2, 33)]) (nn - 1) else _) = _
    rw [if_pos rfl, nots_rep h]
    show (H, O ++ [(2, 33)] ++ List.replicate j (2, 33), nn - 1 - j) = (H, O ++ (2, 33) :: List.replicate j (2, 33), nn - (j + 1))
    rw [List.append_assoc, show nn - 1 - j = nn - (j + 1) by omega]
    rfl
theorem fl_len {r : Nat} {b : Bool} : ∀ {H : List Nat} {O : List (Nat × Nat)}, (fl r b H O).1.length + (fl r b H O).2.length = H.length + O.length ∧ (fl r b H O).1.length ≤ H.length
  | [], O => by
    show ([] : List Nat).length + O.length = ([] : List Nat).length + O.length ∧ _
    exact ⟨rfl, Nat.le_refl _⟩
  | x :: H, O => by
    unfold fl
    split
    · have := fl_len (r := r) (b := b) (H := H) (O := O ++ [(2, x)])
      simp only [List.length_append, List.length_cons, List.length_nil] at this ⊢
      omega
    · exact ⟨rfl, Nat.le_refl _⟩
theorem nots_len : ∀ {H : List Nat} {O : List (Nat × Nat)} {nn : Nat}, (nots H O nn).1.length + (nots H O nn).2.1.length = H.length + O.length
  | [], O, nn => rfl
  | x :: H, O, nn => by
    unfold nots
    split
    · have := nots_len (H := H) (O := O ++ [(2, 33)]) (nn := nn - 1)
      simp only [List.length_append, List.length_cons, List.length_nil] at this ⊢
      omega
    · rfl
/-- a step adds one at most to what is held and written -/
theorem cbody_len {c : Nat → Nat} {key : Nat} {k : Tk} {s s2 : Bd} (h : cbody c key k s = some s2) : s2.2.1.length + s2.2.2.1.length ≤ s.2.1.length + s.2.2.1.length + 1 := by
  unfold cbody at h
  by_cases hw : s.1 = true
  · rw [if_pos hw] at h
    by_cases h3 : kS k = 3
    · rw [if_pos h3] at h
      split at h
      · cases h
        simp only [List.length_cons]
        omega
      · split at h
        · cases h
          simp only [List.length_cons]
          omega
        · cases h
    · rw [if_neg h3] at h
      cases ht : tpc c key k with
      | none => rw [ht] at h; cases h
      | some it =>
        rw [ht] at h
        cases h
        have := nots_len (H := s.2.1) (O := s.2.2.1 ++ [it]) (nn := s.2.2.2.2.1)
        simp only [List.length_append, List.length_cons, List.length_nil] at this
        show (nots s.2.1 (s.2.2.1 ++ [it]) s.2.2.2.2.1).1.length + (nots s.2.1 (s.2.2.1 ++ [it]) s.2.2.2.2.1).2.1.length ≤ _
        omega
  · rw [if_neg hw] at h
    by_cases h3 : kS k = 3
    · rw [if_pos h3] at h
      by_cases h41 : c (kB k) = 41
      · rw [if_pos h41] at h
        split at h
        · cases h
        · cases h
          have h1 := fl_len (r := 1) (b := true) (H := s.2.1) (O := s.2.2.1)
          have h2 := nots_len (H := (fl 1 true s.2.1 s.2.2.1).1.tail) (O := (fl 1 true s.2.1 s.2.2.1).2) (nn := s.2.2.2.2.1)
          have h3 : (fl 1 true s.2.1 s.2.2.1).1.tail.length ≤ (fl 1 true s.2.1 s.2.2.1).1.length := by
            rw [List.length_tail]
            omega
          show (nots (fl 1 true s.2.1 s.2.2.1).1.tail (fl 1 true s.2.1 s.2.2.1).2 s.2.2.2.2.1).1.length + (nots (fl 1 true s.2.1 s.2.2.1).1.tail (fl 1 true s.2.1 s.2.2.1).2 s.2.2.2.2.1).2.1.length ≤ _
          omega
      · rw [if_neg h41] at h
        split at h
        · cases h
        · split at h
          · cases h
          · cases h
            have h1 := fl_len (r := rk (c (kB k))) (b := decide (¬ rk (c (kB k)) = 3)) (H := s.2.1) (O := s.2.2.1)
            show (c (kB k) :: (fl (rk (c (kB k))) (decide (¬ rk (c (kB k)) = 3)) s.2.1 s.2.2.1).1).length + (fl (rk (c (kB k))) (decide (¬ rk (c (kB k)) = 3)) s.2.1 s.2.2.1).2.length ≤ _
            rw [List.length_cons]
            omega
    · rw [if_neg h3] at h
      cases h
/-- what may stand behind what has been read at this rank -/
def Fol2 (c : Nat → Nat) (r : Nat) (k : Tk) (P : List Nat) : Prop := kS k = 3 → rk (c (kB k)) < r ∨ (rk (c (kB k)) = 3 ∧ ∃ (Q : List Nat) (x : Nat) (R : List Nat), P = Q ++ x :: R ∧ (∀ q ∈ Q, 3 < rk q) ∧ rk x = 3)
theorem Fol2.more {c : Nat → Nat} {r r2 : Nat} {k : Tk} {P R : List Nat} (h : Fol2 c r k P) (hr : r ≤ r2) : Fol2 c r2 k (P ++ R) := fun h3 => by
  rcases h h3 with h1 | ⟨h1, Q, x, R2, e, h2, h4⟩
  · exact Or.inl (by omega)
  · exact Or.inr ⟨h1, Q, x, R2 ++ R, by rw [e, List.append_assoc]; rfl, h2, h4⟩
/-- behind an either: the class faults at this word or sign, if it is no bracket that closes -/
theorem stuck_here {c : Nat → Nat} {key : Nat} {k : Tk} {P H : List Nat} {O : List (Nat × Nat)} {nb nn np : Nat} (hF : Fol2 c 1 k P) (h0 : kS k = 0 → 0 < nb) (h41 : kS k = 3 → c (kB k) = 41 → nb = 0) : Stuck c key (k, false, P ++ H, O, nb, nn, np) := by
  by_cases z : kS k = 0
  · exact Or.inr ⟨z, Or.inr (h0 z)⟩
  · refine Or.inl ⟨z, ?_⟩
    show cbody c key k (false, P ++ H, O, nb, nn, np) = none
    rw [cbody_f]
    by_cases h3 : kS k = 3
    · rw [if_pos h3]
      by_cases e : c (kB k) = 41
      · rw [if_pos e]
        exact if_pos (h41 h3 e)
      · rw [if_neg e]
        rcases hF h3 with h1 | ⟨h1, Q, x, R, e1, h2, h4⟩
        · exact if_pos (by omega)
        · rw [if_neg (by omega)]
          refine if_pos ⟨h1, ?_⟩
          show trk (fl 3 false (P ++ H) O).1 = 3
          rw [e1, List.append_assoc, List.cons_append, fl_all (fun p hp => Or.inl (h2 p hp)) (Or.inl (by
            show ¬ (3 < rk x ∨ (false = true ∧ rk x = 3))
            rw [h4]
            intro q
            rcases q with q | q
            · omega
            · cases q.1))]
          exact h4
    · exact if_neg h3
/-- how deep the stack is behind the steps -/
def dpO (O : List (Nat × Nat)) : Option Nat := O.foldl (fun o it => o.bind (dp_step (nI it.1) (nI it.2))) (some 0)
theorem dpO_snoc (O : List (Nat × Nat)) (it : Nat × Nat) : dpO (O ++ [it]) = (dpO O).bind (dp_step (nI it.1) (nI it.2)) := by
  unfold dpO
  rw [List.foldl_append]
  rfl
def AOK (key : Nat) (O : List (Nat × Nat)) : Prop := ∀ it ∈ O, st_ok (nI key) (nI it.1) (nI it.2)
theorem AOK.snoc {key : Nat} {O : List (Nat × Nat)} {it : Nat × Nat} (h : AOK key O) (h2 : st_ok (nI key) (nI it.1) (nI it.2)) : AOK key (O ++ [it]) := fun x hx => by
  rcases List.mem_append.mp hx with q | q
  · exact h x q
  · rw [List.mem_singleton.mp q]
    exact h2
theorem f_rank_n {x : Nat} (hx : x ≤ 255) : f_rank (nI x) = nI (rk x) := by
  unfold f_rank rk
  have e : ∀ y : Nat, y < 2147483648 → (nI x = nI y) = (x = y) := fun y hy => propext (nI_inj (by omega) hy)
  simp only [n_lit, e _ (by omega : (124 : Nat) < 2147483648), e _ (by omega : (38 : Nat) < 2147483648), e _ (by omega : (60 : Nat) < 2147483648), e _ (by omega : (61 : Nat) < 2147483648), e _ (by omega : (62 : Nat) < 2147483648), e _ (by omega : (43 : Nat) < 2147483648), e _ (by omega : (45 : Nat) < 2147483648), e _ (by omega : (42 : Nat) < 2147483648), e _ (by omega : (47 : Nat) < 2147483648)]
  repeat' split
  all_goals rfl
