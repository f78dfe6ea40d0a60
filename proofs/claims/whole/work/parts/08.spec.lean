/-! the words of the document's amounts, and helps over ints -/
def f_bulk (k t : Int32) : Int32 := if k = 1 ∨ k = 3 then t - t / 4 else if k = 2 then 2 * t else t
def f_iron (k sh t : Int32) : Int32 := if k = 1 then t * sh / 100 else if k = 3 then (if t / 20 ≤ t * sh / 100 then t * sh / 100 - t / 20 else 0) else 0
def g_iron (k sh t : Int32) : Int32 := if (k = 1 ∨ k = 3) ∧ 0 ≤ t * sh / 100 - (if k = 3 then t / 20 else 0) then t * sh / 100 - (if k = 3 then t / 20 else 0) else 0
def f_acid (k sh t : Int32) : Int32 := if k = 1 ∨ k = 3 then t / 10 + (t - f_iron k sh t) / 4 else if k = 5 then 0 else t / 10
def g_acid (k sh t : Int32) : Int32 := if k = 5 then 0 else t / 10 + (if k = 1 ∨ k = 3 then (t - g_iron k sh t) / 4 else 0)
def f_lime (k sh t : Int32) : Int32 := if k = 3 then t / 8 else if k = 5 then t * sh / 100 else 0
def f_holds (k : Int32) : Int32 := if k = 1 then 3 else if k = 2 ∨ k = 3 then 1 else if k = 4 then 5 else 2
def f_amount (k sh t w : Int32) : Int32 := if w = 0 then f_bulk k t else if w = 1 then f_iron k sh t else if w = 2 then f_acid k sh t else f_lime k sh t
abbrev p_isOf (own k : Int32) : Prop := k = 0 ∨ own = k ∨ (k = 1 ∧ own = 3) ∨ (k = 2 ∧ own = 4)
def f_orNone (v : Int32) : Int32 := if v < 0 then -1000000005 else v
def f_heldIn (v most : Int32) : Int32 := if v < 0 then 0 else if most < v then most else v
def f_held (v : Int32) : Int32 := if v < 0 then 0 else if 999 < v then 999 else v
def f_basic (lime acid : Int32) : Int32 := if acid = 0 then 0 else ((100 * lime.toInt64) / acid.toInt64).toInt32
abbrev p_isName (key c : Int32) : Prop := if key = 6 then c = 104 ∨ c = 116 ∨ c = 105 else if key = 7 then c = 104 ∨ c = 99 else c = 104 ∨ c = 116 ∨ c = 98 ∨ c = 115
def f_join (c x y : Int32) : Int32 := if c = 124 then (if x ≠ 0 ∨ y ≠ 0 then 1 else 0) else if c = 38 then (if x ≠ 0 ∧ y ≠ 0 then 1 else 0) else if c = 60 then (if x < y then 1 else 0) else if c = 61 then (if x = y then 1 else 0) else if c = 62 then (if y < x then 1 else 0) else if c = 43 then x + y else if c = 45 then x - y else if c = 42 then x * y else if y = 0 then 0 else x / y
def g_join (c x y : Int32) : Int32 := if c = 43 then x + y else if c = 45 then x - y else if c = 42 then x * y else if c = 47 then (if y = 0 then 0 else if y = -1 then -x else x / y) else if c = 60 then (if x < y then 1 else 0) else if c = 62 then (if y < x then 1 else 0) else if c = 61 then (if x = y then 1 else 0) else if c = 38 then (if x ≠ 0 ∧ y ≠ 0 then 1 else 0) else if x ≠ 0 ∨ y ≠ 0 then 1 else 0
def f_rank (c : Int32) : Int32 := if c = 124 then 1 else if c = 38 then 2 else if c = 60 ∨ c = 61 ∨ c = 62 then 3 else if c = 43 ∨ c = 45 then 4 else if c = 42 ∨ c = 47 then 5 else 0
theorem fa_lt (a b : Int32) : a < b ↔ a.toInt < b.toInt := Int32.lt_iff_toInt_lt
theorem fa_le (a b : Int32) : a ≤ b ↔ a.toInt ≤ b.toInt := Int32.le_iff_toInt_le
theorem fa_eq (a b : Int32) : a = b ↔ a.toInt = b.toInt := Int32.toInt_inj.symm
theorem i_nlt {a b : Int32} : ¬ a < b ↔ b ≤ a := Int32.not_lt
theorem i_nle {a b : Int32} : ¬ a ≤ b ↔ b < a := Int32.not_le
theorem lw_lt (a b : Int32) : a.toInt64 < b.toInt64 ↔ a < b := by
  rw [Int64.lt_iff_toInt_lt, Int32.lt_iff_toInt_lt, Int32.toInt_toInt64, Int32.toInt_toInt64]
theorem lw_eq (a b : Int32) : a.toInt64 = b.toInt64 ↔ a = b := by
  rw [← Int64.toInt_inj, ← Int32.toInt_inj, Int32.toInt_toInt64, Int32.toInt_toInt64]
theorem lw_ne0 {a : Int32} (h : ¬ a = 0) : ¬ a.toInt64 = 0 := fun q => h ((lw_eq a 0).mp q)
theorem ite_b {p q : Prop} {hp : Decidable p} {hq : Decidable q} (h : p ↔ q) : (if p then (1 : Int32) else 0) = if q then 1 else 0 := by
  by_cases h1 : p
  · rw [if_pos h1, if_pos (h.mp h1)]
  · rw [if_neg h1, if_neg (fun h2 => h1 (h.mpr h2))]
