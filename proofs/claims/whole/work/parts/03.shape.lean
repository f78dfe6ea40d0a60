/-! the shape of each class's objects: where their rows and parts lie -/
def Sh0 (X : Sh) (a : Nat) : Prop := (xK X a = 0) ∧ (xF X a 0 = some (a + 1)) ∧ (xK X (a + 1) = 11) ∧ (xN X (a + 1) = 6) ∧ (xF X a 1 = some (a + 2)) ∧ (xK X (a + 2) = 11) ∧ (xN X (a + 2) = 6) ∧ (xF X a 2 = some (a + 3)) ∧ (xK X (a + 3) = 11) ∧ (xN X (a + 3) = 6) ∧ (xF X a 3 = some (a + 4)) ∧ (xK X (a + 4) = 11) ∧ (xN X (a + 4) = 6) ∧ (xF X a 4 = some (a + 5)) ∧ (xK X (a + 5) = 11) ∧ (xN X (a + 5) = 6) ∧ (xF X a 6 = some (a + 6)) ∧ (xK X (a + 6) = 11) ∧ (xN X (a + 6) = 3)
theorem sh0_K {X : Sh} {a : Nat} (h : Sh0 X a) : xK X a = 0 := h.1
theorem sh0_F_kind {X : Sh} {a : Nat} (h : Sh0 X a) : xF X a 0 = some (a + 1) := h.2.1
theorem sh0_K_kind {X : Sh} {a : Nat} (h : Sh0 X a) : xK X (a + 1) = 11 := h.2.2.1
theorem sh0_N_kind {X : Sh} {a : Nat} (h : Sh0 X a) : xN X (a + 1) = 6 := h.2.2.2.1
theorem sh0_F_share {X : Sh} {a : Nat} (h : Sh0 X a) : xF X a 1 = some (a + 2) := h.2.2.2.2.1
theorem sh0_K_share {X : Sh} {a : Nat} (h : Sh0 X a) : xK X (a + 2) = 11 := h.2.2.2.2.2.1
theorem sh0_N_share {X : Sh} {a : Nat} (h : Sh0 X a) : xN X (a + 2) = 6 := h.2.2.2.2.2.2.1
theorem sh0_F_price {X : Sh} {a : Nat} (h : Sh0 X a) : xF X a 2 = some (a + 3) := h.2.2.2.2.2.2.2.1
theorem sh0_K_price {X : Sh} {a : Nat} (h : Sh0 X a) : xK X (a + 3) = 11 := h.2.2.2.2.2.2.2.2.1
theorem sh0_N_price {X : Sh} {a : Nat} (h : Sh0 X a) : xN X (a + 3) = 6 := h.2.2.2.2.2.2.2.2.2.1
theorem sh0_F_tons {X : Sh} {a : Nat} (h : Sh0 X a) : xF X a 3 = some (a + 4) := h.2.2.2.2.2.2.2.2.2.2.1
theorem sh0_K_tons {X : Sh} {a : Nat} (h : Sh0 X a) : xK X (a + 4) = 11 := h.2.2.2.2.2.2.2.2.2.2.2.1
theorem sh0_N_tons {X : Sh} {a : Nat} (h : Sh0 X a) : xN X (a + 4) = 6 := h.2.2.2.2.2.2.2.2.2.2.2.2.1
theorem sh0_F_turns {X : Sh} {a : Nat} (h : Sh0 X a) : xF X a 4 = some (a + 5) := h.2.2.2.2.2.2.2.2.2.2.2.2.2.1
theorem sh0_K_turns {X : Sh} {a : Nat} (h : Sh0 X a) : xK X (a + 5) = 11 := h.2.2.2.2.2.2.2.2.2.2.2.2.2.2.1
theorem sh0_N_turns {X : Sh} {a : Nat} (h : Sh0 X a) : xN X (a + 5) = 6 := h.2.2.2.2.2.2.2.2.2.2.2.2.2.2.2.1
theorem sh0_F_told {X : Sh} {a : Nat} (h : Sh0 X a) : xF X a 6 = some (a + 6) := h.2.2.2.2.2.2.2.2.2.2.2.2.2.2.2.2.1
theorem sh0_K_told {X : Sh} {a : Nat} (h : Sh0 X a) : xK X (a + 6) = 11 := h.2.2.2.2.2.2.2.2.2.2.2.2.2.2.2.2.2.1
theorem sh0_N_told {X : Sh} {a : Nat} (h : Sh0 X a) : xN X (a + 6) = 3 := h.2.2.2.2.2.2.2.2.2.2.2.2.2.2.2.2.2.2
def Sh4 (X : Sh) (a : Nat) : Prop := (xK X a = 4) ∧ (xF X a 9 = some (a + 1)) ∧ (xK X (a + 1) = 11) ∧ (xN X (a + 1) = 5)
theorem sh4_K {X : Sh} {a : Nat} (h : Sh4 X a) : xK X a = 4 := h.1
theorem sh4_F_inRing {X : Sh} {a : Nat} (h : Sh4 X a) : xF X a 9 = some (a + 1) := h.2.1
theorem sh4_K_inRing {X : Sh} {a : Nat} (h : Sh4 X a) : xK X (a + 1) = 11 := h.2.2.1
theorem sh4_N_inRing {X : Sh} {a : Nat} (h : Sh4 X a) : xN X (a + 1) = 5 := h.2.2.2
def Sh3 (X : Sh) (a : Nat) : Prop := (xK X a = 3) ∧ (xF X a 0 = some (a + 1)) ∧ (xK X (a + 1) = 11) ∧ (xN X (a + 1) = 6) ∧ (xF X a 1 = some (a + 2)) ∧ (xK X (a + 2) = 11) ∧ (xN X (a + 2) = 6)
theorem sh3_K {X : Sh} {a : Nat} (h : Sh3 X a) : xK X a = 3 := h.1
theorem sh3_F_cap {X : Sh} {a : Nat} (h : Sh3 X a) : xF X a 0 = some (a + 1) := h.2.1
theorem sh3_K_cap {X : Sh} {a : Nat} (h : Sh3 X a) : xK X (a + 1) = 11 := h.2.2.1
theorem sh3_N_cap {X : Sh} {a : Nat} (h : Sh3 X a) : xN X (a + 1) = 6 := h.2.2.2.1
theorem sh3_F_ready {X : Sh} {a : Nat} (h : Sh3 X a) : xF X a 1 = some (a + 2) := h.2.2.2.2.1
theorem sh3_K_ready {X : Sh} {a : Nat} (h : Sh3 X a) : xK X (a + 2) = 11 := h.2.2.2.2.2.1
theorem sh3_N_ready {X : Sh} {a : Nat} (h : Sh3 X a) : xN X (a + 2) = 6 := h.2.2.2.2.2.2
def Sh5 (X : Sh) (a : Nat) : Prop := (xK X a = 5) ∧ (xF X a 2 = some (a + 1)) ∧ (xK X (a + 1) = 11) ∧ (xN X (a + 1) = 24) ∧ (xF X a 3 = some (a + 2)) ∧ (xK X (a + 2) = 13) ∧ (xN X (a + 2) = 24)
theorem sh5_K {X : Sh} {a : Nat} (h : Sh5 X a) : xK X a = 5 := h.1
theorem sh5_F_values {X : Sh} {a : Nat} (h : Sh5 X a) : xF X a 2 = some (a + 1) := h.2.1
theorem sh5_K_values {X : Sh} {a : Nat} (h : Sh5 X a) : xK X (a + 1) = 11 := h.2.2.1
theorem sh5_N_values {X : Sh} {a : Nat} (h : Sh5 X a) : xN X (a + 1) = 24 := h.2.2.2.1
theorem sh5_F_lost {X : Sh} {a : Nat} (h : Sh5 X a) : xF X a 3 = some (a + 2) := h.2.2.2.2.1
theorem sh5_K_lost {X : Sh} {a : Nat} (h : Sh5 X a) : xK X (a + 2) = 13 := h.2.2.2.2.2.1
theorem sh5_N_lost {X : Sh} {a : Nat} (h : Sh5 X a) : xN X (a + 2) = 24 := h.2.2.2.2.2.2
def Sh7 (X : Sh) (a : Nat) : Prop := (xK X a = 7) ∧ (xF X a 0 = some (a + 1)) ∧ (xK X (a + 1) = 11) ∧ (xN X (a + 1) = 96) ∧ (xF X a 9 = some (a + 2)) ∧ (xK X (a + 2) = 11) ∧ (xN X (a + 2) = 96) ∧ (xF X a 11 = some (a + 3)) ∧ (xK X (a + 3) = 11) ∧ (xN X (a + 3) = 96)
theorem sh7_K {X : Sh} {a : Nat} (h : Sh7 X a) : xK X a = 7 := h.1
theorem sh7_F_bytes {X : Sh} {a : Nat} (h : Sh7 X a) : xF X a 0 = some (a + 1) := h.2.1
theorem sh7_K_bytes {X : Sh} {a : Nat} (h : Sh7 X a) : xK X (a + 1) = 11 := h.2.2.1
theorem sh7_N_bytes {X : Sh} {a : Nat} (h : Sh7 X a) : xN X (a + 1) = 96 := h.2.2.2.1
theorem sh7_F_code {X : Sh} {a : Nat} (h : Sh7 X a) : xF X a 9 = some (a + 2) := h.2.2.2.2.1
theorem sh7_K_code {X : Sh} {a : Nat} (h : Sh7 X a) : xK X (a + 2) = 11 := h.2.2.2.2.2.1
theorem sh7_N_code {X : Sh} {a : Nat} (h : Sh7 X a) : xN X (a + 2) = 96 := h.2.2.2.2.2.2.1
theorem sh7_F_signs {X : Sh} {a : Nat} (h : Sh7 X a) : xF X a 11 = some (a + 3) := h.2.2.2.2.2.2.2.1
theorem sh7_K_signs {X : Sh} {a : Nat} (h : Sh7 X a) : xK X (a + 3) = 11 := h.2.2.2.2.2.2.2.2.1
theorem sh7_N_signs {X : Sh} {a : Nat} (h : Sh7 X a) : xN X (a + 3) = 96 := h.2.2.2.2.2.2.2.2.2
def Sh8 (X : Sh) (a : Nat) : Prop := (xK X a = 8) ∧ (xF X a 0 = some (a + 1)) ∧ (xK X (a + 1) = 11) ∧ (xN X (a + 1) = 12) ∧ (xF X a 1 = some (a + 2)) ∧ (xK X (a + 2) = 11) ∧ (xN X (a + 2) = 12) ∧ (xF X a 2 = some (a + 3)) ∧ (xK X (a + 3) = 11) ∧ (xN X (a + 3) = 12) ∧ (xF X a 3 = some (a + 4)) ∧ (xK X (a + 4) = 17) ∧ (xN X (a + 4) = 12) ∧ (∀ i, i < 12 → xF X (a + 4) i = some (a + 5 + i)) ∧ (∀ i, i < 12 → xK X (a + 5 + i) = 11) ∧ (∀ i, i < 12 → xN X (a + 5 + i) = 96) ∧ (xF X a 4 = some (a + 17)) ∧ (xK X (a + 17) = 11) ∧ (xN X (a + 17) = 12) ∧ (xF X a 6 = some (a + 18)) ∧ (xK X (a + 18) = 11) ∧ (xN X (a + 18) = 26) ∧ (xF X a 7 = some (a + 19)) ∧ (xK X (a + 19) = 11) ∧ (xN X (a + 19) = 96)
theorem sh8_K {X : Sh} {a : Nat} (h : Sh8 X a) : xK X a = 8 := h.1
theorem sh8_F_key {X : Sh} {a : Nat} (h : Sh8 X a) : xF X a 0 = some (a + 1) := h.2.1
theorem sh8_K_key {X : Sh} {a : Nat} (h : Sh8 X a) : xK X (a + 1) = 11 := h.2.2.1
theorem sh8_N_key {X : Sh} {a : Nat} (h : Sh8 X a) : xN X (a + 1) = 12 := h.2.2.2.1
theorem sh8_F_bin {X : Sh} {a : Nat} (h : Sh8 X a) : xF X a 1 = some (a + 2) := h.2.2.2.2.1
theorem sh8_K_bin {X : Sh} {a : Nat} (h : Sh8 X a) : xK X (a + 2) = 11 := h.2.2.2.2.2.1
theorem sh8_N_bin {X : Sh} {a : Nat} (h : Sh8 X a) : xN X (a + 2) = 12 := h.2.2.2.2.2.2.1
theorem sh8_F_pieces {X : Sh} {a : Nat} (h : Sh8 X a) : xF X a 2 = some (a + 3) := h.2.2.2.2.2.2.2.1
theorem sh8_K_pieces {X : Sh} {a : Nat} (h : Sh8 X a) : xK X (a + 3) = 11 := h.2.2.2.2.2.2.2.2.1
theorem sh8_N_pieces {X : Sh} {a : Nat} (h : Sh8 X a) : xN X (a + 3) = 12 := h.2.2.2.2.2.2.2.2.2.1
theorem sh8_F_code {X : Sh} {a : Nat} (h : Sh8 X a) : xF X a 3 = some (a + 4) := h.2.2.2.2.2.2.2.2.2.2.1
theorem sh8_K_code {X : Sh} {a : Nat} (h : Sh8 X a) : xK X (a + 4) = 17 := h.2.2.2.2.2.2.2.2.2.2.2.1
theorem sh8_N_code {X : Sh} {a : Nat} (h : Sh8 X a) : xN X (a + 4) = 12 := h.2.2.2.2.2.2.2.2.2.2.2.2.1
theorem sh8_E_code {X : Sh} {a : Nat} (h : Sh8 X a) : ∀ i, i < 12 → xF X (a + 4) i = some (a + 5 + i) := h.2.2.2.2.2.2.2.2.2.2.2.2.2.1
theorem sh8_EK_code {X : Sh} {a : Nat} (h : Sh8 X a) : ∀ i, i < 12 → xK X (a + 5 + i) = 11 := h.2.2.2.2.2.2.2.2.2.2.2.2.2.2.1
theorem sh8_EN_code {X : Sh} {a : Nat} (h : Sh8 X a) : ∀ i, i < 12 → xN X (a + 5 + i) = 96 := h.2.2.2.2.2.2.2.2.2.2.2.2.2.2.2.1
theorem sh8_F_codes {X : Sh} {a : Nat} (h : Sh8 X a) : xF X a 4 = some (a + 17) := h.2.2.2.2.2.2.2.2.2.2.2.2.2.2.2.2.1
theorem sh8_K_codes {X : Sh} {a : Nat} (h : Sh8 X a) : xK X (a + 17) = 11 := h.2.2.2.2.2.2.2.2.2.2.2.2.2.2.2.2.2.1
theorem sh8_N_codes {X : Sh} {a : Nat} (h : Sh8 X a) : xN X (a + 17) = 12 := h.2.2.2.2.2.2.2.2.2.2.2.2.2.2.2.2.2.2.1
theorem sh8_F_named {X : Sh} {a : Nat} (h : Sh8 X a) : xF X a 6 = some (a + 18) := h.2.2.2.2.2.2.2.2.2.2.2.2.2.2.2.2.2.2.2.1
theorem sh8_K_named {X : Sh} {a : Nat} (h : Sh8 X a) : xK X (a + 18) = 11 := h.2.2.2.2.2.2.2.2.2.2.2.2.2.2.2.2.2.2.2.2.1
theorem sh8_N_named {X : Sh} {a : Nat} (h : Sh8 X a) : xN X (a + 18) = 26 := h.2.2.2.2.2.2.2.2.2.2.2.2.2.2.2.2.2.2.2.2.2.1
theorem sh8_F_stack {X : Sh} {a : Nat} (h : Sh8 X a) : xF X a 7 = some (a + 19) := h.2.2.2.2.2.2.2.2.2.2.2.2.2.2.2.2.2.2.2.2.2.2.1
theorem sh8_K_stack {X : Sh} {a : Nat} (h : Sh8 X a) : xK X (a + 19) = 11 := h.2.2.2.2.2.2.2.2.2.2.2.2.2.2.2.2.2.2.2.2.2.2.2.1
theorem sh8_N_stack {X : Sh} {a : Nat} (h : Sh8 X a) : xN X (a + 19) = 96 := h.2.2.2.2.2.2.2.2.2.2.2.2.2.2.2.2.2.2.2.2.2.2.2.2
def Sh1 (X : Sh) (a : Nat) : Prop := (xK X a = 1) ∧ (xF X a 4 = some (a + 1)) ∧ (xK X (a + 1) = 14) ∧ (xN X (a + 1) = 24) ∧ (xF X a 6 = some (a + 50)) ∧ (xK X (a + 50) = 11) ∧ (xN X (a + 50) = 5) ∧ (xF X a 7 = some (a + 51)) ∧ (xK X (a + 51) = 11) ∧ (xN X (a + 51) = 5) ∧ (xF X a 8 = some (a + 52)) ∧ (xK X (a + 52) = 12) ∧ (xN X (a + 52) = 5) ∧ (xF X a 9 = some (a + 53)) ∧ (xK X (a + 53) = 11) ∧ (xN X (a + 53) = 5) ∧ (∀ i, i < 24 → Sh4 X (a + 2 + 2 * i))
theorem sh1_K {X : Sh} {a : Nat} (h : Sh1 X a) : xK X a = 1 := h.1
theorem sh1_F_layers {X : Sh} {a : Nat} (h : Sh1 X a) : xF X a 4 = some (a + 1) := h.2.1
theorem sh1_K_layers {X : Sh} {a : Nat} (h : Sh1 X a) : xK X (a + 1) = 14 := h.2.2.1
theorem sh1_N_layers {X : Sh} {a : Nat} (h : Sh1 X a) : xN X (a + 1) = 24 := h.2.2.2.1
theorem sh1_F_bulk {X : Sh} {a : Nat} (h : Sh1 X a) : xF X a 6 = some (a + 50) := h.2.2.2.2.1
theorem sh1_K_bulk {X : Sh} {a : Nat} (h : Sh1 X a) : xK X (a + 50) = 11 := h.2.2.2.2.2.1
theorem sh1_N_bulk {X : Sh} {a : Nat} (h : Sh1 X a) : xN X (a + 50) = 5 := h.2.2.2.2.2.2.1
theorem sh1_F_weights {X : Sh} {a : Nat} (h : Sh1 X a) : xF X a 7 = some (a + 51) := h.2.2.2.2.2.2.2.1
theorem sh1_K_weights {X : Sh} {a : Nat} (h : Sh1 X a) : xK X (a + 51) = 11 := h.2.2.2.2.2.2.2.2.1
theorem sh1_N_weights {X : Sh} {a : Nat} (h : Sh1 X a) : xN X (a + 51) = 5 := h.2.2.2.2.2.2.2.2.2.1
theorem sh1_F_rests {X : Sh} {a : Nat} (h : Sh1 X a) : xF X a 8 = some (a + 52) := h.2.2.2.2.2.2.2.2.2.2.1
theorem sh1_K_rests {X : Sh} {a : Nat} (h : Sh1 X a) : xK X (a + 52) = 12 := h.2.2.2.2.2.2.2.2.2.2.2.1
theorem sh1_N_rests {X : Sh} {a : Nat} (h : Sh1 X a) : xN X (a + 52) = 5 := h.2.2.2.2.2.2.2.2.2.2.2.2.1
theorem sh1_F_parts {X : Sh} {a : Nat} (h : Sh1 X a) : xF X a 9 = some (a + 53) := h.2.2.2.2.2.2.2.2.2.2.2.2.2.1
theorem sh1_K_parts {X : Sh} {a : Nat} (h : Sh1 X a) : xK X (a + 53) = 11 := h.2.2.2.2.2.2.2.2.2.2.2.2.2.2.1
theorem sh1_N_parts {X : Sh} {a : Nat} (h : Sh1 X a) : xN X (a + 53) = 5 := h.2.2.2.2.2.2.2.2.2.2.2.2.2.2.2.1
theorem sh1_L_layers {X : Sh} {a : Nat} (h : Sh1 X a) : ∀ i, i < 24 → Sh4 X (a + 2 + 2 * i) := h.2.2.2.2.2.2.2.2.2.2.2.2.2.2.2.2
def Sh6 (X : Sh) (a : Nat) : Prop := (xK X a = 6) ∧ (xF X a 4 = some (a + 1)) ∧ (Sh5 X (a + 1))
theorem sh6_K {X : Sh} {a : Nat} (h : Sh6 X a) : xK X a = 6 := h.1
theorem sh6_F_sheet {X : Sh} {a : Nat} (h : Sh6 X a) : xF X a 4 = some (a + 1) := h.2.1
theorem sh6_S_sheet {X : Sh} {a : Nat} (h : Sh6 X a) : Sh5 X (a + 1) := h.2.2
def Sh2 (X : Sh) (a : Nat) : Prop := (xK X a = 2) ∧ (xF X a 0 = some (a + 1)) ∧ (Sh0 X (a + 1)) ∧ (xF X a 1 = some (a + 8)) ∧ (Sh1 X (a + 8)) ∧ (xF X a 2 = some (a + 62)) ∧ (Sh8 X (a + 62)) ∧ (xF X a 3 = some (a + 82)) ∧ (Sh3 X (a + 82)) ∧ (xF X a 4 = some (a + 85)) ∧ (xK X (a + 85) = 11) ∧ (xN X (a + 85) = 3)
theorem sh2_K {X : Sh} {a : Nat} (h : Sh2 X a) : xK X a = 2 := h.1
theorem sh2_F_bins {X : Sh} {a : Nat} (h : Sh2 X a) : xF X a 0 = some (a + 1) := h.2.1
theorem sh2_S_bins {X : Sh} {a : Nat} (h : Sh2 X a) : Sh0 X (a + 1) := h.2.2.1
theorem sh2_F_furnace {X : Sh} {a : Nat} (h : Sh2 X a) : xF X a 1 = some (a + 8) := h.2.2.2.1
theorem sh2_S_furnace {X : Sh} {a : Nat} (h : Sh2 X a) : Sh1 X (a + 8) := h.2.2.2.2.1
theorem sh2_F_texts {X : Sh} {a : Nat} (h : Sh2 X a) : xF X a 2 = some (a + 62) := h.2.2.2.2.2.1
theorem sh2_S_texts {X : Sh} {a : Nat} (h : Sh2 X a) : Sh8 X (a + 62) := h.2.2.2.2.2.2.1
theorem sh2_F_ladles {X : Sh} {a : Nat} (h : Sh2 X a) : xF X a 3 = some (a + 82) := h.2.2.2.2.2.2.2.1
theorem sh2_S_ladles {X : Sh} {a : Nat} (h : Sh2 X a) : Sh3 X (a + 82) := h.2.2.2.2.2.2.2.2.1
theorem sh2_F_rules {X : Sh} {a : Nat} (h : Sh2 X a) : xF X a 4 = some (a + 85) := h.2.2.2.2.2.2.2.2.2.1
theorem sh2_K_rules {X : Sh} {a : Nat} (h : Sh2 X a) : xK X (a + 85) = 11 := h.2.2.2.2.2.2.2.2.2.2.1
theorem sh2_N_rules {X : Sh} {a : Nat} (h : Sh2 X a) : xN X (a + 85) = 3 := h.2.2.2.2.2.2.2.2.2.2.2
def Sh9 (X : Sh) (a : Nat) : Prop := (xK X a = 9) ∧ (xF X a 0 = some (a + 1)) ∧ (Sh2 X (a + 1)) ∧ (xF X a 1 = some (a + 87)) ∧ (Sh2 X (a + 87)) ∧ (xF X a 3 = some (a + 173)) ∧ (Sh1 X (a + 173)) ∧ (xF X a 4 = some (a + 227)) ∧ (Sh7 X (a + 227)) ∧ (xF X a 5 = some (a + 231)) ∧ (xK X (a + 231) = 15) ∧ (xN X (a + 231) = 4) ∧ (∀ i, i < 4 → xF X (a + 231) i = some (a + 232 + 3 * i)) ∧ (∀ i, i < 4 → Sh5 X (a + 232 + 3 * i)) ∧ (xF X a 6 = some (a + 244)) ∧ (xK X (a + 244) = 16) ∧ (xN X (a + 244) = 5) ∧ (∀ i, i < 5 → xF X (a + 244) i = some (a + 245 + 4 * i)) ∧ (∀ i, i < 5 → Sh6 X (a + 245 + 4 * i)) ∧ (xF X a 7 = some (a + 265)) ∧ (xK X (a + 265) = 11) ∧ (xN X (a + 265) = 60)
theorem sh9_K {X : Sh} {a : Nat} (h : Sh9 X a) : xK X a = 9 := h.1
theorem sh9_F_house {X : Sh} {a : Nat} (h : Sh9 X a) : xF X a 0 = some (a + 1) := h.2.1
theorem sh9_S_house {X : Sh} {a : Nat} (h : Sh9 X a) : Sh2 X (a + 1) := h.2.2.1
theorem sh9_F_image {X : Sh} {a : Nat} (h : Sh9 X a) : xF X a 1 = some (a + 87) := h.2.2.2.1
theorem sh9_S_image {X : Sh} {a : Nat} (h : Sh9 X a) : Sh2 X (a + 87) := h.2.2.2.2.1
theorem sh9_F_trial {X : Sh} {a : Nat} (h : Sh9 X a) : xF X a 3 = some (a + 173) := h.2.2.2.2.2.1
theorem sh9_S_trial {X : Sh} {a : Nat} (h : Sh9 X a) : Sh1 X (a + 173) := h.2.2.2.2.2.2.1
theorem sh9_F_tape {X : Sh} {a : Nat} (h : Sh9 X a) : xF X a 4 = some (a + 227) := h.2.2.2.2.2.2.2.1
theorem sh9_S_tape {X : Sh} {a : Nat} (h : Sh9 X a) : Sh7 X (a + 227) := h.2.2.2.2.2.2.2.2.1
theorem sh9_F_sheets {X : Sh} {a : Nat} (h : Sh9 X a) : xF X a 5 = some (a + 231) := h.2.2.2.2.2.2.2.2.2.1
theorem sh9_K_sheets {X : Sh} {a : Nat} (h : Sh9 X a) : xK X (a + 231) = 15 := h.2.2.2.2.2.2.2.2.2.2.1
theorem sh9_N_sheets {X : Sh} {a : Nat} (h : Sh9 X a) : xN X (a + 231) = 4 := h.2.2.2.2.2.2.2.2.2.2.2.1
theorem sh9_E_sheets {X : Sh} {a : Nat} (h : Sh9 X a) : ∀ i, i < 4 → xF X (a + 231) i = some (a + 232 + 3 * i) := h.2.2.2.2.2.2.2.2.2.2.2.2.1
theorem sh9_ES_sheets {X : Sh} {a : Nat} (h : Sh9 X a) : ∀ i, i < 4 → Sh5 X (a + 232 + 3 * i) := h.2.2.2.2.2.2.2.2.2.2.2.2.2.1
theorem sh9_F_slots {X : Sh} {a : Nat} (h : Sh9 X a) : xF X a 6 = some (a + 244) := h.2.2.2.2.2.2.2.2.2.2.2.2.2.2.1
theorem sh9_K_slots {X : Sh} {a : Nat} (h : Sh9 X a) : xK X (a + 244) = 16 := h.2.2.2.2.2.2.2.2.2.2.2.2.2.2.2.1
theorem sh9_N_slots {X : Sh} {a : Nat} (h : Sh9 X a) : xN X (a + 244) = 5 := h.2.2.2.2.2.2.2.2.2.2.2.2.2.2.2.2.1
theorem sh9_E_slots {X : Sh} {a : Nat} (h : Sh9 X a) : ∀ i, i < 5 → xF X (a + 244) i = some (a + 245 + 4 * i) := h.2.2.2.2.2.2.2.2.2.2.2.2.2.2.2.2.2.1
theorem sh9_ES_slots {X : Sh} {a : Nat} (h : Sh9 X a) : ∀ i, i < 5 → Sh6 X (a + 245 + 4 * i) := h.2.2.2.2.2.2.2.2.2.2.2.2.2.2.2.2.2.2.1
theorem sh9_F_waiting {X : Sh} {a : Nat} (h : Sh9 X a) : xF X a 7 = some (a + 265) := h.2.2.2.2.2.2.2.2.2.2.2.2.2.2.2.2.2.2.2.1
theorem sh9_K_waiting {X : Sh} {a : Nat} (h : Sh9 X a) : xK X (a + 265) = 11 := h.2.2.2.2.2.2.2.2.2.2.2.2.2.2.2.2.2.2.2.2.1
theorem sh9_N_waiting {X : Sh} {a : Nat} (h : Sh9 X a) : xN X (a + 265) = 60 := h.2.2.2.2.2.2.2.2.2.2.2.2.2.2.2.2.2.2.2.2.2
def Sh10 (X : Sh) (a : Nat) : Prop := (xK X a = 10) ∧ (xF X a 0 = some (a + 1)) ∧ (xK X (a + 1) = 11) ∧ (xN X (a + 1) = 2950) ∧ (xF X a 1 = some (a + 2)) ∧ (xK X (a + 2) = 11) ∧ (xN X (a + 2) = 2950) ∧ (xF X a 2 = some (a + 3)) ∧ (xK X (a + 3) = 11) ∧ (xN X (a + 3) = 2950) ∧ (xF X a 4 = some (a + 4)) ∧ (xK X (a + 4) = 11) ∧ (xN X (a + 4) = 4) ∧ (xF X a 5 = some (a + 5)) ∧ (xK X (a + 5) = 11) ∧ (xN X (a + 5) = 4) ∧ (xF X a 6 = some (a + 6)) ∧ (xK X (a + 6) = 11) ∧ (xN X (a + 6) = 96) ∧ (xF X a 7 = some (a + 7)) ∧ (xK X (a + 7) = 11) ∧ (xN X (a + 7) = 5) ∧ (xF X a 8 = some (a + 8)) ∧ (xK X (a + 8) = 11) ∧ (xN X (a + 8) = 5) ∧ (xF X a 9 = some (a + 9)) ∧ (xK X (a + 9) = 11) ∧ (xN X (a + 9) = 5) ∧ (xF X a 10 = some (a + 10)) ∧ (xK X (a + 10) = 11) ∧ (xN X (a + 10) = 5) ∧ (xF X a 11 = some (a + 11)) ∧ (xK X (a + 11) = 11) ∧ (xN X (a + 11) = 120) ∧ (xF X a 12 = some (a + 12)) ∧ (xK X (a + 12) = 12) ∧ (xN X (a + 12) = 5) ∧ (xF X a 13 = some (a + 13)) ∧ (xK X (a + 13) = 11) ∧ (xN X (a + 13) = 5) ∧ (xF X a 14 = some (a + 14)) ∧ (xK X (a + 14) = 12) ∧ (xN X (a + 14) = 5) ∧ (xF X a 15 = some (a + 15)) ∧ (xK X (a + 15) = 11) ∧ (xN X (a + 15) = 5) ∧ (xF X a 16 = some (a + 16)) ∧ (xK X (a + 16) = 11) ∧ (xN X (a + 16) = 5) ∧ (xF X a 18 = some (a + 17)) ∧ (xK X (a + 17) = 11) ∧ (xN X (a + 17) = 96) ∧ (xF X a 30 = some (a + 18)) ∧ (xK X (a + 18) = 11) ∧ (xN X (a + 18) = 128) ∧ (xF X a 31 = some (a + 19)) ∧ (xK X (a + 19) = 11) ∧ (xN X (a + 19) = 100) ∧ (xF X a 32 = some (a + 20)) ∧ (xK X (a + 20) = 11) ∧ (xN X (a + 20) = 24) ∧ (xF X a 33 = some (a + 21)) ∧ (xK X (a + 21) = 11) ∧ (xN X (a + 21) = 60) ∧ (xF X a 35 = some (a + 22)) ∧ (xK X (a + 22) = 11) ∧ (xN X (a + 22) = 60)
theorem sh10_K {X : Sh} {a : Nat} (h : Sh10 X a) : xK X a = 10 := h.1
theorem sh10_F_s {X : Sh} {a : Nat} (h : Sh10 X a) : xF X a 0 = some (a + 1) := h.2.1
theorem sh10_K_s {X : Sh} {a : Nat} (h : Sh10 X a) : xK X (a + 1) = 11 := h.2.2.1
theorem sh10_N_s {X : Sh} {a : Nat} (h : Sh10 X a) : xN X (a + 1) = 2950 := h.2.2.2.1
theorem sh10_F_image {X : Sh} {a : Nat} (h : Sh10 X a) : xF X a 1 = some (a + 2) := h.2.2.2.2.1
theorem sh10_K_image {X : Sh} {a : Nat} (h : Sh10 X a) : xK X (a + 2) = 11 := h.2.2.2.2.2.1
theorem sh10_N_image {X : Sh} {a : Nat} (h : Sh10 X a) : xN X (a + 2) = 2950 := h.2.2.2.2.2.2.1
theorem sh10_F_aside {X : Sh} {a : Nat} (h : Sh10 X a) : xF X a 2 = some (a + 3) := h.2.2.2.2.2.2.2.1
theorem sh10_K_aside {X : Sh} {a : Nat} (h : Sh10 X a) : xK X (a + 3) = 11 := h.2.2.2.2.2.2.2.2.1
theorem sh10_N_aside {X : Sh} {a : Nat} (h : Sh10 X a) : xN X (a + 3) = 2950 := h.2.2.2.2.2.2.2.2.2.1
theorem sh10_F_tSort {X : Sh} {a : Nat} (h : Sh10 X a) : xF X a 4 = some (a + 4) := h.2.2.2.2.2.2.2.2.2.2.1
theorem sh10_K_tSort {X : Sh} {a : Nat} (h : Sh10 X a) : xK X (a + 4) = 11 := h.2.2.2.2.2.2.2.2.2.2.2.1
theorem sh10_N_tSort {X : Sh} {a : Nat} (h : Sh10 X a) : xN X (a + 4) = 4 := h.2.2.2.2.2.2.2.2.2.2.2.2.1
theorem sh10_F_tSize {X : Sh} {a : Nat} (h : Sh10 X a) : xF X a 5 = some (a + 5) := h.2.2.2.2.2.2.2.2.2.2.2.2.2.1
theorem sh10_K_tSize {X : Sh} {a : Nat} (h : Sh10 X a) : xK X (a + 5) = 11 := h.2.2.2.2.2.2.2.2.2.2.2.2.2.2.1
theorem sh10_N_tSize {X : Sh} {a : Nat} (h : Sh10 X a) : xN X (a + 5) = 4 := h.2.2.2.2.2.2.2.2.2.2.2.2.2.2.2.1
theorem sh10_F_tNumber {X : Sh} {a : Nat} (h : Sh10 X a) : xF X a 6 = some (a + 6) := h.2.2.2.2.2.2.2.2.2.2.2.2.2.2.2.2.1
theorem sh10_K_tNumber {X : Sh} {a : Nat} (h : Sh10 X a) : xK X (a + 6) = 11 := h.2.2.2.2.2.2.2.2.2.2.2.2.2.2.2.2.2.1
theorem sh10_N_tNumber {X : Sh} {a : Nat} (h : Sh10 X a) : xN X (a + 6) = 96 := h.2.2.2.2.2.2.2.2.2.2.2.2.2.2.2.2.2.2.1
theorem sh10_F_held {X : Sh} {a : Nat} (h : Sh10 X a) : xF X a 7 = some (a + 7) := h.2.2.2.2.2.2.2.2.2.2.2.2.2.2.2.2.2.2.2.1
theorem sh10_K_held {X : Sh} {a : Nat} (h : Sh10 X a) : xK X (a + 7) = 11 := h.2.2.2.2.2.2.2.2.2.2.2.2.2.2.2.2.2.2.2.2.1
theorem sh10_N_held {X : Sh} {a : Nat} (h : Sh10 X a) : xN X (a + 7) = 5 := h.2.2.2.2.2.2.2.2.2.2.2.2.2.2.2.2.2.2.2.2.2.1
theorem sh10_F_heldNumber {X : Sh} {a : Nat} (h : Sh10 X a) : xF X a 8 = some (a + 8) := h.2.2.2.2.2.2.2.2.2.2.2.2.2.2.2.2.2.2.2.2.2.2.1
theorem sh10_K_heldNumber {X : Sh} {a : Nat} (h : Sh10 X a) : xK X (a + 8) = 11 := h.2.2.2.2.2.2.2.2.2.2.2.2.2.2.2.2.2.2.2.2.2.2.2.1
theorem sh10_N_heldNumber {X : Sh} {a : Nat} (h : Sh10 X a) : xN X (a + 8) = 5 := h.2.2.2.2.2.2.2.2.2.2.2.2.2.2.2.2.2.2.2.2.2.2.2.2.1
theorem sh10_F_heldShare {X : Sh} {a : Nat} (h : Sh10 X a) : xF X a 9 = some (a + 9) := h.2.2.2.2.2.2.2.2.2.2.2.2.2.2.2.2.2.2.2.2.2.2.2.2.2.1
theorem sh10_K_heldShare {X : Sh} {a : Nat} (h : Sh10 X a) : xK X (a + 9) = 11 := h.2.2.2.2.2.2.2.2.2.2.2.2.2.2.2.2.2.2.2.2.2.2.2.2.2.2.1
theorem sh10_N_heldShare {X : Sh} {a : Nat} (h : Sh10 X a) : xN X (a + 9) = 5 := h.2.2.2.2.2.2.2.2.2.2.2.2.2.2.2.2.2.2.2.2.2.2.2.2.2.2.2.1
theorem sh10_F_heldSize {X : Sh} {a : Nat} (h : Sh10 X a) : xF X a 10 = some (a + 10) := h.2.2.2.2.2.2.2.2.2.2.2.2.2.2.2.2.2.2.2.2.2.2.2.2.2.2.2.2.1
theorem sh10_K_heldSize {X : Sh} {a : Nat} (h : Sh10 X a) : xK X (a + 10) = 11 := h.2.2.2.2.2.2.2.2.2.2.2.2.2.2.2.2.2.2.2.2.2.2.2.2.2.2.2.2.2.1
theorem sh10_N_heldSize {X : Sh} {a : Nat} (h : Sh10 X a) : xN X (a + 10) = 5 := h.2.2.2.2.2.2.2.2.2.2.2.2.2.2.2.2.2.2.2.2.2.2.2.2.2.2.2.2.2.2.1
theorem sh10_F_heldRow {X : Sh} {a : Nat} (h : Sh10 X a) : xF X a 11 = some (a + 11) := h.2.2.2.2.2.2.2.2.2.2.2.2.2.2.2.2.2.2.2.2.2.2.2.2.2.2.2.2.2.2.2.1
theorem sh10_K_heldRow {X : Sh} {a : Nat} (h : Sh10 X a) : xK X (a + 11) = 11 := h.2.2.2.2.2.2.2.2.2.2.2.2.2.2.2.2.2.2.2.2.2.2.2.2.2.2.2.2.2.2.2.2.1
theorem sh10_N_heldRow {X : Sh} {a : Nat} (h : Sh10 X a) : xN X (a + 11) = 120 := h.2.2.2.2.2.2.2.2.2.2.2.2.2.2.2.2.2.2.2.2.2.2.2.2.2.2.2.2.2.2.2.2.2.1
theorem sh10_F_weights {X : Sh} {a : Nat} (h : Sh10 X a) : xF X a 12 = some (a + 12) := h.2.2.2.2.2.2.2.2.2.2.2.2.2.2.2.2.2.2.2.2.2.2.2.2.2.2.2.2.2.2.2.2.2.2.1
theorem sh10_K_weights {X : Sh} {a : Nat} (h : Sh10 X a) : xK X (a + 12) = 12 := h.2.2.2.2.2.2.2.2.2.2.2.2.2.2.2.2.2.2.2.2.2.2.2.2.2.2.2.2.2.2.2.2.2.2.2.1
theorem sh10_N_weights {X : Sh} {a : Nat} (h : Sh10 X a) : xN X (a + 12) = 5 := h.2.2.2.2.2.2.2.2.2.2.2.2.2.2.2.2.2.2.2.2.2.2.2.2.2.2.2.2.2.2.2.2.2.2.2.2.1
theorem sh10_F_parts {X : Sh} {a : Nat} (h : Sh10 X a) : xF X a 13 = some (a + 13) := h.2.2.2.2.2.2.2.2.2.2.2.2.2.2.2.2.2.2.2.2.2.2.2.2.2.2.2.2.2.2.2.2.2.2.2.2.2.1
theorem sh10_K_parts {X : Sh} {a : Nat} (h : Sh10 X a) : xK X (a + 13) = 11 := h.2.2.2.2.2.2.2.2.2.2.2.2.2.2.2.2.2.2.2.2.2.2.2.2.2.2.2.2.2.2.2.2.2.2.2.2.2.2.1
theorem sh10_N_parts {X : Sh} {a : Nat} (h : Sh10 X a) : xN X (a + 13) = 5 := h.2.2.2.2.2.2.2.2.2.2.2.2.2.2.2.2.2.2.2.2.2.2.2.2.2.2.2.2.2.2.2.2.2.2.2.2.2.2.2.1
theorem sh10_F_rests {X : Sh} {a : Nat} (h : Sh10 X a) : xF X a 14 = some (a + 14) := h.2.2.2.2.2.2.2.2.2.2.2.2.2.2.2.2.2.2.2.2.2.2.2.2.2.2.2.2.2.2.2.2.2.2.2.2.2.2.2.2.1
theorem sh10_K_rests {X : Sh} {a : Nat} (h : Sh10 X a) : xK X (a + 14) = 12 := h.2.2.2.2.2.2.2.2.2.2.2.2.2.2.2.2.2.2.2.2.2.2.2.2.2.2.2.2.2.2.2.2.2.2.2.2.2.2.2.2.2.1
theorem sh10_N_rests {X : Sh} {a : Nat} (h : Sh10 X a) : xN X (a + 14) = 5 := h.2.2.2.2.2.2.2.2.2.2.2.2.2.2.2.2.2.2.2.2.2.2.2.2.2.2.2.2.2.2.2.2.2.2.2.2.2.2.2.2.2.2.1
theorem sh10_F_tops {X : Sh} {a : Nat} (h : Sh10 X a) : xF X a 15 = some (a + 15) := h.2.2.2.2.2.2.2.2.2.2.2.2.2.2.2.2.2.2.2.2.2.2.2.2.2.2.2.2.2.2.2.2.2.2.2.2.2.2.2.2.2.2.2.1
theorem sh10_K_tops {X : Sh} {a : Nat} (h : Sh10 X a) : xK X (a + 15) = 11 := h.2.2.2.2.2.2.2.2.2.2.2.2.2.2.2.2.2.2.2.2.2.2.2.2.2.2.2.2.2.2.2.2.2.2.2.2.2.2.2.2.2.2.2.2.1
theorem sh10_N_tops {X : Sh} {a : Nat} (h : Sh10 X a) : xN X (a + 15) = 5 := h.2.2.2.2.2.2.2.2.2.2.2.2.2.2.2.2.2.2.2.2.2.2.2.2.2.2.2.2.2.2.2.2.2.2.2.2.2.2.2.2.2.2.2.2.2.1
theorem sh10_F_inRing {X : Sh} {a : Nat} (h : Sh10 X a) : xF X a 16 = some (a + 16) := h.2.2.2.2.2.2.2.2.2.2.2.2.2.2.2.2.2.2.2.2.2.2.2.2.2.2.2.2.2.2.2.2.2.2.2.2.2.2.2.2.2.2.2.2.2.2.1
theorem sh10_K_inRing {X : Sh} {a : Nat} (h : Sh10 X a) : xK X (a + 16) = 11 := h.2.2.2.2.2.2.2.2.2.2.2.2.2.2.2.2.2.2.2.2.2.2.2.2.2.2.2.2.2.2.2.2.2.2.2.2.2.2.2.2.2.2.2.2.2.2.2.1
theorem sh10_N_inRing {X : Sh} {a : Nat} (h : Sh10 X a) : xN X (a + 16) = 5 := h.2.2.2.2.2.2.2.2.2.2.2.2.2.2.2.2.2.2.2.2.2.2.2.2.2.2.2.2.2.2.2.2.2.2.2.2.2.2.2.2.2.2.2.2.2.2.2.2.1
theorem sh10_F_tape {X : Sh} {a : Nat} (h : Sh10 X a) : xF X a 18 = some (a + 17) := h.2.2.2.2.2.2.2.2.2.2.2.2.2.2.2.2.2.2.2.2.2.2.2.2.2.2.2.2.2.2.2.2.2.2.2.2.2.2.2.2.2.2.2.2.2.2.2.2.2.1
theorem sh10_K_tape {X : Sh} {a : Nat} (h : Sh10 X a) : xK X (a + 17) = 11 := h.2.2.2.2.2.2.2.2.2.2.2.2.2.2.2.2.2.2.2.2.2.2.2.2.2.2.2.2.2.2.2.2.2.2.2.2.2.2.2.2.2.2.2.2.2.2.2.2.2.2.1
theorem sh10_N_tape {X : Sh} {a : Nat} (h : Sh10 X a) : xN X (a + 17) = 96 := h.2.2.2.2.2.2.2.2.2.2.2.2.2.2.2.2.2.2.2.2.2.2.2.2.2.2.2.2.2.2.2.2.2.2.2.2.2.2.2.2.2.2.2.2.2.2.2.2.2.2.2.1
theorem sh10_F_named {X : Sh} {a : Nat} (h : Sh10 X a) : xF X a 30 = some (a + 18) := h.2.2.2.2.2.2.2.2.2.2.2.2.2.2.2.2.2.2.2.2.2.2.2.2.2.2.2.2.2.2.2.2.2.2.2.2.2.2.2.2.2.2.2.2.2.2.2.2.2.2.2.2.1
theorem sh10_K_named {X : Sh} {a : Nat} (h : Sh10 X a) : xK X (a + 18) = 11 := h.2.2.2.2.2.2.2.2.2.2.2.2.2.2.2.2.2.2.2.2.2.2.2.2.2.2.2.2.2.2.2.2.2.2.2.2.2.2.2.2.2.2.2.2.2.2.2.2.2.2.2.2.2.1
theorem sh10_N_named {X : Sh} {a : Nat} (h : Sh10 X a) : xN X (a + 18) = 128 := h.2.2.2.2.2.2.2.2.2.2.2.2.2.2.2.2.2.2.2.2.2.2.2.2.2.2.2.2.2.2.2.2.2.2.2.2.2.2.2.2.2.2.2.2.2.2.2.2.2.2.2.2.2.2.1
theorem sh10_F_pile {X : Sh} {a : Nat} (h : Sh10 X a) : xF X a 31 = some (a + 19) := h.2.2.2.2.2.2.2.2.2.2.2.2.2.2.2.2.2.2.2.2.2.2.2.2.2.2.2.2.2.2.2.2.2.2.2.2.2.2.2.2.2.2.2.2.2.2.2.2.2.2.2.2.2.2.2.1
theorem sh10_K_pile {X : Sh} {a : Nat} (h : Sh10 X a) : xK X (a + 19) = 11 := h.2.2.2.2.2.2.2.2.2.2.2.2.2.2.2.2.2.2.2.2.2.2.2.2.2.2.2.2.2.2.2.2.2.2.2.2.2.2.2.2.2.2.2.2.2.2.2.2.2.2.2.2.2.2.2.2.1
theorem sh10_N_pile {X : Sh} {a : Nat} (h : Sh10 X a) : xN X (a + 19) = 100 := h.2.2.2.2.2.2.2.2.2.2.2.2.2.2.2.2.2.2.2.2.2.2.2.2.2.2.2.2.2.2.2.2.2.2.2.2.2.2.2.2.2.2.2.2.2.2.2.2.2.2.2.2.2.2.2.2.2.1
theorem sh10_F_carried {X : Sh} {a : Nat} (h : Sh10 X a) : xF X a 32 = some (a + 20) := h.2.2.2.2.2.2.2.2.2.2.2.2.2.2.2.2.2.2.2.2.2.2.2.2.2.2.2.2.2.2.2.2.2.2.2.2.2.2.2.2.2.2.2.2.2.2.2.2.2.2.2.2.2.2.2.2.2.2.1
theorem sh10_K_carried {X : Sh} {a : Nat} (h : Sh10 X a) : xK X (a + 20) = 11 := h.2.2.2.2.2.2.2.2.2.2.2.2.2.2.2.2.2.2.2.2.2.2.2.2.2.2.2.2.2.2.2.2.2.2.2.2.2.2.2.2.2.2.2.2.2.2.2.2.2.2.2.2.2.2.2.2.2.2.2.1
theorem sh10_N_carried {X : Sh} {a : Nat} (h : Sh10 X a) : xN X (a + 20) = 24 := h.2.2.2.2.2.2.2.2.2.2.2.2.2.2.2.2.2.2.2.2.2.2.2.2.2.2.2.2.2.2.2.2.2.2.2.2.2.2.2.2.2.2.2.2.2.2.2.2.2.2.2.2.2.2.2.2.2.2.2.2.1
theorem sh10_F_waits {X : Sh} {a : Nat} (h : Sh10 X a) : xF X a 33 = some (a + 21) := h.2.2.2.2.2.2.2.2.2.2.2.2.2.2.2.2.2.2.2.2.2.2.2.2.2.2.2.2.2.2.2.2.2.2.2.2.2.2.2.2.2.2.2.2.2.2.2.2.2.2.2.2.2.2.2.2.2.2.2.2.2.1
theorem sh10_K_waits {X : Sh} {a : Nat} (h : Sh10 X a) : xK X (a + 21) = 11 := h.2.2.2.2.2.2.2.2.2.2.2.2.2.2.2.2.2.2.2.2.2.2.2.2.2.2.2.2.2.2.2.2.2.2.2.2.2.2.2.2.2.2.2.2.2.2.2.2.2.2.2.2.2.2.2.2.2.2.2.2.2.2.1
theorem sh10_N_waits {X : Sh} {a : Nat} (h : Sh10 X a) : xN X (a + 21) = 60 := h.2.2.2.2.2.2.2.2.2.2.2.2.2.2.2.2.2.2.2.2.2.2.2.2.2.2.2.2.2.2.2.2.2.2.2.2.2.2.2.2.2.2.2.2.2.2.2.2.2.2.2.2.2.2.2.2.2.2.2.2.2.2.2.1
theorem sh10_F_row {X : Sh} {a : Nat} (h : Sh10 X a) : xF X a 35 = some (a + 22) := h.2.2.2.2.2.2.2.2.2.2.2.2.2.2.2.2.2.2.2.2.2.2.2.2.2.2.2.2.2.2.2.2.2.2.2.2.2.2.2.2.2.2.2.2.2.2.2.2.2.2.2.2.2.2.2.2.2.2.2.2.2.2.2.2.1
theorem sh10_K_row {X : Sh} {a : Nat} (h : Sh10 X a) : xK X (a + 22) = 11 := h.2.2.2.2.2.2.2.2.2.2.2.2.2.2.2.2.2.2.2.2.2.2.2.2.2.2.2.2.2.2.2.2.2.2.2.2.2.2.2.2.2.2.2.2.2.2.2.2.2.2.2.2.2.2.2.2.2.2.2.2.2.2.2.2.2.1
theorem sh10_N_row {X : Sh} {a : Nat} (h : Sh10 X a) : xN X (a + 22) = 60 := h.2.2.2.2.2.2.2.2.2.2.2.2.2.2.2.2.2.2.2.2.2.2.2.2.2.2.2.2.2.2.2.2.2.2.2.2.2.2.2.2.2.2.2.2.2.2.2.2.2.2.2.2.2.2.2.2.2.2.2.2.2.2.2.2.2.2
/-! the judgement of methods that make nothing; calls; helps for the printed blocks -/
section BASE2
abbrev Wn (G : Gl) (y : Md) (d pc : Nat) (lo : List (Nat × Value)) (st : List Value) (X : Sh) (M : Mm) (Q : Mm → Int32 → Prop) : Prop := Wp G y d 0 0 0 0 pc lo st X M (fun X2 M2 v => X2 = X ∧ ∃ x, v = some (.int x) ∧ Q M2 x)
abbrev Wv (G : Gl) (y : Md) (d pc : Nat) (lo : List (Nat × Value)) (st : List Value) (X : Sh) (M : Mm) (Q : Mm → Prop) : Prop := Wp G y d 0 0 0 0 pc lo st X M (fun X2 M2 v => X2 = X ∧ v = none ∧ Q M2)
abbrev Cn (G : Gl) (y : Md) (d : Nat) (as : List Value) (X : Sh) (M : Mm) (Q : Mm → Int32 → Prop) : Prop := Cl G y d 0 0 as X M (fun X2 M2 v => X2 = X ∧ ∃ x, v = some (.int x) ∧ Q M2 x)
abbrev Cv (G : Gl) (y : Md) (d : Nat) (as : List Value) (X : Sh) (M : Mm) (Q : Mm → Prop) : Prop := Cl G y d 0 0 as X M (fun X2 M2 v => X2 = X ∧ v = none ∧ Q M2)
theorem ne_ti {x k : Int32} {z : Int} (h : ¬ x = k) (hk : k.toInt = z) : x.toInt ≠ z := fun q => h (Int32.toInt_inj.mp (q.trans hk.symm))
theorem ite_01 (p : Prop) {hp : Decidable p} : (if p then (1 : Int32) else 0) = 0 ∨ (if p then (1 : Int32) else 0) = 1 := by
  by_cases h : p
  · rw [if_pos h]; exact Or.inr rfl
  · rw [if_neg h]; exact Or.inl rfl
variable {G : Gl} {y : Md} {d mc ms ce sl pc : Nat} {lo : List (Nat × Value)} {st : List Value} {X : Sh} {M : Mm} {Q : Sh → Mm → Option Value → Prop}
theorem wp_topi {x : Int32} (k : ∀ v : Int32, v = x → Wp G y d mc ms ce sl pc lo (.int v :: st) X M Q) : Wp G y d mc ms ce sl pc lo (.int x :: st) X M Q := k x rfl
theorem wp_topl {x : Int64} (k : ∀ v : Int64, v = x → Wp G y d mc ms ce sl pc lo (.long v :: st) X M Q) : Wp G y d mc ms ce sl pc lo (.long x :: st) X M Q := k x rfl
theorem wp_nm (k : ∀ M2 : Mm, M2 = M → Wp G y d mc ms ce sl pc lo st X M2 Q) : Wp G y d mc ms ce sl pc lo st X M Q := k M rfl
theorem wn_iret {v : Int32} {Q : Mm → Int32 → Prop} (hd : decode y.2.1 pc = .ok (.ireturn, 1)) (hr : y.2.2.2 = some .int) (h : Q M v) : Wn G y d pc lo [.int v] X M Q := wp_iret hd hr rfl (Nat.le_refl _) ⟨rfl, v, rfl, h⟩
theorem wn_zret {v : Int32} {Q : Mm → Int32 → Prop} (hd : decode y.2.1 pc = .ok (.ireturn, 1)) (hr : y.2.2.2 = some .boolean) (hv : v = 0 ∨ v = 1) (h : Q M v) : Wn G y d pc lo [.int v] X M Q := wp_zret hd hr rfl (Nat.le_refl _) hv ⟨rfl, v, rfl, h⟩
theorem wv_ret {Q : Mm → Prop} (hd : decode y.2.1 pc = .ok (.return_, 1)) (hr : y.2.2.2 = none) (h : Q M) : Wv G y d pc lo [] X M Q := wp_vret hd hr rfl (Nat.le_refl _) ⟨rfl, rfl, h⟩
theorem Cn.of {as : List Value} {Q : Mm → Int32 → Prop} (hy : plainName y.1.cls = true) (hn : (lg_sl as).length ≤ y.2.2.1) (h : Wn G y d 0 (lv_args 0 as) [] X M Q) : Cn G y d as X M Q := Cl.of hy hn h
theorem Cv.of {as : List Value} {Q : Mm → Prop} (hy : plainName y.1.cls = true) (hn : (lg_sl as).length ≤ y.2.2.1) (h : Wv G y d 0 (lv_args 0 as) [] X M Q) : Cv G y d as X M Q := Cl.of hy hn h
theorem Cn.mono {as : List Value} {Q1 Q2 : Mm → Int32 → Prop} (h : Cn G y d as X M Q1) (hq : ∀ M2 x, Q1 M2 x → Q2 M2 x) : Cn G y d as X M Q2 := by
  intro l p e a1 a2 a3 s m args below a4 a5 a6 a7
  obtain ⟨k, o, h1, h2, h3, ⟨⟨v, X2, M2, q1, ⟨q2, x, q3, q4⟩, q5⟩, q6⟩, q7⟩ := h l p e a1 a2 a3 s m args below a4 a5 a6 a7
  exact ⟨k, o, h1, h2, h3, ⟨⟨v, X2, M2, q1, ⟨q2, x, q3, hq _ _ q4⟩, q5⟩, q6⟩, q7⟩
theorem Cv.mono {as : List Value} {Q1 Q2 : Mm → Prop} (h : Cv G y d as X M Q1) (hq : ∀ M2, Q1 M2 → Q2 M2) : Cv G y d as X M Q2 := by
  intro l p e a1 a2 a3 s m args below a4 a5 a6 a7
  obtain ⟨k, o, h1, h2, h3, ⟨⟨v, X2, M2, q1, ⟨q2, q3, q4⟩, q5⟩, q6⟩, q7⟩ := h l p e a1 a2 a3 s m args below a4 a5 a6 a7
  exact ⟨k, o, h1, h2, h3, ⟨⟨v, X2, M2, q1, ⟨q2, q3, hq _ q4⟩, q5⟩, q6⟩, q7⟩
theorem wp_cvi {y2 : Md} {n ci idx b : Nat} {as rest : List Value} {Q1 : Mm → Int32 → Prop} (hd : decode y.2.1 pc = .ok (.invokevirtual idx, 3)) (hw : CKv y.1.cls idx y2 n ci) (hb : xK X b = ci) (hn : as.length = n) (hst : st = as.reverse ++ .ref b :: rest) (hc8 : (rest.map fun v => v.category).sum ≤ 8) (hM : Cn G y2 d (.ref b :: as) X M Q1)
    (kk : ∀ M2 x, Q1 M2 x → Wp G y (d + 1) 0 0 0 0 (pc + 3) lo (.int x :: rest) X M2 Q) : Wp G y (d + 1) 0 0 0 0 pc lo st X M Q :=
  wp_callV hd hw hb hn hst hc8 (Nat.le_refl _) (Nat.le_refl _) hM (fun _ _ _ h => by rw [h.1]; rfl) (fun X2 M2 v h => by obtain ⟨rfl, x, rfl, h⟩ := h; exact kk M2 x h)
theorem wp_cvv {y2 : Md} {n ci idx b : Nat} {as rest : List Value} {Q1 : Mm → Prop} (hd : decode y.2.1 pc = .ok (.invokevirtual idx, 3)) (hw : CKv y.1.cls idx y2 n ci) (hb : xK X b = ci) (hn : as.length = n) (hst : st = as.reverse ++ .ref b :: rest) (hc8 : (rest.map fun v => v.category).sum ≤ 8) (hM : Cv G y2 d (.ref b :: as) X M Q1)
    (kk : ∀ M2, Q1 M2 → Wp G y (d + 1) 0 0 0 0 (pc + 3) lo rest X M2 Q) : Wp G y (d + 1) 0 0 0 0 pc lo st X M Q :=
  wp_callV hd hw hb hn hst hc8 (Nat.le_refl _) (Nat.le_refl _) hM (fun _ _ _ h => by rw [h.1]; rfl) (fun X2 M2 v h => by obtain ⟨rfl, rfl, h⟩ := h; exact kk M2 h)
theorem wp_csi {y2 : Md} {n idx : Nat} {as rest : List Value} {Q1 : Mm → Int32 → Prop} (hd : decode y.2.1 pc = .ok (.invokestatic idx, 3)) (hw : CKs y.1.cls idx y2 n) (hown : (0 : Nat) = 0) (hn : as.length = n) (hst : st = as.reverse ++ rest) (hc8 : (rest.map fun v => v.category).sum ≤ 8) (hM : Cn G y2 d as X M Q1)
    (kk : ∀ M2 x, Q1 M2 x → Wp G y (d + 1) 0 0 0 0 (pc + 3) lo (.int x :: rest) X M2 Q) : Wp G y (d + 1) 0 0 0 0 pc lo st X M Q :=
  wp_callS hd hw hn hst hc8 (Nat.le_refl _) (Nat.le_refl _) hM (fun _ _ _ h => by rw [h.1]; rfl) (fun X2 M2 v h => by obtain ⟨rfl, x, rfl, h⟩ := h; exact kk M2 x h)
theorem wp_cni {y2 : Md} {n idx : Nat} {as rest : List Value} {Q1 : Mm → Int32 → Prop} (hd : decode y.2.1 pc = .ok (.invokestatic idx, 3)) (hw : CKn y.1.cls idx y2 n) (hn : as.length = n) (hst : st = as.reverse ++ rest) (hc8 : (rest.map fun v => v.category).sum ≤ 8) (hM : Cn G y2 d as X M Q1)
    (kk : ∀ M2 x, Q1 M2 x → Wp G y (d + 1) 0 0 0 0 (pc + 3) lo (.int x :: rest) X M2 Q) : Wp G y (d + 1) 0 0 0 0 pc lo st X M Q :=
  wp_callN hd hw hn hst hc8 (Nat.le_refl _) (Nat.le_refl _) hM (fun _ _ _ h => by rw [h.1]; rfl) (fun X2 M2 v h => by obtain ⟨rfl, x, rfl, h⟩ := h; exact kk M2 x h)
theorem wp_cvip {y2 : Md} {n ci idx b : Nat} {as rest : List Value} {e : Int32} (hd : decode y.2.1 pc = .ok (.invokevirtual idx, 3)) (hw : CKv y.1.cls idx y2 n ci) (hb : xK X b = ci) (hn : as.length = n) (hst : st = as.reverse ++ .ref b :: rest) (hc8 : (rest.map fun v => v.category).sum ≤ 8) (hM : Cn G y2 d (.ref b :: as) X M (fun M2 x => M2 = M ∧ x = e))
    (kk : Wp G y (d + 1) 0 0 0 0 (pc + 3) lo (.int e :: rest) X M Q) : Wp G y (d + 1) 0 0 0 0 pc lo st X M Q :=
  wp_cvi hd hw hb hn hst hc8 hM (fun M2 x h => by rw [h.1, h.2]; exact kk)
theorem wp_csip {y2 : Md} {n idx : Nat} {as rest : List Value} {e : Int32} (hd : decode y.2.1 pc = .ok (.invokestatic idx, 3)) (hw : CKs y.1.cls idx y2 n) (hown : (0 : Nat) = 0) (hn : as.length = n) (hst : st = as.reverse ++ rest) (hc8 : (rest.map fun v => v.category).sum ≤ 8) (hM : Cn G y2 d as X M (fun M2 x => M2 = M ∧ x = e))
    (kk : Wp G y (d + 1) 0 0 0 0 (pc + 3) lo (.int e :: rest) X M Q) : Wp G y (d + 1) 0 0 0 0 pc lo st X M Q :=
  wp_csi hd hw rfl hn hst hc8 hM (fun M2 x h => by rw [h.1, h.2]; exact kk)
theorem wp_cnip {y2 : Md} {n idx : Nat} {as rest : List Value} {e : Int32} (hd : decode y.2.1 pc = .ok (.invokestatic idx, 3)) (hw : CKn y.1.cls idx y2 n) (hn : as.length = n) (hst : st = as.reverse ++ rest) (hc8 : (rest.map fun v => v.category).sum ≤ 8) (hM : Cn G y2 d as X M (fun M2 x => M2 = M ∧ x = e))
    (kk : Wp G y (d + 1) 0 0 0 0 (pc + 3) lo (.int e :: rest) X M Q) : Wp G y (d + 1) 0 0 0 0 pc lo st X M Q :=
  wp_cni hd hw hn hst hc8 hM (fun M2 x h => by rw [h.1, h.2]; exact kk)
/-- a table's default, where some of its places lead there too -/
theorem tbl_def {dflt tl th : Int} {offs : Array Int} {len : Nat} {x : Int32} {tgt : Nat} (hd : decode y.2.1 pc = .ok (.tableswitch dflt tl th offs, len)) (vs : List Int) (n : Nat) (hn : th - tl < n) (ht : (pc : Int) + dflt = (tgt : Int)) (ho : ∀ i : Nat, i < n → offs[i]? = some dflt ∨ (tl + i) ∈ vs) (hv : ∀ v ∈ vs, x.toInt ≠ v) (kk : Wp G y d mc ms ce sl tgt lo st X M Q) : Wp G y d mc ms ce sl pc lo (.int x :: st) X M Q := by
  by_cases h : x.toInt < tl ∨ th < x.toInt
  · exact wp_tblOut hd h ht kk
  · have h1 : ¬ x.toInt < tl := fun q => h (Or.inl q)
    have h2 : ¬ th < x.toInt := fun q => h (Or.inr q)
    rcases ho (x.toInt - tl).toNat (by omega) with h3 | h3
    · exact wp_tblIn hd h1 h2 h3 ht kk
    · exact absurd (by omega) (hv _ h3)
end BASE2
