/-! texts' worth: a stack, as a list -/
def ev_step (env : Nat → Int32) (w v : Int32) (st : List Int32) : List Int32 :=
  if w = 2 then (if v = 33 then (match st with | x :: s => (if x = 0 then 1 else 0) :: s | [] => []) else (match st with | y :: x :: s => g_join v x y :: s | s => s))
  else if w = 0 then v :: st else env v.toNatClampNeg :: st
/-- the stack behind the first k steps of the code that lies in c from B on -/
def ev_run (env : Nat → Int32) (c : Nat → Int32) (B : Nat) : Nat → List Int32
  | 0 => []
  | k + 1 => ev_step env (c (B + 2 * k)) (c (B + 2 * k + 1)) (ev_run env c B k)
def dp_step (w v : Int32) (d : Nat) : Option Nat := if w = 2 then (if v = 33 then (if 1 ≤ d then some d else none) else (if 2 ≤ d then some (d - 1) else none)) else some (d + 1)
/-- how deep the stack is then, if it never was too shallow -/
def dp_run (c : Nat → Int32) (B : Nat) : Nat → Option Nat
  | 0 => some 0
  | k + 1 => (dp_run c B k).bind (dp_step (c (B + 2 * k)) (c (B + 2 * k + 1)))
def s_worth (σ : Nat → Int32) (t : Nat) (env : Nat → Int32) : Int32 := (ev_run env σ (344 + 200 * t) (σ (342 + 200 * t)).toNatClampNeg).headD 0
def nm_ok (key : Int32) (c : Nat) : Prop := c < 128 ∧ p_isName key (nI c)
/-- a step of a text for this key: a number, a name, a sign -/
def st_ok (key w v : Int32) : Prop := (w = 0 ∧ ∃ c, c ≤ 9999 ∧ v = nI c) ∨ (w = 1 ∧ ∃ c, nm_ok key c ∧ v = nI c) ∨ (w = 2 ∧ ∃ c, c ∈ [33, 38, 42, 43, 45, 47, 60, 61, 62, 124] ∧ v = nI c)
/-- text t of the row is well formed -/
def T_ok (σ : Nat → Int32) (t : Nat) : Prop := ∃ n, σ (342 + 200 * t) = nI n ∧ 1 ≤ n ∧ n ≤ 96 ∧ dp_run σ (344 + 200 * t) n = some 1 ∧ ∀ k, k < n → st_ok (σ (340 + 200 * t)) (σ (344 + 200 * t + 2 * k)) (σ (344 + 200 * t + 2 * k + 1))
theorem dp_prefix {c : Nat → Int32} {B : Nat} : ∀ {n m d : Nat}, dp_run c B (m + n) = some d → ∃ e, dp_run c B m = some e
  | 0, m, d, h => ⟨d, h⟩
  | n + 1, m, d, h => by
    have h2 : (dp_run c B (m + n)).bind (dp_step (c (B + 2 * (m + n))) (c (B + 2 * (m + n) + 1))) = some d := h
    cases h3 : dp_run c B (m + n) with
    | none => rw [h3] at h2; cases h2
    | some e => exact dp_prefix h3
theorem dp_le {c : Nat → Int32} {B : Nat} : ∀ {n d : Nat}, dp_run c B n = some d → d ≤ n
  | 0, d, h => by cases h; exact Nat.le_refl _
  | n + 1, d, h => by
    have h2 : (dp_run c B n).bind (dp_step (c (B + 2 * n)) (c (B + 2 * n + 1))) = some d := h
    cases h3 : dp_run c B n with
    | none => rw [h3] at h2; cases h2
    | some e =>
      have := dp_le h3
      rw [h3] at h2
      simp only [Option.bind_some, dp_step] at h2
      repeat' split at h2
      all_goals first | (cases h2; omega) | cases h2
theorem ev_len {env : Nat → Int32} {c : Nat → Int32} {B : Nat} : ∀ {n d : Nat}, dp_run c B n = some d → (ev_run env c B n).length = d
  | 0, d, h => by cases h; rfl
  | n + 1, d, h => by
    have h2 : (dp_run c B n).bind (dp_step (c (B + 2 * n)) (c (B + 2 * n + 1))) = some d := h
    cases h3 : dp_run c B n with
    | none => rw [h3] at h2; cases h2
    | some e =>
      have ih := ev_len (env := env) h3
      rw [h3] at h2
      simp only [Option.bind_some, dp_step] at h2
      show (ev_step env (c (B + 2 * n)) (c (B + 2 * n + 1)) (ev_run env c B n)).length = d
      unfold ev_step
      by_cases hw : c (B + 2 * n) = 2
      · rw [if_pos hw] at h2 ⊢
        by_cases hv : c (B + 2 * n + 1) = 33
        · rw [if_pos hv] at h2 ⊢
          split at h2
          · cases h2
            match hl : ev_run env c B n, ih with
            | [], ih => simp at ih; omega
            | x :: s, ih => simpa using ih
          · cases h2
        · rw [if_neg hv] at h2 ⊢
          split at h2
          · cases h2
            match hl : ev_run env c B n, ih with
            | [], ih => simp at ih; omega
            | [x], ih => simp at ih; omega
            | x :: z :: s, ih => simp at ih ⊢; omega
          · cases h2
      · rw [if_neg hw] at h2 ⊢
        cases h2
        split <;> simp [ih]
theorem ev_cong {env env2 c : Nat → Int32} {B : Nat} : ∀ {n : Nat}, (∀ k, k < n → ¬ c (B + 2 * k) = 2 → ¬ c (B + 2 * k) = 0 → env (c (B + 2 * k + 1)).toNatClampNeg = env2 (c (B + 2 * k + 1)).toNatClampNeg) → ev_run env c B n = ev_run env2 c B n
  | 0, _ => rfl
  | n + 1, h => by
    have ih := ev_cong (n := n) (fun k hk => h k (by omega))
    show ev_step env _ _ (ev_run env c B n) = ev_step env2 _ _ (ev_run env2 c B n)
    rw [ih]
    unfold ev_step
    split
    · rfl
    · rename_i h1
      split
      · rfl
      · rename_i h2
        rw [h n (by omega) h1 h2]
theorem worth_cong {σ env env2 : Nat → Int32} {t : Nat} (hT : T_ok σ t) (h : ∀ c, nm_ok (σ (340 + 200 * t)) c → env c = env2 c) : s_worth σ t env = s_worth σ t env2 := by
  obtain ⟨n, hn, h1, h2, h3, h4⟩ := hT
  unfold s_worth
  rw [hn, nI_clamp (by omega)]
  rw [ev_cong (fun k hk hw hw0 => ?_)]
  rcases h4 k hk with ⟨e, -⟩ | ⟨e, c, hc, hv⟩ | ⟨e, -⟩
  · exact absurd e hw0
  · rw [hv, nI_clamp (by have := hc.1; omega)]
    exact h c hc
  · exact absurd e hw
theorem bX11_worked_0 {G : Gl} {d : Nat} {X : Sh} {M : Mm} {Q : Mm → Int32 → Prop} {a : Nat} {x1 : Int32} (hS : Sh10 X a) (h : Wn G m_X11_worked (d + 1) 4 [(0, .ref a), (1, .int x1), (2, .int 0), (3, .int 0)] [] X M Q) : Wn G m_X11_worked (d + 1) 0 [(0, .ref a), (1, .int x1)] [] X M Q := by
  refine wp_iconst (v := 0) dX11_worked_0 rfl ?_
  refine wp_istore_n (lo2 := [(2, .int _), (0, .ref _), (1, .int _)]) dX11_worked_1 rfl (by decide) rfl ?_
  refine wp_iconst (v := 0) dX11_worked_2 rfl ?_
  refine wp_istore_n (lo2 := [(3, .int _), (2, .int _), (0, .ref _), (1, .int _)]) dX11_worked_3 rfl (by decide) rfl ?_
  exact Wp.sub [2, 3, 1, 0] rfl h
theorem bX11_worked_4 {G : Gl} {d : Nat} {X : Sh} {M : Mm} {Q : Mm → Int32 → Prop} {a : Nat} {x1 : Int32} {x2 : Int32} {x3 : Int32} (hS : Sh10 X a) (h : (∃ j1 : Nat, ((340 + 200 * x1) + 2) = nI j1 ∧ j1 < 2950 ∧ (((mI M (a + 1) j1) ≤ x3 → Q M (mI M (a + 19) 0)) ∧ (¬ ((mI M (a + 1) j1) ≤ x3) → (∃ j5 : Nat, (((340 + 200 * x1) + 4) + (2 * x3)) = nI j5 ∧ j5 < 2950 ∧ (∀ v8 : Int32, v8 = (mI M (a + 1) j5) → (∃ j9 : Nat, ((((340 + 200 * x1) + 4) + (2 * x3)) + 1) = nI j9 ∧ j9 < 2950 ∧ (∀ v12 : Int32, v12 = (mI M (a + 1) j9) → ((v8 = 2 → ((¬ (v12 = 33) → (∃ j15 : Nat, (x2 + (-1) - 1) = nI j15 ∧ j15 < 100 ∧ (∃ j18 : Nat, x2 + (-1) = nI j18 ∧ j18 < 100 ∧ (∀ M21 : Mm, M21 = sI M (a + 19) j15 (g_join v12 (mI M (a + 19) j15) (mI M (a + 19) j18)) → Wn G m_X11_worked (d + 1) 4 [(0, .ref a), (1, .int x1), (2, .int (x2 + (-1))), (3, .int (x3 + 1))] [] X M21 Q)))) ∧ (v12 = 33 → (∃ j22 : Nat, (x2 - 1) = nI j22 ∧ j22 < 100 ∧ (∀ M27 : Mm, M27 = sI M (a + 19) j22 (if (mI M (a + 19) j22) = 0 then 1 else 0) → Wn G m_X11_worked (d + 1) 4 [(0, .ref a), (1, .int x1), (2, .int x2), (3, .int (x3 + 1))] [] X M27 Q))))) ∧ (¬ (v8 = 2) → ((¬ (v8 = 0) → (∃ j29 : Nat, v12 = nI j29 ∧ j29 < 128 ∧ (∃ j32 : Nat, x2 = nI j32 ∧ j32 < 100 ∧ (∀ M35 : Mm, M35 = sI M (a + 19) j32 (mI M (a + 18) j29) → Wn G m_X11_worked (d + 1) 4 [(0, .ref a), (1, .int x1), (2, .int (x2 + 1)), (3, .int (x3 + 1))] [] X M35 Q)))) ∧ (v8 = 0 → (∃ j36 : Nat, x2 = nI j36 ∧ j36 < 100 ∧ (∀ M39 : Mm, M39 = sI M (a + 19) j36 v12 → Wn G m_X11_worked (d + 1) 4 [(0, .ref a), (1, .int x1), (2, .int (x2 + 1)), (3, .int (x3 + 1))] [] X M39 Q)))))))))))))) : Wn G m_X11_worked (d + 1) 4 [(0, .ref a), (1, .int x1), (2, .int x2), (3, .int x3)] [] X M Q := by
  refine wp_iload_n 3 dX11_worked_4 rfl rfl ?_
  refine wp_aload_n 0 dX11_worked_5 rfl rfl ?_
  refine wp_getR dX11_worked_6 fl_RX11_7 rfl (sh10_K hS) (sh10_F_s hS) ?_
  refine wp_aload_n 0 dX11_worked_9 rfl rfl ?_
  refine wp_iload_n 1 dX11_worked_10 rfl rfl ?_
  refine wp_cvip dX11_worked_11 ck_RX11_300 (sh10_K hS) (as := [.int x1]) rfl rfl (Nat.le_of_ble_eq_true rfl) (cp_X11_textAt G d X M a x1 hS) ?_
  refine wp_iconst (v := 2) dX11_worked_14 rfl ?_
  refine wp_iadd dX11_worked_15 ?_
  obtain ⟨j1, o2, o3, h⟩ := h
  refine wp_iald (n := 2950) dX11_worked_16 (sh10_K_s hS) (sh10_N_s hS) (by decide) o2 o3 ?_
  refine wp_icmp_ge (tgt := 163) dX11_worked_17 (by decide) (fun c4 => ?_) (fun c4 => ?_)
  · replace h := h.1 c4
    refine wp_aload_n 0 dX11_worked_163 rfl rfl ?_
    refine wp_getR dX11_worked_164 fl_RX11_65 rfl (sh10_K hS) (sh10_F_pile hS) ?_
    refine wp_iconst (v := 0) dX11_worked_167 rfl ?_
    refine wp_iald (n := 100) dX11_worked_168 (sh10_K_pile hS) (sh10_N_pile hS) (by decide) rfl (by decide) ?_
    exact wn_iret dX11_worked_169 rfl h
  · replace h := h.2 c4
    refine wp_aload_n 0 dX11_worked_20 rfl rfl ?_
    refine wp_getR dX11_worked_21 fl_RX11_7 rfl (sh10_K hS) (sh10_F_s hS) ?_
    refine wp_aload_n 0 dX11_worked_24 rfl rfl ?_
    refine wp_iload_n 1 dX11_worked_25 rfl rfl ?_
    refine wp_cvip dX11_worked_26 ck_RX11_300 (sh10_K hS) (as := [.int x1]) rfl rfl (Nat.le_of_ble_eq_true rfl) (cp_X11_textAt G d X M a x1 hS) ?_
    refine wp_iconst (v := 4) dX11_worked_29 rfl ?_
    refine wp_iadd dX11_worked_30 ?_
    refine wp_iconst (v := 2) dX11_worked_31 rfl ?_
    refine wp_iload_n 3 dX11_worked_32 rfl rfl ?_
    refine wp_imul dX11_worked_33 ?_
    refine wp_iadd dX11_worked_34 ?_
    obtain ⟨j5, o6, o7, h⟩ := h
    refine wp_iald (n := 2950) dX11_worked_35 (sh10_K_s hS) (sh10_N_s hS) (by decide) o6 o7 ?_
    refine wp_topi (fun v8 ev8 => ?_)
    replace h := h v8 ev8
    refine wp_istore (lo2 := [(4, .int _), (0, .ref _), (1, .int _), (2, .int _), (3, .int _)]) dX11_worked_36 (by decide) rfl ?_
    refine wp_aload_n 1 dX11_worked_38 rfl rfl ?_
    refine wp_getR dX11_worked_39 fl_RX11_7 rfl (sh10_K hS) (sh10_F_s hS) ?_
    refine wp_aload_n 1 dX11_worked_42 rfl rfl ?_
    refine wp_iload_n 2 dX11_worked_43 rfl rfl ?_
    refine wp_cvip dX11_worked_44 ck_RX11_300 (sh10_K hS) (as := [.int x1]) rfl rfl (Nat.le_of_ble_eq_true rfl) (cp_X11_textAt G d X M a x1 hS) ?_
    refine wp_iconst (v := 4) dX11_worked_47 rfl ?_
    refine wp_iadd dX11_worked_48 ?_
    refine wp_iconst (v := 2) dX11_worked_49 rfl ?_
    refine wp_iload_n 4 dX11_worked_50 rfl rfl ?_
    refine wp_imul dX11_worked_51 ?_
    refine wp_iadd dX11_worked_52 ?_
    refine wp_iconst (v := 1) dX11_worked_53 rfl ?_
    refine wp_iadd dX11_worked_54 ?_
    obtain ⟨j9, o10, o11, h⟩ := h
    refine wp_iald (n := 2950) dX11_worked_55 (sh10_K_s hS) (sh10_N_s hS) (by decide) o10 o11 ?_
    refine wp_topi (fun v12 ev12 => ?_)
    replace h := h v12 ev12
    refine wp_istore (lo2 := [(5, .int _), (4, .int _), (0, .ref _), (1, .int _), (2, .int _), (3, .int _)]) dX11_worked_56 (by decide) rfl ?_
    refine wp_iload 1 dX11_worked_58 rfl ?_
    refine wp_iconst (v := 2) dX11_worked_60 rfl ?_
    refine wp_icmp_eq (tgt := 93) dX11_worked_61 (by decide) (fun c13 => ?_) (fun c13 => ?_)
    · replace h := h.1 c13
      refine wp_iload 0 dX11_worked_93 rfl ?_
      refine wp_bipush (v := 33) dX11_worked_95 rfl ?_
      refine wp_icmp_ne (tgt := 127) dX11_worked_97 (by decide) (fun c14 => ?_) (fun c14 => ?_)
      · replace h := h.1 c14
        refine wp_iinc (v := x2 + (-1)) (lo2 := [(2, .int _), (5, .int _), (4, .int _), (0, .ref _), (1, .int _), (3, .int _)]) dX11_worked_127 (q := 4) rfl rfl (by decide) rfl ?_
        refine wp_aload_n 3 dX11_worked_130 rfl rfl ?_
        refine wp_getR dX11_worked_131 fl_RX11_65 rfl (sh10_K hS) (sh10_F_pile hS) ?_
        refine wp_iload_n 0 dX11_worked_134 rfl rfl ?_
        refine wp_iconst (v := 1) dX11_worked_135 rfl ?_
        refine wp_isub dX11_worked_136 ?_
        refine wp_iload 1 dX11_worked_137 rfl ?_
        refine wp_aload_n 3 dX11_worked_139 rfl rfl ?_
        refine wp_getR dX11_worked_140 fl_RX11_65 rfl (sh10_K hS) (sh10_F_pile hS) ?_
        refine wp_iload_n 0 dX11_worked_143 rfl rfl ?_
        refine wp_iconst (v := 1) dX11_worked_144 rfl ?_
        refine wp_isub dX11_worked_145 ?_
        obtain ⟨j15, o16, o17, h⟩ := h
        refine wp_iald (n := 100) dX11_worked_146 (sh10_K_pile hS) (sh10_N_pile hS) (by decide) o16 o17 ?_
        refine wp_aload_n 3 dX11_worked_147 rfl rfl ?_
        refine wp_getR dX11_worked_148 fl_RX11_65 rfl (sh10_K hS) (sh10_F_pile hS) ?_
        refine wp_iload_n 0 dX11_worked_151 rfl rfl ?_
        obtain ⟨j18, o19, o20, h⟩ := h
        refine wp_iald (n := 100) dX11_worked_152 (sh10_K_pile hS) (sh10_N_pile hS) (by decide) o19 o20 ?_
        refine wp_csip dX11_worked_153 ck_RX11_312 rfl (as := [.int v12, .int ((mI M (a + 19) j15)), .int ((mI M (a + 19) j18))]) rfl rfl (Nat.le_of_ble_eq_true rfl) (cp_X11_joined G d X M v12 (mI M (a + 19) j15) (mI M (a + 19) j18)) ?_
        refine wp_iast (n := 100) dX11_worked_156 (sh10_K_pile hS) (sh10_N_pile hS) (by decide) o16 o17 ?_
        refine wp_nm (fun M21 eM21 => ?_)
        replace h := h M21 eM21
        refine wp_iinc (v := x3 + 1) (lo2 := [(3, .int _), (2, .int _), (5, .int _), (4, .int _), (0, .ref _), (1, .int _)]) dX11_worked_157 (q := 5) rfl rfl (by decide) rfl ?_
        refine wp_goto (tgt := 4) dX11_worked_160 (by decide) ?_
        exact Wp.sub [4, 5, 1, 0] rfl h
      · replace h := h.2 c14
        refine wp_aload_n 2 dX11_worked_100 rfl rfl ?_
        refine wp_getR dX11_worked_101 fl_RX11_65 rfl (sh10_K hS) (sh10_F_pile hS) ?_
        refine wp_iload_n 4 dX11_worked_104 rfl rfl ?_
        refine wp_iconst (v := 1) dX11_worked_105 rfl ?_
        refine wp_isub dX11_worked_106 ?_
        refine wp_aload_n 2 dX11_worked_107 rfl rfl ?_
        refine wp_getR dX11_worked_108 fl_RX11_65 rfl (sh10_K hS) (sh10_F_pile hS) ?_
        refine wp_iload_n 4 dX11_worked_111 rfl rfl ?_
        refine wp_iconst (v := 1) dX11_worked_112 rfl ?_
        refine wp_isub dX11_worked_113 ?_
        obtain ⟨j22, o23, o24, h⟩ := h
        refine wp_iald (n := 100) dX11_worked_114 (sh10_K_pile hS) (sh10_N_pile hS) (by decide) o23 o24 ?_
        have K26 : Wp G m_X11_worked (d + 1) 0 0 0 0 123 [(5, .int v12), (4, .int v8), (0, .ref a), (1, .int x1), (2, .int x2), (3, .int x3)] [.int (if (mI M (a + 19) j22) = 0 then 1 else 0), .int ((x2 - 1)), .ref (a + 19)] X M (fun X2 M2 v => X2 = X ∧ ∃ x, v = some (.int x) ∧ Q M2 x) := by
          refine wp_iast (n := 100) dX11_worked_123 (sh10_K_pile hS) (sh10_N_pile hS) (by decide) o23 o24 ?_
          refine wp_nm (fun M27 eM27 => ?_)
          replace h := h M27 eM27
          refine wp_goto (tgt := 157) dX11_worked_124 (by decide) ?_
          refine wp_iinc (v := x3 + 1) (lo2 := [(3, .int _), (5, .int _), (4, .int _), (0, .ref _), (1, .int _), (2, .int _)]) dX11_worked_157 (q := 5) rfl rfl (by decide) rfl ?_
          refine wp_goto (tgt := 4) dX11_worked_160 (by decide) ?_
          exact Wp.sub [3, 4, 5, 0] rfl h
        refine wp_if_ne (tgt := 122) dX11_worked_115 (by decide) (fun c25 => ?_) (fun c25 => ?_)
        · refine wp_iconst (v := 0) dX11_worked_122 rfl ?_
          rw [if_neg c25] at K26
          exact K26
        · refine wp_iconst (v := 1) dX11_worked_118 rfl ?_
          refine wp_goto (tgt := 123) dX11_worked_119 (by decide) ?_
          rw [if_pos c25] at K26
          exact K26
    · replace h := h.2 c13
      refine wp_aload_n 2 dX11_worked_64 rfl rfl ?_
      refine wp_getR dX11_worked_65 fl_RX11_65 rfl (sh10_K hS) (sh10_F_pile hS) ?_
      refine wp_iload_n 4 dX11_worked_68 rfl rfl ?_
      refine wp_iload 1 dX11_worked_69 rfl ?_
      refine wp_if_ne (tgt := 79) dX11_worked_71 (by decide) (fun c28 => ?_) (fun c28 => ?_)
      · replace h := h.1 c28
        refine wp_aload_n 2 dX11_worked_79 rfl rfl ?_
        refine wp_getR dX11_worked_80 fl_RX11_62 rfl (sh10_K hS) (sh10_F_named hS) ?_
        refine wp_iload 0 dX11_worked_83 rfl ?_
        obtain ⟨j29, o30, o31, h⟩ := h
        refine wp_iald (n := 128) dX11_worked_85 (sh10_K_named hS) (sh10_N_named hS) (by decide) o30 o31 ?_
        obtain ⟨j32, o33, o34, h⟩ := h
        refine wp_iast (n := 100) dX11_worked_86 (sh10_K_pile hS) (sh10_N_pile hS) (by decide) o33 o34 ?_
        refine wp_nm (fun M35 eM35 => ?_)
        replace h := h M35 eM35
        refine wp_iinc (v := x2 + 1) (lo2 := [(2, .int _), (5, .int _), (4, .int _), (0, .ref _), (1, .int _), (3, .int _)]) dX11_worked_87 (q := 4) rfl rfl (by decide) rfl ?_
        refine wp_goto (tgt := 157) dX11_worked_90 (by decide) ?_
        refine wp_iinc (v := x3 + 1) (lo2 := [(3, .int _), (2, .int _), (5, .int _), (4, .int _), (0, .ref _), (1, .int _)]) dX11_worked_157 (q := 5) rfl rfl (by decide) rfl ?_
        refine wp_goto (tgt := 4) dX11_worked_160 (by decide) ?_
        exact Wp.sub [4, 5, 1, 0] rfl h
      · replace h := h.2 c28
        refine wp_iload 0 dX11_worked_74 rfl ?_
        refine wp_goto (tgt := 86) dX11_worked_76 (by decide) ?_
        obtain ⟨j36, o37, o38, h⟩ := h
        refine wp_iast (n := 100) dX11_worked_86 (sh10_K_pile hS) (sh10_N_pile hS) (by decide) o37 o38 ?_
        refine wp_nm (fun M39 eM39 => ?_)
        replace h := h M39 eM39
        refine wp_iinc (v := x2 + 1) (lo2 := [(2, .int _), (5, .int _), (4, .int _), (0, .ref _), (1, .int _), (3, .int _)]) dX11_worked_87 (q := 4) rfl rfl (by decide) rfl ?_
        refine wp_goto (tgt := 157) dX11_worked_90 (by decide) ?_
        refine wp_iinc (v := x3 + 1) (lo2 := [(3, .int _), (2, .int _), (5, .int _), (4, .int _), (0, .ref _), (1, .int _)]) dX11_worked_157 (q := 5) rfl rfl (by decide) rfl ?_
        refine wp_goto (tgt := 4) dX11_worked_160 (by decide) ?_
        exact Wp.sub [4, 5, 1, 0] rfl h
/-- the pile's first places are the stack, its head the last -/
def PileIs (p : Nat → Int32) (st : List Int32) : Prop := ∀ i, i < st.length → p i = st.reverse.getD i 0
theorem pile_top {p : Nat → Int32} {x : Int32} {s : List Int32} (h : PileIs p (x :: s)) : p s.length = x := by
  have := h s.length (by simp)
  rw [this]
  simp [List.getD_eq_getElem?_getD]
theorem pile_tail {p : Nat → Int32} {x : Int32} {s : List Int32} (h : PileIs p (x :: s)) : PileIs p s := by
  intro i hi
  rw [h i (by simp; omega)]
  simp only [List.reverse_cons, List.getD_eq_getElem?_getD]
  rw [List.getElem?_append_left (by simpa using hi)]
theorem pile_push {p : Nat → Int32} {x : Int32} {s : List Int32} (h : PileIs p s) : PileIs (upd p s.length x) (x :: s) := by
  intro i hi
  simp only [List.reverse_cons, List.getD_eq_getElem?_getD, upd]
  by_cases e : i = s.length
  · subst e
    simp
  · have hi2 : i < s.length := by
      simp at hi
      omega
    rw [if_neg e, List.getElem?_append_left (by simpa using hi2), h i hi2, List.getD_eq_getElem?_getD]
theorem cl_worked (G : Gl) (d : Nat) {X : Sh} {a t n : Nat} {key : Int32} {Q : Mm → Int32 → Prop} (hS : Sh10 X a) (ht : t < 12) (M0 : Mm) (hn : mI M0 (a + 1) (342 + 200 * t) = nI n) (h96 : n ≤ 96) (hd : dp_run (mI M0 (a + 1)) (344 + 200 * t) n = some 1)
    (hok : ∀ k, k < n → st_ok key (mI M0 (a + 1) (344 + 200 * t + 2 * k)) (mI M0 (a + 1) (344 + 200 * t + 2 * k + 1)))
    (hq : ∀ M2, (∀ b, b ≠ a + 19 → mI M2 b = mI M0 b) → mR M2 = mR M0 → Q M2 (s_worth (mI M0 (a + 1)) t (mI M0 (a + 18)))) :
    ∀ (m k : Nat) (M : Mm), k + m = n → (∀ b, b ≠ a + 19 → mI M b = mI M0 b) → mR M = mR M0 → PileIs (mI M (a + 19)) (ev_run (mI M0 (a + 18)) (mI M0 (a + 1)) (344 + 200 * t) k) →
      Wn G m_X11_worked (d + 1) 4 [(0, .ref a), (1, .int (nI t)), (2, .int (nI (ev_run (mI M0 (a + 18)) (mI M0 (a + 1)) (344 + 200 * t) k).length)), (3, .int (nI k))] [] X M Q
  | 0, k, M, h, h1, h2, hp => by
    have hk : k = n := h
    subst hk
    have e1 : mI M (a + 1) = mI M0 (a + 1) := h1 _ (by omega)
    have hlen := ev_len (env := mI M0 (a + 18)) hd
    refine bX11_worked_4 hS ⟨342 + 200 * t, (by first | rfl | (simp only [n_lit, nI_add, pk_mul]; done) | (simp only [n_lit, nI_add, pk_mul]; exact congrArg nI (by omega))), by omega, fun _ => ?_, fun h => absurd (by rw [e1, hn]; exact Int32.le_refl _) h⟩
    have e2 : mI M (a + 19) 0 = s_worth (mI M0 (a + 1)) t (mI M0 (a + 18)) := by
      unfold s_worth
      rw [hn, nI_clamp (by omega)]
      match hl : ev_run (mI M0 (a + 18)) (mI M0 (a + 1)) (344 + 200 * t) k, hlen with
      | [], hlen => simp at hlen
      | x :: s, hlen =>
        have hs : s = [] := List.length_eq_zero_iff.mp (by simpa using hlen)
        subst hs
        rw [hl] at hp
        exact pile_top hp
    rw [e2]
    exact hq M h1 h2
  | m + 1, k, M, h, h1, h2, hp => by
    have e1 : mI M (a + 1) = mI M0 (a + 1) := h1 _ (by omega)
    have e18 : mI M (a + 18) = mI M0 (a + 18) := h1 _ (by omega)
    obtain ⟨e, he⟩ := dp_prefix (n := m) (m := k + 1) (by rw [show k + 1 + m = n by omega]; exact hd)
    obtain ⟨e0, he0⟩ := dp_prefix (n := m + 1) (m := k) (by rw [h]; exact hd)
    have hle := dp_le he0
    have hlen := ev_len (env := mI M0 (a + 18)) he0
    have he2 : (dp_run (mI M0 (a + 1)) (344 + 200 * t) k).bind (dp_step (mI M0 (a + 1) (344 + 200 * t + 2 * k)) (mI M0 (a + 1) (344 + 200 * t + 2 * k + 1))) = some e := he
    rw [he0, Option.bind_some] at he2
    have hstep : ev_run (mI M0 (a + 18)) (mI M0 (a + 1)) (344 + 200 * t) (k + 1) = ev_step (mI M0 (a + 18)) (mI M0 (a + 1) (344 + 200 * t + 2 * k)) (mI M0 (a + 1) (344 + 200 * t + 2 * k + 1)) (ev_run (mI M0 (a + 18)) (mI M0 (a + 1)) (344 + 200 * t) k) := rfl
    have key_ok := hok k (by omega)
    have go : ∀ M2, mR M2 = mR M → (∀ b, b ≠ a + 19 → mI M2 b = mI M b) → PileIs (mI M2 (a + 19)) (ev_run (mI M0 (a + 18)) (mI M0 (a + 1)) (344 + 200 * t) (k + 1)) →
        Wn G m_X11_worked (d + 1) 4 [(0, .ref a), (1, .int (nI t)), (2, .int (nI (ev_run (mI M0 (a + 18)) (mI M0 (a + 1)) (344 + 200 * t) (k + 1)).length)), (3, .int (nI k + 1))] [] X M2 Q := fun M2 g1 g2 g3 => by
      rw [nI_1]
      exact cl_worked G d hS ht M0 hn h96 hd hok hq m (k + 1) M2 (by omega) (fun b hb => (g2 b hb).trans (h1 b hb)) (g1.trans h2) g3
    generalize hL : ev_run (mI M0 (a + 18)) (mI M0 (a + 1)) (344 + 200 * t) k = L at hp hlen hstep
    refine bX11_worked_4 hS ⟨342 + 200 * t, (by first | rfl | (simp only [n_lit, nI_add, pk_mul]; done) | (simp only [n_lit, nI_add, pk_mul]; exact congrArg nI (by omega))), by omega, fun h3 => ?_, fun _ => ⟨344 + 200 * t + 2 * k, (by first | rfl | (simp only [n_lit, nI_add, pk_mul]; done) | (simp only [n_lit, nI_add, pk_mul]; exact congrArg nI (by omega))), by omega, ?_⟩⟩
    · rw [e1, hn] at h3
      have := (nI_leI (by omega) (by omega)).mp h3
      omega
    intro v8 e8
    refine ⟨344 + 200 * t + 2 * k + 1, (by first | rfl | (simp only [n_lit, nI_add, pk_mul]; done) | (simp only [n_lit, nI_add, pk_mul]; exact congrArg nI (by omega))), by omega, ?_⟩
    intro v12 e12
    rw [e1] at e8 e12
    rw [← e8, ← e12] at he2 hstep key_ok
    have off : ∀ (j : Nat) (x : Int32) (b : Nat), b ≠ a + 19 → mI (sI M (a + 19) j x) b = mI M b := fun j x b hb => by rw [mI_sI, up2_off _ _ _ hb]
    refine ⟨fun hw => ⟨fun hv => ?_, fun hv => ?_⟩, fun hw => ⟨fun hw0 => ?_, fun hw0 => ?_⟩⟩
    · simp only [dp_step, if_pos hw, if_neg hv] at he2
      split at he2
      · match L, hlen, hp, hstep with
        | [], hlen, _, _ => simp at hlen; omega
        | [x], hlen, _, _ => simp at hlen; omega
        | y :: x :: s, hlen, hp, hstep =>
          simp only [ev_step, if_pos hw, if_neg hv] at hstep
          refine ⟨s.length, ?_, by simp at hlen; omega, s.length + 1, ?_, by simp at hlen; omega, ?_⟩
          · show nI (s.length + 1 + 1) + (-1) - 1 = _
            rw [pk_m1, nI_pred]
          · exact pk_m1 _
          · intro M21 e21
            have hx := pile_top (pile_tail hp)
            have hy := pile_top hp
            have hy' : mI M (a + 19) (s.length + 1) = y := hy
            rw [hx, hy'] at e21
            have hg := go M21 (by rw [e21]; rfl) (fun b hb => by rw [e21]; exact off _ _ b hb) (by rw [hstep, e21, mI_sI, up2_row]; exact pile_push (pile_tail (pile_tail hp)))
            rw [hstep] at hg
            have e5 : nI (y :: x :: s).length + (-1) = nI (g_join v12 x y :: s).length := pk_m1 _
            rw [e5]
            exact hg
      · cases he2
    · simp only [dp_step, if_pos hw, if_pos hv] at he2
      split at he2
      · match L, hlen, hp, hstep with
        | [], hlen, _, _ => simp at hlen; omega
        | x :: s, hlen, hp, hstep =>
          simp only [ev_step, if_pos hw, if_pos hv] at hstep
          refine ⟨s.length, nI_pred _, by simp at hlen; omega, ?_⟩
          intro M27 e27
          rw [pile_top hp] at e27
          have hg := go M27 (by rw [e27]; rfl) (fun b hb => by rw [e27]; exact off _ _ b hb) (by rw [hstep, e27, mI_sI, up2_row]; exact pile_push (pile_tail hp))
          rw [hstep] at hg
          exact hg
      · cases he2
    · simp only [ev_step, if_neg hw, if_neg hw0] at hstep
      rcases key_ok with ⟨g, -⟩ | ⟨g, c, hc, hv⟩ | ⟨g, -⟩
      · exact absurd g hw0
      · have hc1 := hc.1
        refine ⟨c, hv, hc1, L.length, rfl, by omega, ?_⟩
        intro M35 e35
        rw [e18] at e35
        rw [hv, nI_clamp (by omega)] at hstep
        have hg := go M35 (by rw [e35]; rfl) (fun b hb => by rw [e35]; exact off _ _ b hb) (by rw [hstep, e35, mI_sI, up2_row]; exact pile_push hp)
        rw [hstep] at hg
        rw [nI_1]
        exact hg
      · exact absurd g hw
    · simp only [ev_step, if_neg hw, if_pos hw0] at hstep
      refine ⟨L.length, rfl, by omega, ?_⟩
      intro M39 e39
      have hg := go M39 (by rw [e39]; rfl) (fun b hb => by rw [e39]; exact off _ _ b hb) (by rw [hstep, e39, mI_sI, up2_row]; exact pile_push hp)
      rw [hstep] at hg
      rw [nI_1]
      exact hg
theorem cp_X11_worked (G : Gl) (d : Nat) (hd : 1 ≤ d) (X : Sh) (M : Mm) (a t : Nat) (hS : Sh10 X a) (ht : t < 12) (hT : T_ok (mI M (a + 1)) t) : Cn G m_X11_worked d [.ref a, .int (nI t)] X M (fun M2 x => x = s_worth (mI M (a + 1)) t (mI M (a + 18)) ∧ (∀ b, b ≠ a + 19 → mI M2 b = mI M b) ∧ mR M2 = mR M) := by
  obtain ⟨d, rfl⟩ : ∃ d1, d = d1 + 1 := ⟨d - 1, by omega⟩
  obtain ⟨n, hn, h1, h2, h3, h4⟩ := hT
  refine Cn.of (by decide) (Nat.le_of_ble_eq_true rfl) (bX11_worked_0 hS ?_)
  exact cl_worked G d hS ht M hn h2 h3 h4 (fun M2 g1 g2 => ⟨rfl, g1, g2⟩) n 0 M (by omega) (fun _ _ => rfl) rfl (fun i hi => absurd hi (by simp [ev_run]))
