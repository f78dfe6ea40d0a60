/-! the law's loop -/
section LAW
variable {G : Gl} {y : Md} {d mc ms ce sl pc : Nat} {lo : List (Nat × Value)} {st : List Value} {X : Sh} {M : Mm} {Q : Sh → Mm → Option Value → Prop}
def scr (G : Gl) (j : Nat) : Int32 := Int32.ofNat (G.2 (24 + j))
theorem wp_scl (hd : decode y.2.1 pc = .ok (.arraylength, 1)) (kk : Wp G y d mc ms ce sl (pc + 1) lo (.int (nI (G.2 23)) :: st) X M Q) : Wp G y d mc ms ce sl pc lo (.ref (G.2 22) :: st) X M Q := by
  intro p l e s m args below meth c H locs ls hC hR hz hS hl
  have hX := hC.2.2.2.2.2.2.2.2.1.2.2.2.2.2.2.2
  have hb : G.2 22 < s.heap.size := by
    obtain ⟨_, g, _⟩ := hX.2
    exact (Array.getElem?_eq_some_iff.mp g).1
  exact va_slen hC.1 hC.2.1 hX.2 hb (by have := hX.1; show ¬ G.2 7 ≤ G.2 22; omega) hS hd (kk p l e s m args below meth c H locs ls hC hR hz hS hl)
theorem wp_scd {i : Int32} {j : Nat} (hd : decode y.2.1 pc = .ok (.iaload, 1)) (hi : i = nI j) (hj : j < G.2 23) (hL : G.2 23 ≤ 3072) (kk : Wp G y d mc ms ce sl (pc + 1) lo (.int (scr G j) :: st) X M Q) : Wp G y d mc ms ce sl pc lo (.int i :: .ref (G.2 22) :: st) X M Q := by
  intro p l e s m args below meth c H locs ls hC hR hz hS hl
  have hX := hC.2.2.2.2.2.2.2.2.1.2.2.2.2.2.2.2
  have hb : G.2 22 < s.heap.size := by
    obtain ⟨_, g, _⟩ := hX.2
    exact (Array.getElem?_eq_some_iff.mp g).1
  subst hi
  have hin : vp_in (nI j) (G.2 23) := nI_in hj (by omega)
  refine va_sld hC.1 hC.2.1 hX.2 hb (by have := hX.1; show ¬ G.2 7 ≤ G.2 22; omega) hS hin hd ?_
  rw [nI_clamp (by omega)]
  exact kk p l e s m args below meth c H locs ls hC hR hz hS hl
theorem wp_cvL {y2 : Md} {n ci idx b : Nat} {as rest : List Value} {Q1 : Mm → Int32 → Prop} (hd : decode y.2.1 pc = .ok (.invokevirtual idx, 3)) (hw : CKv y.1.cls idx y2 n ci) (hb : xK X b = ci) (hn : as.length = n) (hst : st = as.reverse ++ .ref b :: rest) (hc8 : (rest.map fun v => v.category).sum ≤ 8) (h1 : ce ≤ mc) (h2 : sl ≤ ms) (hM : Cn G y2 d (.ref b :: as) X M Q1)
    (kk : ∀ M2 x, Q1 M2 x → Wp G y (d + 1) mc ms ce sl (pc + 3) lo (.int x :: rest) X M2 Q) : Wp G y (d + 1) mc ms ce sl pc lo st X M Q :=
  wp_callV hd hw hb hn hst hc8 h1 h2 hM (fun _ _ _ h => by rw [h.1]; rfl) (fun X2 M2 v h => by obtain ⟨rfl, x, rfl, h⟩ := h; exact kk M2 x h)
end LAW
theorem k0_X10_bin : CK0 m_X10_bin 3 := ⟨(gw_1 (List.mem_of_getElem? (l := tables_1_1) (i := 1) (by decide +kernel)) rfl), (gw_2 (List.mem_of_getElem? (l := tables_1_2) (i := 164) (by decide +kernel)) rfl), ⟨by decide +kernel, by decide +kernel, by decide +kernel⟩, by decide⟩
theorem cw_13 : CKv "BurdenHouseLaw" 13 m_X10_bin 3 9 := ⟨k0_X10_bin, (gw_2 (List.mem_of_getElem? (l := tables_1_2) (i := 161) (by decide +kernel)) rfl), (gw_2 (List.mem_of_getElem? (l := tables_1_2) (i := 162) (by decide +kernel)) rfl), (gw_2 (List.mem_of_getElem? (l := tables_1_2) (i := 163) (by decide +kernel)) rfl), by decide, _, rfl⟩
theorem k0_X11_bin : CK0 m_X11_bin 3 := ⟨(gw_1 (List.mem_of_getElem? (l := tables_1_1) (i := 11) (by decide +kernel)) rfl), (gw_6 (List.mem_of_getElem? (l := tables_1_6) (i := 32) (by decide +kernel)) rfl), ⟨by decide +kernel, by decide +kernel, by decide +kernel⟩, by decide⟩
theorem cw_17 : CKv "BurdenHouseLaw" 17 m_X11_bin 3 10 := ⟨k0_X11_bin, (gw_6 (List.mem_of_getElem? (l := tables_1_6) (i := 29) (by decide +kernel)) rfl), (gw_6 (List.mem_of_getElem? (l := tables_1_6) (i := 30) (by decide +kernel)) rfl), (gw_6 (List.mem_of_getElem? (l := tables_1_6) (i := 31) (by decide +kernel)) rfl), by decide, _, rfl⟩
theorem lc_0 (G : Gl) (d : Nat) (hd : 70 ≤ d) {nm : String} {X : Sh} {M : Mm} {b m i mc ms ce sl : Nat} {Q : Sh → Mm → Option Value → Prop} (hS : Sh9 X b) (hM : Sh10 X m) (hbm : b + 266 ≤ m) (hL : G.2 23 ≤ 3072) (hi : i + 6 ≤ G.2 23) (h1 : ce ≤ mc) (h2 : sl ≤ ms) (hs : Sim M b m) (kk : ∀ M2, Sim M2 b m → Wp G (mLaw nm) (d + 1) mc ms ce sl 1465 [(3, .int (nI i)), (2, .ref m), (1, .ref b), (0, .ref (G.2 22))] [] X M2 Q) : Wp G (mLaw nm) (d + 1) mc ms ce sl 212 [(3, .int (nI i)), (2, .ref m), (1, .ref b), (0, .ref (G.2 22))] [] X M Q := by
  refine wp_aload_n 2 eL_212 rfl rfl ?_
  refine wp_aload_n 3 eL_213 rfl rfl ?_
  refine wp_iload_n 0 eL_214 rfl rfl ?_
  refine wp_iconst (v := 1) eL_215 rfl ?_
  refine wp_iadd eL_216 ?_
  refine wp_scd (j := i + 1) eL_217 (by rw [n_lit 1, nI_add]) (by omega) hL ?_
  refine wp_aload_n 3 eL_218 rfl rfl ?_
  refine wp_iload_n 0 eL_219 rfl rfl ?_
  refine wp_iconst (v := 2) eL_220 rfl ?_
  refine wp_iadd eL_221 ?_
  refine wp_scd (j := i + 2) eL_222 (by rw [n_lit 2, nI_add]) (by omega) hL ?_
  refine wp_aload_n 3 eL_223 rfl rfl ?_
  refine wp_iload_n 0 eL_224 rfl rfl ?_
  refine wp_iconst (v := 3) eL_225 rfl ?_
  refine wp_iadd eL_226 ?_
  refine wp_scd (j := i + 3) eL_227 (by rw [n_lit 3, nI_add]) (by omega) hL ?_
  refine wp_cvL (as := [.int (scr G (i + 1)), .int (scr G (i + 2)), .int (scr G (i + 3))]) eL_228 cw_13 (sh9_K hS) rfl rfl (Nat.le_of_ble_eq_true rfl) h1 h2 (case_bin G d (by omega) X b m hS hM hbm (scr G (i + 1)) (scr G (i + 2)) (scr G (i + 3)) M hs) (fun M1 r1 h => ?_)
  refine wp_aload_n 1 eL_231 rfl rfl ?_
  refine wp_aload_n 3 eL_232 rfl rfl ?_
  refine wp_iload_n 0 eL_233 rfl rfl ?_
  refine wp_iconst (v := 1) eL_234 rfl ?_
  refine wp_iadd eL_235 ?_
  refine wp_scd (j := i + 1) eL_236 (by rw [n_lit 1, nI_add]) (by omega) hL ?_
  refine wp_aload_n 3 eL_237 rfl rfl ?_
  refine wp_iload_n 0 eL_238 rfl rfl ?_
  refine wp_iconst (v := 2) eL_239 rfl ?_
  refine wp_iadd eL_240 ?_
  refine wp_scd (j := i + 2) eL_241 (by rw [n_lit 2, nI_add]) (by omega) hL ?_
  refine wp_aload_n 3 eL_242 rfl rfl ?_
  refine wp_iload_n 0 eL_243 rfl rfl ?_
  refine wp_iconst (v := 3) eL_244 rfl ?_
  refine wp_iadd eL_245 ?_
  refine wp_scd (j := i + 3) eL_246 (by rw [n_lit 3, nI_add]) (by omega) hL ?_
  refine wp_cvL (as := [.int (scr G (i + 1)), .int (scr G (i + 2)), .int (scr G (i + 3))]) eL_247 cw_17 (sh10_K hM) rfl rfl (Nat.le_of_ble_eq_true rfl) h1 h2 h (fun M2 r2 hq => ?_)
  obtain ⟨hr, hs2⟩ := hq
  refine wp_icmp_eq (tgt := 1465) eL_250 (by decide) (fun _ => kk M2 hs2) (fun q => absurd hr q)
theorem k0_X10_told : CK0 m_X10_told 2 := ⟨(gw_1 (List.mem_of_getElem? (l := tables_1_1) (i := 1) (by decide +kernel)) rfl), (gw_2 (List.mem_of_getElem? (l := tables_1_2) (i := 180) (by decide +kernel)) rfl), ⟨by decide +kernel, by decide +kernel, by decide +kernel⟩, by decide⟩
theorem cw_18 : CKv "BurdenHouseLaw" 18 m_X10_told 2 9 := ⟨k0_X10_told, (gw_2 (List.mem_of_getElem? (l := tables_1_2) (i := 177) (by decide +kernel)) rfl), (gw_2 (List.mem_of_getElem? (l := tables_1_2) (i := 178) (by decide +kernel)) rfl), (gw_2 (List.mem_of_getElem? (l := tables_1_2) (i := 179) (by decide +kernel)) rfl), by decide, _, rfl⟩
theorem k0_X11_told : CK0 m_X11_told 2 := ⟨(gw_1 (List.mem_of_getElem? (l := tables_1_1) (i := 11) (by decide +kernel)) rfl), (gw_6 (List.mem_of_getElem? (l := tables_1_6) (i := 47) (by decide +kernel)) rfl), ⟨by decide +kernel, by decide +kernel, by decide +kernel⟩, by decide⟩
theorem cw_22 : CKv "BurdenHouseLaw" 22 m_X11_told 2 10 := ⟨k0_X11_told, (gw_6 (List.mem_of_getElem? (l := tables_1_6) (i := 44) (by decide +kernel)) rfl), (gw_6 (List.mem_of_getElem? (l := tables_1_6) (i := 45) (by decide +kernel)) rfl), (gw_6 (List.mem_of_getElem? (l := tables_1_6) (i := 46) (by decide +kernel)) rfl), by decide, _, rfl⟩
theorem lc_1 (G : Gl) (d : Nat) (hd : 70 ≤ d) {nm : String} {X : Sh} {M : Mm} {b m i mc ms ce sl : Nat} {Q : Sh → Mm → Option Value → Prop} (hS : Sh9 X b) (hM : Sh10 X m) (hbm : b + 266 ≤ m) (hL : G.2 23 ≤ 3072) (hi : i + 6 ≤ G.2 23) (h1 : ce ≤ mc) (h2 : sl ≤ ms) (hs : Sim M b m) (kk : ∀ M2, Sim M2 b m → Wp G (mLaw nm) (d + 1) mc ms ce sl 1465 [(3, .int (nI i)), (2, .ref m), (1, .ref b), (0, .ref (G.2 22))] [] X M2 Q) : Wp G (mLaw nm) (d + 1) mc ms ce sl 255 [(3, .int (nI i)), (2, .ref m), (1, .ref b), (0, .ref (G.2 22))] [] X M Q := by
  refine wp_aload_n 2 eL_255 rfl rfl ?_
  refine wp_aload_n 3 eL_256 rfl rfl ?_
  refine wp_iload_n 0 eL_257 rfl rfl ?_
  refine wp_iconst (v := 1) eL_258 rfl ?_
  refine wp_iadd eL_259 ?_
  refine wp_scd (j := i + 1) eL_260 (by rw [n_lit 1, nI_add]) (by omega) hL ?_
  refine wp_aload_n 3 eL_261 rfl rfl ?_
  refine wp_iload_n 0 eL_262 rfl rfl ?_
  refine wp_iconst (v := 2) eL_263 rfl ?_
  refine wp_iadd eL_264 ?_
  refine wp_scd (j := i + 2) eL_265 (by rw [n_lit 2, nI_add]) (by omega) hL ?_
  refine wp_cvL (as := [.int (scr G (i + 1)), .int (scr G (i + 2))]) eL_266 cw_18 (sh9_K hS) rfl rfl (Nat.le_of_ble_eq_true rfl) h1 h2 (case_told G d (by omega) X b m hS hM (scr G (i + 1)) (scr G (i + 2)) M hs) (fun M1 r1 h => ?_)
  refine wp_aload_n 1 eL_269 rfl rfl ?_
  refine wp_aload_n 3 eL_270 rfl rfl ?_
  refine wp_iload_n 0 eL_271 rfl rfl ?_
  refine wp_iconst (v := 1) eL_272 rfl ?_
  refine wp_iadd eL_273 ?_
  refine wp_scd (j := i + 1) eL_274 (by rw [n_lit 1, nI_add]) (by omega) hL ?_
  refine wp_aload_n 3 eL_275 rfl rfl ?_
  refine wp_iload_n 0 eL_276 rfl rfl ?_
  refine wp_iconst (v := 2) eL_277 rfl ?_
  refine wp_iadd eL_278 ?_
  refine wp_scd (j := i + 2) eL_279 (by rw [n_lit 2, nI_add]) (by omega) hL ?_
  refine wp_cvL (as := [.int (scr G (i + 1)), .int (scr G (i + 2))]) eL_280 cw_22 (sh10_K hM) rfl rfl (Nat.le_of_ble_eq_true rfl) h1 h2 h (fun M2 r2 hq => ?_)
  obtain ⟨hr, hs2⟩ := hq
  refine wp_icmp_eq (tgt := 1465) eL_283 (by decide) (fun _ => kk M2 hs2) (fun q => absurd hr q)
theorem k0_X10_of : CK0 m_X10_of 3 := ⟨(gw_1 (List.mem_of_getElem? (l := tables_1_1) (i := 1) (by decide +kernel)) rfl), (gw_2 (List.mem_of_getElem? (l := tables_1_2) (i := 191) (by decide +kernel)) rfl), ⟨by decide +kernel, by decide +kernel, by decide +kernel⟩, by decide⟩
theorem cw_23 : CKv "BurdenHouseLaw" 23 m_X10_of 3 9 := ⟨k0_X10_of, (gw_2 (List.mem_of_getElem? (l := tables_1_2) (i := 188) (by decide +kernel)) rfl), (gw_2 (List.mem_of_getElem? (l := tables_1_2) (i := 189) (by decide +kernel)) rfl), (gw_2 (List.mem_of_getElem? (l := tables_1_2) (i := 190) (by decide +kernel)) rfl), by decide, _, rfl⟩
theorem k0_X11_of : CK0 m_X11_of 3 := ⟨(gw_1 (List.mem_of_getElem? (l := tables_1_1) (i := 11) (by decide +kernel)) rfl), (gw_6 (List.mem_of_getElem? (l := tables_1_6) (i := 58) (by decide +kernel)) rfl), ⟨by decide +kernel, by decide +kernel, by decide +kernel⟩, by decide⟩
theorem cw_26 : CKv "BurdenHouseLaw" 26 m_X11_of 3 10 := ⟨k0_X11_of, (gw_6 (List.mem_of_getElem? (l := tables_1_6) (i := 55) (by decide +kernel)) rfl), (gw_6 (List.mem_of_getElem? (l := tables_1_6) (i := 56) (by decide +kernel)) rfl), (gw_6 (List.mem_of_getElem? (l := tables_1_6) (i := 57) (by decide +kernel)) rfl), by decide, _, rfl⟩
theorem lc_2 (G : Gl) (d : Nat) (hd : 70 ≤ d) {nm : String} {X : Sh} {M : Mm} {b m i mc ms ce sl : Nat} {Q : Sh → Mm → Option Value → Prop} (hS : Sh9 X b) (hM : Sh10 X m) (hbm : b + 266 ≤ m) (hL : G.2 23 ≤ 3072) (hi : i + 6 ≤ G.2 23) (h1 : ce ≤ mc) (h2 : sl ≤ ms) (hs : Sim M b m) (kk : ∀ M2, Sim M2 b m → Wp G (mLaw nm) (d + 1) mc ms ce sl 1465 [(3, .int (nI i)), (2, .ref m), (1, .ref b), (0, .ref (G.2 22))] [] X M2 Q) : Wp G (mLaw nm) (d + 1) mc ms ce sl 288 [(3, .int (nI i)), (2, .ref m), (1, .ref b), (0, .ref (G.2 22))] [] X M Q := by
  refine wp_aload_n 2 eL_288 rfl rfl ?_
  refine wp_aload_n 3 eL_289 rfl rfl ?_
  refine wp_iload_n 0 eL_290 rfl rfl ?_
  refine wp_iconst (v := 1) eL_291 rfl ?_
  refine wp_iadd eL_292 ?_
  refine wp_scd (j := i + 1) eL_293 (by rw [n_lit 1, nI_add]) (by omega) hL ?_
  refine wp_aload_n 3 eL_294 rfl rfl ?_
  refine wp_iload_n 0 eL_295 rfl rfl ?_
  refine wp_iconst (v := 2) eL_296 rfl ?_
  refine wp_iadd eL_297 ?_
  refine wp_scd (j := i + 2) eL_298 (by rw [n_lit 2, nI_add]) (by omega) hL ?_
  refine wp_aload_n 3 eL_299 rfl rfl ?_
  refine wp_iload_n 0 eL_300 rfl rfl ?_
  refine wp_iconst (v := 3) eL_301 rfl ?_
  refine wp_iadd eL_302 ?_
  refine wp_scd (j := i + 3) eL_303 (by rw [n_lit 3, nI_add]) (by omega) hL ?_
  refine wp_cvL (as := [.int (scr G (i + 1)), .int (scr G (i + 2)), .int (scr G (i + 3))]) eL_304 cw_23 (sh9_K hS) rfl rfl (Nat.le_of_ble_eq_true rfl) h1 h2 (case_of G d (by omega) X b m hS hM (scr G (i + 1)) (scr G (i + 2)) (scr G (i + 3)) M hs) (fun M1 r1 h => ?_)
  refine wp_aload_n 1 eL_307 rfl rfl ?_
  refine wp_aload_n 3 eL_308 rfl rfl ?_
  refine wp_iload_n 0 eL_309 rfl rfl ?_
  refine wp_iconst (v := 1) eL_310 rfl ?_
  refine wp_iadd eL_311 ?_
  refine wp_scd (j := i + 1) eL_312 (by rw [n_lit 1, nI_add]) (by omega) hL ?_
  refine wp_aload_n 3 eL_313 rfl rfl ?_
  refine wp_iload_n 0 eL_314 rfl rfl ?_
  refine wp_iconst (v := 2) eL_315 rfl ?_
  refine wp_iadd eL_316 ?_
  refine wp_scd (j := i + 2) eL_317 (by rw [n_lit 2, nI_add]) (by omega) hL ?_
  refine wp_aload_n 3 eL_318 rfl rfl ?_
  refine wp_iload_n 0 eL_319 rfl rfl ?_
  refine wp_iconst (v := 3) eL_320 rfl ?_
  refine wp_iadd eL_321 ?_
  refine wp_scd (j := i + 3) eL_322 (by rw [n_lit 3, nI_add]) (by omega) hL ?_
  refine wp_cvL (as := [.int (scr G (i + 1)), .int (scr G (i + 2)), .int (scr G (i + 3))]) eL_323 cw_26 (sh10_K hM) rfl rfl (Nat.le_of_ble_eq_true rfl) h1 h2 h (fun M2 r2 hq => ?_)
  obtain ⟨hr, hs2⟩ := hq
  refine wp_icmp_eq (tgt := 1465) eL_326 (by decide) (fun _ => kk M2 hs2) (fun q => absurd hr q)
theorem k0_X10_as : CK0 m_X10_as 2 := ⟨(gw_1 (List.mem_of_getElem? (l := tables_1_1) (i := 1) (by decide +kernel)) rfl), (gw_2 (List.mem_of_getElem? (l := tables_1_2) (i := 210) (by decide +kernel)) rfl), ⟨by decide +kernel, by decide +kernel, by decide +kernel⟩, by decide⟩
theorem cw_27 : CKv "BurdenHouseLaw" 27 m_X10_as 2 9 := ⟨k0_X10_as, (gw_2 (List.mem_of_getElem? (l := tables_1_2) (i := 207) (by decide +kernel)) rfl), (gw_2 (List.mem_of_getElem? (l := tables_1_2) (i := 208) (by decide +kernel)) rfl), (gw_2 (List.mem_of_getElem? (l := tables_1_2) (i := 209) (by decide +kernel)) rfl), by decide, _, rfl⟩
theorem k0_X11_as : CK0 m_X11_as 2 := ⟨(gw_1 (List.mem_of_getElem? (l := tables_1_1) (i := 11) (by decide +kernel)) rfl), (gw_6 (List.mem_of_getElem? (l := tables_1_6) (i := 80) (by decide +kernel)) rfl), ⟨by decide +kernel, by decide +kernel, by decide +kernel⟩, by decide⟩
theorem cw_30 : CKv "BurdenHouseLaw" 30 m_X11_as 2 10 := ⟨k0_X11_as, (gw_6 (List.mem_of_getElem? (l := tables_1_6) (i := 77) (by decide +kernel)) rfl), (gw_6 (List.mem_of_getElem? (l := tables_1_6) (i := 78) (by decide +kernel)) rfl), (gw_6 (List.mem_of_getElem? (l := tables_1_6) (i := 79) (by decide +kernel)) rfl), by decide, _, rfl⟩
theorem lc_3 (G : Gl) (d : Nat) (hd : 70 ≤ d) {nm : String} {X : Sh} {M : Mm} {b m i mc ms ce sl : Nat} {Q : Sh → Mm → Option Value → Prop} (hS : Sh9 X b) (hM : Sh10 X m) (hbm : b + 266 ≤ m) (hL : G.2 23 ≤ 3072) (hi : i + 6 ≤ G.2 23) (h1 : ce ≤ mc) (h2 : sl ≤ ms) (hs : Sim M b m) (kk : ∀ M2, Sim M2 b m → Wp G (mLaw nm) (d + 1) mc ms ce sl 1465 [(3, .int (nI i)), (2, .ref m), (1, .ref b), (0, .ref (G.2 22))] [] X M2 Q) : Wp G (mLaw nm) (d + 1) mc ms ce sl 331 [(3, .int (nI i)), (2, .ref m), (1, .ref b), (0, .ref (G.2 22))] [] X M Q := by
  refine wp_aload_n 2 eL_331 rfl rfl ?_
  refine wp_aload_n 3 eL_332 rfl rfl ?_
  refine wp_iload_n 0 eL_333 rfl rfl ?_
  refine wp_iconst (v := 1) eL_334 rfl ?_
  refine wp_iadd eL_335 ?_
  refine wp_scd (j := i + 1) eL_336 (by rw [n_lit 1, nI_add]) (by omega) hL ?_
  refine wp_aload_n 3 eL_337 rfl rfl ?_
  refine wp_iload_n 0 eL_338 rfl rfl ?_
  refine wp_iconst (v := 2) eL_339 rfl ?_
  refine wp_iadd eL_340 ?_
  refine wp_scd (j := i + 2) eL_341 (by rw [n_lit 2, nI_add]) (by omega) hL ?_
  refine wp_cvL (as := [.int (scr G (i + 1)), .int (scr G (i + 2))]) eL_342 cw_27 (sh9_K hS) rfl rfl (Nat.le_of_ble_eq_true rfl) h1 h2 (case_as G d (by omega) X b m hS hM (scr G (i + 1)) (scr G (i + 2)) M hs) (fun M1 r1 h => ?_)
  refine wp_aload_n 1 eL_345 rfl rfl ?_
  refine wp_aload_n 3 eL_346 rfl rfl ?_
  refine wp_iload_n 0 eL_347 rfl rfl ?_
  refine wp_iconst (v := 1) eL_348 rfl ?_
  refine wp_iadd eL_349 ?_
  refine wp_scd (j := i + 1) eL_350 (by rw [n_lit 1, nI_add]) (by omega) hL ?_
  refine wp_aload_n 3 eL_351 rfl rfl ?_
  refine wp_iload_n 0 eL_352 rfl rfl ?_
  refine wp_iconst (v := 2) eL_353 rfl ?_
  refine wp_iadd eL_354 ?_
  refine wp_scd (j := i + 2) eL_355 (by rw [n_lit 2, nI_add]) (by omega) hL ?_
  refine wp_cvL (as := [.int (scr G (i + 1)), .int (scr G (i + 2))]) eL_356 cw_30 (sh10_K hM) rfl rfl (Nat.le_of_ble_eq_true rfl) h1 h2 h (fun M2 r2 hq => ?_)
  obtain ⟨hr, hs2⟩ := hq
  refine wp_icmp_eq (tgt := 1465) eL_359 (by decide) (fun _ => kk M2 hs2) (fun q => absurd hr q)
theorem k0_X10_fill : CK0 m_X10_fill 2 := ⟨(gw_1 (List.mem_of_getElem? (l := tables_1_1) (i := 1) (by decide +kernel)) rfl), (gw_2 (List.mem_of_getElem? (l := tables_1_2) (i := 220) (by decide +kernel)) rfl), ⟨by decide +kernel, by decide +kernel, by decide +kernel⟩, by decide⟩
theorem cw_31 : CKv "BurdenHouseLaw" 31 m_X10_fill 2 9 := ⟨k0_X10_fill, (gw_2 (List.mem_of_getElem? (l := tables_1_2) (i := 217) (by decide +kernel)) rfl), (gw_2 (List.mem_of_getElem? (l := tables_1_2) (i := 218) (by decide +kernel)) rfl), (gw_2 (List.mem_of_getElem? (l := tables_1_2) (i := 219) (by decide +kernel)) rfl), by decide, _, rfl⟩
theorem k0_X11_fill : CK0 m_X11_fill 2 := ⟨(gw_1 (List.mem_of_getElem? (l := tables_1_1) (i := 11) (by decide +kernel)) rfl), (gw_6 (List.mem_of_getElem? (l := tables_1_6) (i := 88) (by decide +kernel)) rfl), ⟨by decide +kernel, by decide +kernel, by decide +kernel⟩, by decide⟩
theorem cw_34 : CKv "BurdenHouseLaw" 34 m_X11_fill 2 10 := ⟨k0_X11_fill, (gw_6 (List.mem_of_getElem? (l := tables_1_6) (i := 85) (by decide +kernel)) rfl), (gw_6 (List.mem_of_getElem? (l := tables_1_6) (i := 86) (by decide +kernel)) rfl), (gw_6 (List.mem_of_getElem? (l := tables_1_6) (i := 87) (by decide +kernel)) rfl), by decide, _, rfl⟩
theorem lc_4 (G : Gl) (d : Nat) (hd : 70 ≤ d) {nm : String} {X : Sh} {M : Mm} {b m i mc ms ce sl : Nat} {Q : Sh → Mm → Option Value → Prop} (hS : Sh9 X b) (hM : Sh10 X m) (hbm : b + 266 ≤ m) (hL : G.2 23 ≤ 3072) (hi : i + 6 ≤ G.2 23) (h1 : ce ≤ mc) (h2 : sl ≤ ms) (hs : Sim M b m) (kk : ∀ M2, Sim M2 b m → Wp G (mLaw nm) (d + 1) mc ms ce sl 1465 [(3, .int (nI i)), (2, .ref m), (1, .ref b), (0, .ref (G.2 22))] [] X M2 Q) : Wp G (mLaw nm) (d + 1) mc ms ce sl 364 [(3, .int (nI i)), (2, .ref m), (1, .ref b), (0, .ref (G.2 22))] [] X M Q := by
  refine wp_aload_n 2 eL_364 rfl rfl ?_
  refine wp_aload_n 3 eL_365 rfl rfl ?_
  refine wp_iload_n 0 eL_366 rfl rfl ?_
  refine wp_iconst (v := 1) eL_367 rfl ?_
  refine wp_iadd eL_368 ?_
  refine wp_scd (j := i + 1) eL_369 (by rw [n_lit 1, nI_add]) (by omega) hL ?_
  refine wp_aload_n 3 eL_370 rfl rfl ?_
  refine wp_iload_n 0 eL_371 rfl rfl ?_
  refine wp_iconst (v := 2) eL_372 rfl ?_
  refine wp_iadd eL_373 ?_
  refine wp_scd (j := i + 2) eL_374 (by rw [n_lit 2, nI_add]) (by omega) hL ?_
  refine wp_cvL (as := [.int (scr G (i + 1)), .int (scr G (i + 2))]) eL_375 cw_31 (sh9_K hS) rfl rfl (Nat.le_of_ble_eq_true rfl) h1 h2 (case_fill G d (by omega) X b m hS hM hbm (scr G (i + 1)) (scr G (i + 2)) M hs) (fun M1 r1 h => ?_)
  refine wp_aload_n 1 eL_378 rfl rfl ?_
  refine wp_aload_n 3 eL_379 rfl rfl ?_
  refine wp_iload_n 0 eL_380 rfl rfl ?_
  refine wp_iconst (v := 1) eL_381 rfl ?_
  refine wp_iadd eL_382 ?_
  refine wp_scd (j := i + 1) eL_383 (by rw [n_lit 1, nI_add]) (by omega) hL ?_
  refine wp_aload_n 3 eL_384 rfl rfl ?_
  refine wp_iload_n 0 eL_385 rfl rfl ?_
  refine wp_iconst (v := 2) eL_386 rfl ?_
  refine wp_iadd eL_387 ?_
  refine wp_scd (j := i + 2) eL_388 (by rw [n_lit 2, nI_add]) (by omega) hL ?_
  refine wp_cvL (as := [.int (scr G (i + 1)), .int (scr G (i + 2))]) eL_389 cw_34 (sh10_K hM) rfl rfl (Nat.le_of_ble_eq_true rfl) h1 h2 h (fun M2 r2 hq => ?_)
  obtain ⟨hr, hs2⟩ := hq
  refine wp_icmp_eq (tgt := 1465) eL_392 (by decide) (fun _ => kk M2 hs2) (fun q => absurd hr q)
theorem k0_X10_turns : CK0 m_X10_turns 2 := ⟨(gw_1 (List.mem_of_getElem? (l := tables_1_1) (i := 1) (by decide +kernel)) rfl), (gw_2 (List.mem_of_getElem? (l := tables_1_2) (i := 225) (by decide +kernel)) rfl), ⟨by decide +kernel, by decide +kernel, by decide +kernel⟩, by decide⟩
theorem cw_35 : CKv "BurdenHouseLaw" 35 m_X10_turns 2 9 := ⟨k0_X10_turns, (gw_2 (List.mem_of_getElem? (l := tables_1_2) (i := 222) (by decide +kernel)) rfl), (gw_2 (List.mem_of_getElem? (l := tables_1_2) (i := 223) (by decide +kernel)) rfl), (gw_2 (List.mem_of_getElem? (l := tables_1_2) (i := 224) (by decide +kernel)) rfl), by decide, _, rfl⟩
theorem k0_X11_turns : CK0 m_X11_turns 2 := ⟨(gw_1 (List.mem_of_getElem? (l := tables_1_1) (i := 11) (by decide +kernel)) rfl), (gw_6 (List.mem_of_getElem? (l := tables_1_6) (i := 92) (by decide +kernel)) rfl), ⟨by decide +kernel, by decide +kernel, by decide +kernel⟩, by decide⟩
theorem cw_38 : CKv "BurdenHouseLaw" 38 m_X11_turns 2 10 := ⟨k0_X11_turns, (gw_6 (List.mem_of_getElem? (l := tables_1_6) (i := 89) (by decide +kernel)) rfl), (gw_6 (List.mem_of_getElem? (l := tables_1_6) (i := 90) (by decide +kernel)) rfl), (gw_6 (List.mem_of_getElem? (l := tables_1_6) (i := 91) (by decide +kernel)) rfl), by decide, _, rfl⟩
theorem lc_5 (G : Gl) (d : Nat) (hd : 70 ≤ d) {nm : String} {X : Sh} {M : Mm} {b m i mc ms ce sl : Nat} {Q : Sh → Mm → Option Value → Prop} (hS : Sh9 X b) (hM : Sh10 X m) (hbm : b + 266 ≤ m) (hL : G.2 23 ≤ 3072) (hi : i + 6 ≤ G.2 23) (h1 : ce ≤ mc) (h2 : sl ≤ ms) (hs : Sim M b m) (kk : ∀ M2, Sim M2 b m → Wp G (mLaw nm) (d + 1) mc ms ce sl 1465 [(3, .int (nI i)), (2, .ref m), (1, .ref b), (0, .ref (G.2 22))] [] X M2 Q) : Wp G (mLaw nm) (d + 1) mc ms ce sl 397 [(3, .int (nI i)), (2, .ref m), (1, .ref b), (0, .ref (G.2 22))] [] X M Q := by
  refine wp_aload_n 2 eL_397 rfl rfl ?_
  refine wp_aload_n 3 eL_398 rfl rfl ?_
  refine wp_iload_n 0 eL_399 rfl rfl ?_
  refine wp_iconst (v := 1) eL_400 rfl ?_
  refine wp_iadd eL_401 ?_
  refine wp_scd (j := i + 1) eL_402 (by rw [n_lit 1, nI_add]) (by omega) hL ?_
  refine wp_aload_n 3 eL_403 rfl rfl ?_
  refine wp_iload_n 0 eL_404 rfl rfl ?_
  refine wp_iconst (v := 2) eL_405 rfl ?_
  refine wp_iadd eL_406 ?_
  refine wp_scd (j := i + 2) eL_407 (by rw [n_lit 2, nI_add]) (by omega) hL ?_
  refine wp_cvL (as := [.int (scr G (i + 1)), .int (scr G (i + 2))]) eL_408 cw_35 (sh9_K hS) rfl rfl (Nat.le_of_ble_eq_true rfl) h1 h2 (case_turns G d (by omega) X b m hS hM hbm (scr G (i + 1)) (scr G (i + 2)) M hs) (fun M1 r1 h => ?_)
  refine wp_aload_n 1 eL_411 rfl rfl ?_
  refine wp_aload_n 3 eL_412 rfl rfl ?_
  refine wp_iload_n 0 eL_413 rfl rfl ?_
  refine wp_iconst (v := 1) eL_414 rfl ?_
  refine wp_iadd eL_415 ?_
  refine wp_scd (j := i + 1) eL_416 (by rw [n_lit 1, nI_add]) (by omega) hL ?_
  refine wp_aload_n 3 eL_417 rfl rfl ?_
  refine wp_iload_n 0 eL_418 rfl rfl ?_
  refine wp_iconst (v := 2) eL_419 rfl ?_
  refine wp_iadd eL_420 ?_
  refine wp_scd (j := i + 2) eL_421 (by rw [n_lit 2, nI_add]) (by omega) hL ?_
  refine wp_cvL (as := [.int (scr G (i + 1)), .int (scr G (i + 2))]) eL_422 cw_38 (sh10_K hM) rfl rfl (Nat.le_of_ble_eq_true rfl) h1 h2 h (fun M2 r2 hq => ?_)
  obtain ⟨hr, hs2⟩ := hq
  refine wp_icmp_eq (tgt := 1465) eL_425 (by decide) (fun _ => kk M2 hs2) (fun q => absurd hr q)
theorem k0_X10_rule : CK0 m_X10_rule 2 := ⟨(gw_1 (List.mem_of_getElem? (l := tables_1_1) (i := 1) (by decide +kernel)) rfl), (gw_2 (List.mem_of_getElem? (l := tables_1_2) (i := 230) (by decide +kernel)) rfl), ⟨by decide +kernel, by decide +kernel, by decide +kernel⟩, by decide⟩
theorem cw_39 : CKv "BurdenHouseLaw" 39 m_X10_rule 2 9 := ⟨k0_X10_rule, (gw_2 (List.mem_of_getElem? (l := tables_1_2) (i := 227) (by decide +kernel)) rfl), (gw_2 (List.mem_of_getElem? (l := tables_1_2) (i := 228) (by decide +kernel)) rfl), (gw_2 (List.mem_of_getElem? (l := tables_1_2) (i := 229) (by decide +kernel)) rfl), by decide, _, rfl⟩
theorem k0_X11_rule : CK0 m_X11_rule 2 := ⟨(gw_1 (List.mem_of_getElem? (l := tables_1_1) (i := 11) (by decide +kernel)) rfl), (gw_6 (List.mem_of_getElem? (l := tables_1_6) (i := 101) (by decide +kernel)) rfl), ⟨by decide +kernel, by decide +kernel, by decide +kernel⟩, by decide⟩
theorem cw_42 : CKv "BurdenHouseLaw" 42 m_X11_rule 2 10 := ⟨k0_X11_rule, (gw_6 (List.mem_of_getElem? (l := tables_1_6) (i := 98) (by decide +kernel)) rfl), (gw_6 (List.mem_of_getElem? (l := tables_1_6) (i := 99) (by decide +kernel)) rfl), (gw_6 (List.mem_of_getElem? (l := tables_1_6) (i := 100) (by decide +kernel)) rfl), by decide, _, rfl⟩
theorem lc_6 (G : Gl) (d : Nat) (hd : 70 ≤ d) {nm : String} {X : Sh} {M : Mm} {b m i mc ms ce sl : Nat} {Q : Sh → Mm → Option Value → Prop} (hS : Sh9 X b) (hM : Sh10 X m) (hbm : b + 266 ≤ m) (hL : G.2 23 ≤ 3072) (hi : i + 6 ≤ G.2 23) (h1 : ce ≤ mc) (h2 : sl ≤ ms) (hs : Sim M b m) (kk : ∀ M2, Sim M2 b m → Wp G (mLaw nm) (d + 1) mc ms ce sl 1465 [(3, .int (nI i)), (2, .ref m), (1, .ref b), (0, .ref (G.2 22))] [] X M2 Q) : Wp G (mLaw nm) (d + 1) mc ms ce sl 430 [(3, .int (nI i)), (2, .ref m), (1, .ref b), (0, .ref (G.2 22))] [] X M Q := by
  refine wp_aload_n 2 eL_430 rfl rfl ?_
  refine wp_aload_n 3 eL_431 rfl rfl ?_
  refine wp_iload_n 0 eL_432 rfl rfl ?_
  refine wp_iconst (v := 1) eL_433 rfl ?_
  refine wp_iadd eL_434 ?_
  refine wp_scd (j := i + 1) eL_435 (by rw [n_lit 1, nI_add]) (by omega) hL ?_
  refine wp_aload_n 3 eL_436 rfl rfl ?_
  refine wp_iload_n 0 eL_437 rfl rfl ?_
  refine wp_iconst (v := 2) eL_438 rfl ?_
  refine wp_iadd eL_439 ?_
  refine wp_scd (j := i + 2) eL_440 (by rw [n_lit 2, nI_add]) (by omega) hL ?_
  refine wp_cvL (as := [.int (scr G (i + 1)), .int (scr G (i + 2))]) eL_441 cw_39 (sh9_K hS) rfl rfl (Nat.le_of_ble_eq_true rfl) h1 h2 (case_rule G d (by omega) X b m hS hM hbm (scr G (i + 1)) (scr G (i + 2)) M hs) (fun M1 r1 h => ?_)
  refine wp_aload_n 1 eL_444 rfl rfl ?_
  refine wp_aload_n 3 eL_445 rfl rfl ?_
  refine wp_iload_n 0 eL_446 rfl rfl ?_
  refine wp_iconst (v := 1) eL_447 rfl ?_
  refine wp_iadd eL_448 ?_
  refine wp_scd (j := i + 1) eL_449 (by rw [n_lit 1, nI_add]) (by omega) hL ?_
  refine wp_aload_n 3 eL_450 rfl rfl ?_
  refine wp_iload_n 0 eL_451 rfl rfl ?_
  refine wp_iconst (v := 2) eL_452 rfl ?_
  refine wp_iadd eL_453 ?_
  refine wp_scd (j := i + 2) eL_454 (by rw [n_lit 2, nI_add]) (by omega) hL ?_
  refine wp_cvL (as := [.int (scr G (i + 1)), .int (scr G (i + 2))]) eL_455 cw_42 (sh10_K hM) rfl rfl (Nat.le_of_ble_eq_true rfl) h1 h2 h (fun M2 r2 hq => ?_)
  obtain ⟨hr, hs2⟩ := hq
  refine wp_icmp_eq (tgt := 1465) eL_458 (by decide) (fun _ => kk M2 hs2) (fun q => absurd hr q)
theorem k0_X10_empty : CK0 m_X10_empty 2 := ⟨(gw_1 (List.mem_of_getElem? (l := tables_1_1) (i := 1) (by decide +kernel)) rfl), (gw_2 (List.mem_of_getElem? (l := tables_1_2) (i := 234) (by decide +kernel)) rfl), ⟨by decide +kernel, by decide +kernel, by decide +kernel⟩, by decide⟩
theorem cw_43 : CKv "BurdenHouseLaw" 43 m_X10_empty 2 9 := ⟨k0_X10_empty, (gw_2 (List.mem_of_getElem? (l := tables_1_2) (i := 231) (by decide +kernel)) rfl), (gw_2 (List.mem_of_getElem? (l := tables_1_2) (i := 232) (by decide +kernel)) rfl), (gw_2 (List.mem_of_getElem? (l := tables_1_2) (i := 233) (by decide +kernel)) rfl), by decide, _, rfl⟩
theorem k0_X11_empty : CK0 m_X11_empty 2 := ⟨(gw_1 (List.mem_of_getElem? (l := tables_1_1) (i := 11) (by decide +kernel)) rfl), (gw_6 (List.mem_of_getElem? (l := tables_1_6) (i := 106) (by decide +kernel)) rfl), ⟨by decide +kernel, by decide +kernel, by decide +kernel⟩, by decide⟩
theorem cw_46 : CKv "BurdenHouseLaw" 46 m_X11_empty 2 10 := ⟨k0_X11_empty, (gw_6 (List.mem_of_getElem? (l := tables_1_6) (i := 103) (by decide +kernel)) rfl), (gw_6 (List.mem_of_getElem? (l := tables_1_6) (i := 104) (by decide +kernel)) rfl), (gw_6 (List.mem_of_getElem? (l := tables_1_6) (i := 105) (by decide +kernel)) rfl), by decide, _, rfl⟩
theorem lc_7 (G : Gl) (d : Nat) (hd : 70 ≤ d) {nm : String} {X : Sh} {M : Mm} {b m i mc ms ce sl : Nat} {Q : Sh → Mm → Option Value → Prop} (hS : Sh9 X b) (hM : Sh10 X m) (hbm : b + 266 ≤ m) (hL : G.2 23 ≤ 3072) (hi : i + 6 ≤ G.2 23) (h1 : ce ≤ mc) (h2 : sl ≤ ms) (hs : Sim M b m) (kk : ∀ M2, Sim M2 b m → Wp G (mLaw nm) (d + 1) mc ms ce sl 1465 [(3, .int (nI i)), (2, .ref m), (1, .ref b), (0, .ref (G.2 22))] [] X M2 Q) : Wp G (mLaw nm) (d + 1) mc ms ce sl 463 [(3, .int (nI i)), (2, .ref m), (1, .ref b), (0, .ref (G.2 22))] [] X M Q := by
  refine wp_aload_n 2 eL_463 rfl rfl ?_
  refine wp_aload_n 3 eL_464 rfl rfl ?_
  refine wp_iload_n 0 eL_465 rfl rfl ?_
  refine wp_iconst (v := 1) eL_466 rfl ?_
  refine wp_iadd eL_467 ?_
  refine wp_scd (j := i + 1) eL_468 (by rw [n_lit 1, nI_add]) (by omega) hL ?_
  refine wp_aload_n 3 eL_469 rfl rfl ?_
  refine wp_iload_n 0 eL_470 rfl rfl ?_
  refine wp_iconst (v := 2) eL_471 rfl ?_
  refine wp_iadd eL_472 ?_
  refine wp_scd (j := i + 2) eL_473 (by rw [n_lit 2, nI_add]) (by omega) hL ?_
  refine wp_cvL (as := [.int (scr G (i + 1)), .int (scr G (i + 2))]) eL_474 cw_43 (sh9_K hS) rfl rfl (Nat.le_of_ble_eq_true rfl) h1 h2 (case_empty G d (by omega) X b m hS hM (scr G (i + 1)) (scr G (i + 2)) M hs) (fun M1 r1 h => ?_)
  refine wp_aload_n 1 eL_477 rfl rfl ?_
  refine wp_aload_n 3 eL_478 rfl rfl ?_
  refine wp_iload_n 0 eL_479 rfl rfl ?_
  refine wp_iconst (v := 1) eL_480 rfl ?_
  refine wp_iadd eL_481 ?_
  refine wp_scd (j := i + 1) eL_482 (by rw [n_lit 1, nI_add]) (by omega) hL ?_
  refine wp_aload_n 3 eL_483 rfl rfl ?_
  refine wp_iload_n 0 eL_484 rfl rfl ?_
  refine wp_iconst (v := 2) eL_485 rfl ?_
  refine wp_iadd eL_486 ?_
  refine wp_scd (j := i + 2) eL_487 (by rw [n_lit 2, nI_add]) (by omega) hL ?_
  refine wp_cvL (as := [.int (scr G (i + 1)), .int (scr G (i + 2))]) eL_488 cw_46 (sh10_K hM) rfl rfl (Nat.le_of_ble_eq_true rfl) h1 h2 h (fun M2 r2 hq => ?_)
  obtain ⟨hr, hs2⟩ := hq
  refine wp_icmp_eq (tgt := 1465) eL_491 (by decide) (fun _ => kk M2 hs2) (fun q => absurd hr q)
theorem k0_X10_charge : CK0 m_X10_charge 2 := ⟨(gw_1 (List.mem_of_getElem? (l := tables_1_1) (i := 1) (by decide +kernel)) rfl), (gw_2 (List.mem_of_getElem? (l := tables_1_2) (i := 238) (by decide +kernel)) rfl), ⟨by decide +kernel, by decide +kernel, by decide +kernel⟩, by decide⟩
theorem cw_47 : CKv "BurdenHouseLaw" 47 m_X10_charge 2 9 := ⟨k0_X10_charge, (gw_2 (List.mem_of_getElem? (l := tables_1_2) (i := 235) (by decide +kernel)) rfl), (gw_2 (List.mem_of_getElem? (l := tables_1_2) (i := 236) (by decide +kernel)) rfl), (gw_2 (List.mem_of_getElem? (l := tables_1_2) (i := 237) (by decide +kernel)) rfl), by decide, _, rfl⟩
theorem k0_X11_charge : CK0 m_X11_charge 2 := ⟨(gw_1 (List.mem_of_getElem? (l := tables_1_1) (i := 11) (by decide +kernel)) rfl), (gw_6 (List.mem_of_getElem? (l := tables_1_6) (i := 110) (by decide +kernel)) rfl), ⟨by decide +kernel, by decide +kernel, by decide +kernel⟩, by decide⟩
theorem cw_50 : CKv "BurdenHouseLaw" 50 m_X11_charge 2 10 := ⟨k0_X11_charge, (gw_6 (List.mem_of_getElem? (l := tables_1_6) (i := 107) (by decide +kernel)) rfl), (gw_6 (List.mem_of_getElem? (l := tables_1_6) (i := 108) (by decide +kernel)) rfl), (gw_6 (List.mem_of_getElem? (l := tables_1_6) (i := 109) (by decide +kernel)) rfl), by decide, _, rfl⟩
theorem lc_8 (G : Gl) (d : Nat) (hd : 70 ≤ d) {nm : String} {X : Sh} {M : Mm} {b m i mc ms ce sl : Nat} {Q : Sh → Mm → Option Value → Prop} (hS : Sh9 X b) (hM : Sh10 X m) (hbm : b + 266 ≤ m) (hL : G.2 23 ≤ 3072) (hi : i + 6 ≤ G.2 23) (h1 : ce ≤ mc) (h2 : sl ≤ ms) (hs : Sim M b m) (kk : ∀ M2, Sim M2 b m → Wp G (mLaw nm) (d + 1) mc ms ce sl 1465 [(3, .int (nI i)), (2, .ref m), (1, .ref b), (0, .ref (G.2 22))] [] X M2 Q) : Wp G (mLaw nm) (d + 1) mc ms ce sl 496 [(3, .int (nI i)), (2, .ref m), (1, .ref b), (0, .ref (G.2 22))] [] X M Q := by
  refine wp_aload_n 2 eL_496 rfl rfl ?_
  refine wp_aload_n 3 eL_497 rfl rfl ?_
  refine wp_iload_n 0 eL_498 rfl rfl ?_
  refine wp_iconst (v := 1) eL_499 rfl ?_
  refine wp_iadd eL_500 ?_
  refine wp_scd (j := i + 1) eL_501 (by rw [n_lit 1, nI_add]) (by omega) hL ?_
  refine wp_aload_n 3 eL_502 rfl rfl ?_
  refine wp_iload_n 0 eL_503 rfl rfl ?_
  refine wp_iconst (v := 2) eL_504 rfl ?_
  refine wp_iadd eL_505 ?_
  refine wp_scd (j := i + 2) eL_506 (by rw [n_lit 2, nI_add]) (by omega) hL ?_
  refine wp_cvL (as := [.int (scr G (i + 1)), .int (scr G (i + 2))]) eL_507 cw_47 (sh9_K hS) rfl rfl (Nat.le_of_ble_eq_true rfl) h1 h2 (case_charge G d (by omega) X b m hS hM hbm (scr G (i + 1)) (scr G (i + 2)) M hs) (fun M1 r1 h => ?_)
  refine wp_aload_n 1 eL_510 rfl rfl ?_
  refine wp_aload_n 3 eL_511 rfl rfl ?_
  refine wp_iload_n 0 eL_512 rfl rfl ?_
  refine wp_iconst (v := 1) eL_513 rfl ?_
  refine wp_iadd eL_514 ?_
  refine wp_scd (j := i + 1) eL_515 (by rw [n_lit 1, nI_add]) (by omega) hL ?_
  refine wp_aload_n 3 eL_516 rfl rfl ?_
  refine wp_iload_n 0 eL_517 rfl rfl ?_
  refine wp_iconst (v := 2) eL_518 rfl ?_
  refine wp_iadd eL_519 ?_
  refine wp_scd (j := i + 2) eL_520 (by rw [n_lit 2, nI_add]) (by omega) hL ?_
  refine wp_cvL (as := [.int (scr G (i + 1)), .int (scr G (i + 2))]) eL_521 cw_50 (sh10_K hM) rfl rfl (Nat.le_of_ble_eq_true rfl) h1 h2 h (fun M2 r2 hq => ?_)
  obtain ⟨hr, hs2⟩ := hq
  refine wp_icmp_eq (tgt := 1465) eL_524 (by decide) (fun _ => kk M2 hs2) (fun q => absurd hr q)
theorem k0_X10_layer : CK0 m_X10_layer 2 := ⟨(gw_1 (List.mem_of_getElem? (l := tables_1_1) (i := 1) (by decide +kernel)) rfl), (gw_3 (List.mem_of_getElem? (l := tables_1_3) (i := 47) (by decide +kernel)) rfl), ⟨by decide +kernel, by decide +kernel, by decide +kernel⟩, by decide⟩
theorem cw_51 : CKv "BurdenHouseLaw" 51 m_X10_layer 2 9 := ⟨k0_X10_layer, (gw_3 (List.mem_of_getElem? (l := tables_1_3) (i := 44) (by decide +kernel)) rfl), (gw_3 (List.mem_of_getElem? (l := tables_1_3) (i := 45) (by decide +kernel)) rfl), (gw_3 (List.mem_of_getElem? (l := tables_1_3) (i := 46) (by decide +kernel)) rfl), by decide, _, rfl⟩
theorem k0_X11_layer : CK0 m_X11_layer 2 := ⟨(gw_1 (List.mem_of_getElem? (l := tables_1_1) (i := 11) (by decide +kernel)) rfl), (gw_6 (List.mem_of_getElem? (l := tables_1_6) (i := 139) (by decide +kernel)) rfl), ⟨by decide +kernel, by decide +kernel, by decide +kernel⟩, by decide⟩
theorem cw_54 : CKv "BurdenHouseLaw" 54 m_X11_layer 2 10 := ⟨k0_X11_layer, (gw_6 (List.mem_of_getElem? (l := tables_1_6) (i := 136) (by decide +kernel)) rfl), (gw_6 (List.mem_of_getElem? (l := tables_1_6) (i := 137) (by decide +kernel)) rfl), (gw_6 (List.mem_of_getElem? (l := tables_1_6) (i := 138) (by decide +kernel)) rfl), by decide, _, rfl⟩
theorem lc_9 (G : Gl) (d : Nat) (hd : 70 ≤ d) {nm : String} {X : Sh} {M : Mm} {b m i mc ms ce sl : Nat} {Q : Sh → Mm → Option Value → Prop} (hS : Sh9 X b) (hM : Sh10 X m) (hbm : b + 266 ≤ m) (hL : G.2 23 ≤ 3072) (hi : i + 6 ≤ G.2 23) (h1 : ce ≤ mc) (h2 : sl ≤ ms) (hs : Sim M b m) (kk : ∀ M2, Sim M2 b m → Wp G (mLaw nm) (d + 1) mc ms ce sl 1465 [(3, .int (nI i)), (2, .ref m), (1, .ref b), (0, .ref (G.2 22))] [] X M2 Q) : Wp G (mLaw nm) (d + 1) mc ms ce sl 529 [(3, .int (nI i)), (2, .ref m), (1, .ref b), (0, .ref (G.2 22))] [] X M Q := by
  refine wp_aload_n 2 eL_529 rfl rfl ?_
  refine wp_aload_n 3 eL_530 rfl rfl ?_
  refine wp_iload_n 0 eL_531 rfl rfl ?_
  refine wp_iconst (v := 1) eL_532 rfl ?_
  refine wp_iadd eL_533 ?_
  refine wp_scd (j := i + 1) eL_534 (by rw [n_lit 1, nI_add]) (by omega) hL ?_
  refine wp_aload_n 3 eL_535 rfl rfl ?_
  refine wp_iload_n 0 eL_536 rfl rfl ?_
  refine wp_iconst (v := 2) eL_537 rfl ?_
  refine wp_iadd eL_538 ?_
  refine wp_scd (j := i + 2) eL_539 (by rw [n_lit 2, nI_add]) (by omega) hL ?_
  refine wp_cvL (as := [.int (scr G (i + 1)), .int (scr G (i + 2))]) eL_540 cw_51 (sh9_K hS) rfl rfl (Nat.le_of_ble_eq_true rfl) h1 h2 (case_layer G d (by omega) X b m hS hM (scr G (i + 1)) (scr G (i + 2)) M hs) (fun M1 r1 h => ?_)
  refine wp_aload_n 1 eL_543 rfl rfl ?_
  refine wp_aload_n 3 eL_544 rfl rfl ?_
  refine wp_iload_n 0 eL_545 rfl rfl ?_
  refine wp_iconst (v := 1) eL_546 rfl ?_
  refine wp_iadd eL_547 ?_
  refine wp_scd (j := i + 1) eL_548 (by rw [n_lit 1, nI_add]) (by omega) hL ?_
  refine wp_aload_n 3 eL_549 rfl rfl ?_
  refine wp_iload_n 0 eL_550 rfl rfl ?_
  refine wp_iconst (v := 2) eL_551 rfl ?_
  refine wp_iadd eL_552 ?_
  refine wp_scd (j := i + 2) eL_553 (by rw [n_lit 2, nI_add]) (by omega) hL ?_
  refine wp_cvL (as := [.int (scr G (i + 1)), .int (scr G (i + 2))]) eL_554 cw_54 (sh10_K hM) rfl rfl (Nat.le_of_ble_eq_true rfl) h1 h2 h (fun M2 r2 hq => ?_)
  obtain ⟨hr, hs2⟩ := hq
  refine wp_icmp_eq (tgt := 1465) eL_557 (by decide) (fun _ => kk M2 hs2) (fun q => absurd hr q)
theorem k0_X10_ring : CK0 m_X10_ring 2 := ⟨(gw_1 (List.mem_of_getElem? (l := tables_1_1) (i := 1) (by decide +kernel)) rfl), (gw_3 (List.mem_of_getElem? (l := tables_1_3) (i := 55) (by decide +kernel)) rfl), ⟨by decide +kernel, by decide +kernel, by decide +kernel⟩, by decide⟩
theorem cw_55 : CKv "BurdenHouseLaw" 55 m_X10_ring 2 9 := ⟨k0_X10_ring, (gw_3 (List.mem_of_getElem? (l := tables_1_3) (i := 52) (by decide +kernel)) rfl), (gw_3 (List.mem_of_getElem? (l := tables_1_3) (i := 53) (by decide +kernel)) rfl), (gw_3 (List.mem_of_getElem? (l := tables_1_3) (i := 54) (by decide +kernel)) rfl), by decide, _, rfl⟩
theorem k0_X11_ring : CK0 m_X11_ring 2 := ⟨(gw_1 (List.mem_of_getElem? (l := tables_1_1) (i := 11) (by decide +kernel)) rfl), (gw_6 (List.mem_of_getElem? (l := tables_1_6) (i := 148) (by decide +kernel)) rfl), ⟨by decide +kernel, by decide +kernel, by decide +kernel⟩, by decide⟩
theorem cw_58 : CKv "BurdenHouseLaw" 58 m_X11_ring 2 10 := ⟨k0_X11_ring, (gw_6 (List.mem_of_getElem? (l := tables_1_6) (i := 145) (by decide +kernel)) rfl), (gw_6 (List.mem_of_getElem? (l := tables_1_6) (i := 146) (by decide +kernel)) rfl), (gw_6 (List.mem_of_getElem? (l := tables_1_6) (i := 147) (by decide +kernel)) rfl), by decide, _, rfl⟩
theorem lc_10 (G : Gl) (d : Nat) (hd : 70 ≤ d) {nm : String} {X : Sh} {M : Mm} {b m i mc ms ce sl : Nat} {Q : Sh → Mm → Option Value → Prop} (hS : Sh9 X b) (hM : Sh10 X m) (hbm : b + 266 ≤ m) (hL : G.2 23 ≤ 3072) (hi : i + 6 ≤ G.2 23) (h1 : ce ≤ mc) (h2 : sl ≤ ms) (hs : Sim M b m) (kk : ∀ M2, Sim M2 b m → Wp G (mLaw nm) (d + 1) mc ms ce sl 1465 [(3, .int (nI i)), (2, .ref m), (1, .ref b), (0, .ref (G.2 22))] [] X M2 Q) : Wp G (mLaw nm) (d + 1) mc ms ce sl 562 [(3, .int (nI i)), (2, .ref m), (1, .ref b), (0, .ref (G.2 22))] [] X M Q := by
  refine wp_aload_n 2 eL_562 rfl rfl ?_
  refine wp_aload_n 3 eL_563 rfl rfl ?_
  refine wp_iload_n 0 eL_564 rfl rfl ?_
  refine wp_iconst (v := 1) eL_565 rfl ?_
  refine wp_iadd eL_566 ?_
  refine wp_scd (j := i + 1) eL_567 (by rw [n_lit 1, nI_add]) (by omega) hL ?_
  refine wp_aload_n 3 eL_568 rfl rfl ?_
  refine wp_iload_n 0 eL_569 rfl rfl ?_
  refine wp_iconst (v := 2) eL_570 rfl ?_
  refine wp_iadd eL_571 ?_
  refine wp_scd (j := i + 2) eL_572 (by rw [n_lit 2, nI_add]) (by omega) hL ?_
  refine wp_cvL (as := [.int (scr G (i + 1)), .int (scr G (i + 2))]) eL_573 cw_55 (sh9_K hS) rfl rfl (Nat.le_of_ble_eq_true rfl) h1 h2 (case_ring G d (by omega) X b m hS hM hbm (scr G (i + 1)) (scr G (i + 2)) M hs) (fun M1 r1 h => ?_)
  refine wp_aload_n 1 eL_576 rfl rfl ?_
  refine wp_aload_n 3 eL_577 rfl rfl ?_
  refine wp_iload_n 0 eL_578 rfl rfl ?_
  refine wp_iconst (v := 1) eL_579 rfl ?_
  refine wp_iadd eL_580 ?_
  refine wp_scd (j := i + 1) eL_581 (by rw [n_lit 1, nI_add]) (by omega) hL ?_
  refine wp_aload_n 3 eL_582 rfl rfl ?_
  refine wp_iload_n 0 eL_583 rfl rfl ?_
  refine wp_iconst (v := 2) eL_584 rfl ?_
  refine wp_iadd eL_585 ?_
  refine wp_scd (j := i + 2) eL_586 (by rw [n_lit 2, nI_add]) (by omega) hL ?_
  refine wp_cvL (as := [.int (scr G (i + 1)), .int (scr G (i + 2))]) eL_587 cw_58 (sh10_K hM) rfl rfl (Nat.le_of_ble_eq_true rfl) h1 h2 h (fun M2 r2 hq => ?_)
  obtain ⟨hr, hs2⟩ := hq
  refine wp_icmp_eq (tgt := 1465) eL_590 (by decide) (fun _ => kk M2 hs2) (fun q => absurd hr q)
theorem k0_X10_run : CK0 m_X10_run 1 := ⟨(gw_1 (List.mem_of_getElem? (l := tables_1_1) (i := 1) (by decide +kernel)) rfl), (gw_3 (List.mem_of_getElem? (l := tables_1_3) (i := 111) (by decide +kernel)) rfl), ⟨by decide +kernel, by decide +kernel, by decide +kernel⟩, by decide⟩
theorem cw_59 : CKv "BurdenHouseLaw" 59 m_X10_run 1 9 := ⟨k0_X10_run, (gw_3 (List.mem_of_getElem? (l := tables_1_3) (i := 108) (by decide +kernel)) rfl), (gw_3 (List.mem_of_getElem? (l := tables_1_3) (i := 109) (by decide +kernel)) rfl), (gw_3 (List.mem_of_getElem? (l := tables_1_3) (i := 110) (by decide +kernel)) rfl), by decide, _, rfl⟩
theorem k0_X11_run : CK0 m_X11_run 1 := ⟨(gw_1 (List.mem_of_getElem? (l := tables_1_1) (i := 11) (by decide +kernel)) rfl), (gw_6 (List.mem_of_getElem? (l := tables_1_6) (i := 192) (by decide +kernel)) rfl), ⟨by decide +kernel, by decide +kernel, by decide +kernel⟩, by decide⟩
theorem cw_63 : CKv "BurdenHouseLaw" 63 m_X11_run 1 10 := ⟨k0_X11_run, (gw_6 (List.mem_of_getElem? (l := tables_1_6) (i := 189) (by decide +kernel)) rfl), (gw_6 (List.mem_of_getElem? (l := tables_1_6) (i := 190) (by decide +kernel)) rfl), (gw_6 (List.mem_of_getElem? (l := tables_1_6) (i := 191) (by decide +kernel)) rfl), by decide, _, rfl⟩
theorem lc_11 (G : Gl) (d : Nat) (hd : 70 ≤ d) {nm : String} {X : Sh} {M : Mm} {b m i mc ms ce sl : Nat} {Q : Sh → Mm → Option Value → Prop} (hS : Sh9 X b) (hM : Sh10 X m) (hbm : b + 266 ≤ m) (hL : G.2 23 ≤ 3072) (hi : i + 6 ≤ G.2 23) (h1 : ce ≤ mc) (h2 : sl ≤ ms) (hs : Sim M b m) (kk : ∀ M2, Sim M2 b m → Wp G (mLaw nm) (d + 1) mc ms ce sl 1465 [(3, .int (nI i)), (2, .ref m), (1, .ref b), (0, .ref (G.2 22))] [] X M2 Q) : Wp G (mLaw nm) (d + 1) mc ms ce sl 595 [(3, .int (nI i)), (2, .ref m), (1, .ref b), (0, .ref (G.2 22))] [] X M Q := by
  refine wp_aload_n 2 eL_595 rfl rfl ?_
  refine wp_aload_n 3 eL_596 rfl rfl ?_
  refine wp_iload_n 0 eL_597 rfl rfl ?_
  refine wp_iconst (v := 1) eL_598 rfl ?_
  refine wp_iadd eL_599 ?_
  refine wp_scd (j := i + 1) eL_600 (by rw [n_lit 1, nI_add]) (by omega) hL ?_
  refine wp_cvL (as := [.int (scr G (i + 1))]) eL_601 cw_59 (sh9_K hS) rfl rfl (Nat.le_of_ble_eq_true rfl) h1 h2 (case_run G d (by omega) X b m hS hM hbm (scr G (i + 1)) M hs) (fun M1 r1 h => ?_)
  refine wp_aload_n 1 eL_604 rfl rfl ?_
  refine wp_aload_n 3 eL_605 rfl rfl ?_
  refine wp_iload_n 0 eL_606 rfl rfl ?_
  refine wp_iconst (v := 1) eL_607 rfl ?_
  refine wp_iadd eL_608 ?_
  refine wp_scd (j := i + 1) eL_609 (by rw [n_lit 1, nI_add]) (by omega) hL ?_
  refine wp_cvL (as := [.int (scr G (i + 1))]) eL_610 cw_63 (sh10_K hM) rfl rfl (Nat.le_of_ble_eq_true rfl) h1 h2 h (fun M2 r2 hq => ?_)
  obtain ⟨hr, hs2⟩ := hq
  refine wp_icmp_eq (tgt := 1465) eL_613 (by decide) (fun _ => kk M2 hs2) (fun q => absurd hr q)
theorem k0_X10_round : CK0 m_X10_round 0 := ⟨(gw_1 (List.mem_of_getElem? (l := tables_1_1) (i := 1) (by decide +kernel)) rfl), (gw_3 (List.mem_of_getElem? (l := tables_1_3) (i := 143) (by decide +kernel)) rfl), ⟨by decide +kernel, by decide +kernel, by decide +kernel⟩, by decide⟩
theorem cw_64 : CKv "BurdenHouseLaw" 64 m_X10_round 0 9 := ⟨k0_X10_round, (gw_3 (List.mem_of_getElem? (l := tables_1_3) (i := 140) (by decide +kernel)) rfl), (gw_3 (List.mem_of_getElem? (l := tables_1_3) (i := 141) (by decide +kernel)) rfl), (gw_3 (List.mem_of_getElem? (l := tables_1_3) (i := 142) (by decide +kernel)) rfl), by decide, _, rfl⟩
theorem k0_X11_round : CK0 m_X11_round 0 := ⟨(gw_1 (List.mem_of_getElem? (l := tables_1_1) (i := 11) (by decide +kernel)) rfl), (gw_6 (List.mem_of_getElem? (l := tables_1_6) (i := 208) (by decide +kernel)) rfl), ⟨by decide +kernel, by decide +kernel, by decide +kernel⟩, by decide⟩
theorem cw_68 : CKv "BurdenHouseLaw" 68 m_X11_round 0 10 := ⟨k0_X11_round, (gw_6 (List.mem_of_getElem? (l := tables_1_6) (i := 205) (by decide +kernel)) rfl), (gw_6 (List.mem_of_getElem? (l := tables_1_6) (i := 206) (by decide +kernel)) rfl), (gw_6 (List.mem_of_getElem? (l := tables_1_6) (i := 207) (by decide +kernel)) rfl), by decide, _, rfl⟩
theorem lc_12 (G : Gl) (d : Nat) (hd : 70 ≤ d) {nm : String} {X : Sh} {M : Mm} {b m i mc ms ce sl : Nat} {Q : Sh → Mm → Option Value → Prop} (hS : Sh9 X b) (hM : Sh10 X m) (hbm : b + 266 ≤ m) (hL : G.2 23 ≤ 3072) (hi : i + 6 ≤ G.2 23) (h1 : ce ≤ mc) (h2 : sl ≤ ms) (hs : Sim M b m) (kk : ∀ M2, Sim M2 b m → Wp G (mLaw nm) (d + 1) mc ms ce sl 1465 [(3, .int (nI i)), (2, .ref m), (1, .ref b), (0, .ref (G.2 22))] [] X M2 Q) : Wp G (mLaw nm) (d + 1) mc ms ce sl 618 [(3, .int (nI i)), (2, .ref m), (1, .ref b), (0, .ref (G.2 22))] [] X M Q := by
  refine wp_aload_n 2 eL_618 rfl rfl ?_
  refine wp_cvL (as := []) eL_619 cw_64 (sh9_K hS) rfl rfl (Nat.le_of_ble_eq_true rfl) h1 h2 (case_round G d (by omega) X b m hS hM hbm M hs) (fun M1 r1 h => ?_)
  refine wp_aload_n 1 eL_622 rfl rfl ?_
  refine wp_cvL (as := []) eL_623 cw_68 (sh10_K hM) rfl rfl (Nat.le_of_ble_eq_true rfl) h1 h2 h (fun M2 r2 hq => ?_)
  obtain ⟨hr, hs2⟩ := hq
  refine wp_icmp_eq (tgt := 1465) eL_626 (by decide) (fun _ => kk M2 hs2) (fun q => absurd hr q)
theorem k0_X10_hearth : CK0 m_X10_hearth 1 := ⟨(gw_1 (List.mem_of_getElem? (l := tables_1_1) (i := 1) (by decide +kernel)) rfl), (gw_3 (List.mem_of_getElem? (l := tables_1_3) (i := 166) (by decide +kernel)) rfl), ⟨by decide +kernel, by decide +kernel, by decide +kernel⟩, by decide⟩
theorem cw_69 : CKv "BurdenHouseLaw" 69 m_X10_hearth 1 9 := ⟨k0_X10_hearth, (gw_3 (List.mem_of_getElem? (l := tables_1_3) (i := 163) (by decide +kernel)) rfl), (gw_3 (List.mem_of_getElem? (l := tables_1_3) (i := 164) (by decide +kernel)) rfl), (gw_3 (List.mem_of_getElem? (l := tables_1_3) (i := 165) (by decide +kernel)) rfl), by decide, _, rfl⟩
theorem k0_X11_hearth : CK0 m_X11_hearth 1 := ⟨(gw_1 (List.mem_of_getElem? (l := tables_1_1) (i := 11) (by decide +kernel)) rfl), (gw_6 (List.mem_of_getElem? (l := tables_1_6) (i := 217) (by decide +kernel)) rfl), ⟨by decide +kernel, by decide +kernel, by decide +kernel⟩, by decide⟩
theorem cw_72 : CKv "BurdenHouseLaw" 72 m_X11_hearth 1 10 := ⟨k0_X11_hearth, (gw_6 (List.mem_of_getElem? (l := tables_1_6) (i := 214) (by decide +kernel)) rfl), (gw_6 (List.mem_of_getElem? (l := tables_1_6) (i := 215) (by decide +kernel)) rfl), (gw_6 (List.mem_of_getElem? (l := tables_1_6) (i := 216) (by decide +kernel)) rfl), by decide, _, rfl⟩
theorem lc_13 (G : Gl) (d : Nat) (hd : 70 ≤ d) {nm : String} {X : Sh} {M : Mm} {b m i mc ms ce sl : Nat} {Q : Sh → Mm → Option Value → Prop} (hS : Sh9 X b) (hM : Sh10 X m) (hbm : b + 266 ≤ m) (hL : G.2 23 ≤ 3072) (hi : i + 6 ≤ G.2 23) (h1 : ce ≤ mc) (h2 : sl ≤ ms) (hs : Sim M b m) (kk : ∀ M2, Sim M2 b m → Wp G (mLaw nm) (d + 1) mc ms ce sl 1465 [(3, .int (nI i)), (2, .ref m), (1, .ref b), (0, .ref (G.2 22))] [] X M2 Q) : Wp G (mLaw nm) (d + 1) mc ms ce sl 631 [(3, .int (nI i)), (2, .ref m), (1, .ref b), (0, .ref (G.2 22))] [] X M Q := by
  refine wp_aload_n 2 eL_631 rfl rfl ?_
  refine wp_aload_n 3 eL_632 rfl rfl ?_
  refine wp_iload_n 0 eL_633 rfl rfl ?_
  refine wp_iconst (v := 1) eL_634 rfl ?_
  refine wp_iadd eL_635 ?_
  refine wp_scd (j := i + 1) eL_636 (by rw [n_lit 1, nI_add]) (by omega) hL ?_
  refine wp_cvL (as := [.int (scr G (i + 1))]) eL_637 cw_69 (sh9_K hS) rfl rfl (Nat.le_of_ble_eq_true rfl) h1 h2 (case_hearth G d (by omega) X b m hS hM (scr G (i + 1)) M hs) (fun M1 r1 h => ?_)
  refine wp_aload_n 1 eL_640 rfl rfl ?_
  refine wp_aload_n 3 eL_641 rfl rfl ?_
  refine wp_iload_n 0 eL_642 rfl rfl ?_
  refine wp_iconst (v := 1) eL_643 rfl ?_
  refine wp_iadd eL_644 ?_
  refine wp_scd (j := i + 1) eL_645 (by rw [n_lit 1, nI_add]) (by omega) hL ?_
  refine wp_cvL (as := [.int (scr G (i + 1))]) eL_646 cw_72 (sh10_K hM) rfl rfl (Nat.le_of_ble_eq_true rfl) h1 h2 h (fun M2 r2 hq => ?_)
  obtain ⟨hr, hs2⟩ := hq
  refine wp_icmp_eq (tgt := 1465) eL_649 (by decide) (fun _ => kk M2 hs2) (fun q => absurd hr q)
theorem k0_X10_cast : CK0 m_X10_cast 1 := ⟨(gw_1 (List.mem_of_getElem? (l := tables_1_1) (i := 1) (by decide +kernel)) rfl), (gw_3 (List.mem_of_getElem? (l := tables_1_3) (i := 171) (by decide +kernel)) rfl), ⟨by decide +kernel, by decide +kernel, by decide +kernel⟩, by decide⟩
theorem cw_73 : CKv "BurdenHouseLaw" 73 m_X10_cast 1 9 := ⟨k0_X10_cast, (gw_3 (List.mem_of_getElem? (l := tables_1_3) (i := 168) (by decide +kernel)) rfl), (gw_3 (List.mem_of_getElem? (l := tables_1_3) (i := 169) (by decide +kernel)) rfl), (gw_3 (List.mem_of_getElem? (l := tables_1_3) (i := 170) (by decide +kernel)) rfl), by decide, _, rfl⟩
theorem k0_X11_cast : CK0 m_X11_cast 1 := ⟨(gw_1 (List.mem_of_getElem? (l := tables_1_1) (i := 11) (by decide +kernel)) rfl), (gw_6 (List.mem_of_getElem? (l := tables_1_6) (i := 221) (by decide +kernel)) rfl), ⟨by decide +kernel, by decide +kernel, by decide +kernel⟩, by decide⟩
theorem cw_76 : CKv "BurdenHouseLaw" 76 m_X11_cast 1 10 := ⟨k0_X11_cast, (gw_6 (List.mem_of_getElem? (l := tables_1_6) (i := 218) (by decide +kernel)) rfl), (gw_6 (List.mem_of_getElem? (l := tables_1_6) (i := 219) (by decide +kernel)) rfl), (gw_6 (List.mem_of_getElem? (l := tables_1_6) (i := 220) (by decide +kernel)) rfl), by decide, _, rfl⟩
theorem lc_14 (G : Gl) (d : Nat) (hd : 70 ≤ d) {nm : String} {X : Sh} {M : Mm} {b m i mc ms ce sl : Nat} {Q : Sh → Mm → Option Value → Prop} (hS : Sh9 X b) (hM : Sh10 X m) (hbm : b + 266 ≤ m) (hL : G.2 23 ≤ 3072) (hi : i + 6 ≤ G.2 23) (h1 : ce ≤ mc) (h2 : sl ≤ ms) (hs : Sim M b m) (kk : ∀ M2, Sim M2 b m → Wp G (mLaw nm) (d + 1) mc ms ce sl 1465 [(3, .int (nI i)), (2, .ref m), (1, .ref b), (0, .ref (G.2 22))] [] X M2 Q) : Wp G (mLaw nm) (d + 1) mc ms ce sl 654 [(3, .int (nI i)), (2, .ref m), (1, .ref b), (0, .ref (G.2 22))] [] X M Q := by
  refine wp_aload_n 2 eL_654 rfl rfl ?_
  refine wp_aload_n 3 eL_655 rfl rfl ?_
  refine wp_iload_n 0 eL_656 rfl rfl ?_
  refine wp_iconst (v := 1) eL_657 rfl ?_
  refine wp_iadd eL_658 ?_
  refine wp_scd (j := i + 1) eL_659 (by rw [n_lit 1, nI_add]) (by omega) hL ?_
  refine wp_cvL (as := [.int (scr G (i + 1))]) eL_660 cw_73 (sh9_K hS) rfl rfl (Nat.le_of_ble_eq_true rfl) h1 h2 (case_cast G d (by omega) X b m hS hM hbm (scr G (i + 1)) M hs) (fun M1 r1 h => ?_)
  refine wp_aload_n 1 eL_663 rfl rfl ?_
  refine wp_aload_n 3 eL_664 rfl rfl ?_
  refine wp_iload_n 0 eL_665 rfl rfl ?_
  refine wp_iconst (v := 1) eL_666 rfl ?_
  refine wp_iadd eL_667 ?_
  refine wp_scd (j := i + 1) eL_668 (by rw [n_lit 1, nI_add]) (by omega) hL ?_
  refine wp_cvL (as := [.int (scr G (i + 1))]) eL_669 cw_76 (sh10_K hM) rfl rfl (Nat.le_of_ble_eq_true rfl) h1 h2 h (fun M2 r2 hq => ?_)
  obtain ⟨hr, hs2⟩ := hq
  refine wp_icmp_eq (tgt := 1465) eL_672 (by decide) (fun _ => kk M2 hs2) (fun q => absurd hr q)
theorem k0_X10_down : CK0 m_X10_down 1 := ⟨(gw_1 (List.mem_of_getElem? (l := tables_1_1) (i := 1) (by decide +kernel)) rfl), (gw_3 (List.mem_of_getElem? (l := tables_1_3) (i := 179) (by decide +kernel)) rfl), ⟨by decide +kernel, by decide +kernel, by decide +kernel⟩, by decide⟩
theorem cw_77 : CKv "BurdenHouseLaw" 77 m_X10_down 1 9 := ⟨k0_X10_down, (gw_3 (List.mem_of_getElem? (l := tables_1_3) (i := 176) (by decide +kernel)) rfl), (gw_3 (List.mem_of_getElem? (l := tables_1_3) (i := 177) (by decide +kernel)) rfl), (gw_3 (List.mem_of_getElem? (l := tables_1_3) (i := 178) (by decide +kernel)) rfl), by decide, _, rfl⟩
theorem k0_X11_down : CK0 m_X11_down 1 := ⟨(gw_1 (List.mem_of_getElem? (l := tables_1_1) (i := 11) (by decide +kernel)) rfl), (gw_6 (List.mem_of_getElem? (l := tables_1_6) (i := 229) (by decide +kernel)) rfl), ⟨by decide +kernel, by decide +kernel, by decide +kernel⟩, by decide⟩
theorem cw_80 : CKv "BurdenHouseLaw" 80 m_X11_down 1 10 := ⟨k0_X11_down, (gw_6 (List.mem_of_getElem? (l := tables_1_6) (i := 226) (by decide +kernel)) rfl), (gw_6 (List.mem_of_getElem? (l := tables_1_6) (i := 227) (by decide +kernel)) rfl), (gw_6 (List.mem_of_getElem? (l := tables_1_6) (i := 228) (by decide +kernel)) rfl), by decide, _, rfl⟩
theorem lc_15 (G : Gl) (d : Nat) (hd : 70 ≤ d) {nm : String} {X : Sh} {M : Mm} {b m i mc ms ce sl : Nat} {Q : Sh → Mm → Option Value → Prop} (hS : Sh9 X b) (hM : Sh10 X m) (hbm : b + 266 ≤ m) (hL : G.2 23 ≤ 3072) (hi : i + 6 ≤ G.2 23) (h1 : ce ≤ mc) (h2 : sl ≤ ms) (hs : Sim M b m) (kk : ∀ M2, Sim M2 b m → Wp G (mLaw nm) (d + 1) mc ms ce sl 1465 [(3, .int (nI i)), (2, .ref m), (1, .ref b), (0, .ref (G.2 22))] [] X M2 Q) : Wp G (mLaw nm) (d + 1) mc ms ce sl 677 [(3, .int (nI i)), (2, .ref m), (1, .ref b), (0, .ref (G.2 22))] [] X M Q := by
  refine wp_aload_n 2 eL_677 rfl rfl ?_
  refine wp_aload_n 3 eL_678 rfl rfl ?_
  refine wp_iload_n 0 eL_679 rfl rfl ?_
  refine wp_iconst (v := 1) eL_680 rfl ?_
  refine wp_iadd eL_681 ?_
  refine wp_scd (j := i + 1) eL_682 (by rw [n_lit 1, nI_add]) (by omega) hL ?_
  refine wp_cvL (as := [.int (scr G (i + 1))]) eL_683 cw_77 (sh9_K hS) rfl rfl (Nat.le_of_ble_eq_true rfl) h1 h2 (case_down G d (by omega) X b m hS hM hbm (scr G (i + 1)) M hs) (fun M1 r1 h => ?_)
  refine wp_aload_n 1 eL_686 rfl rfl ?_
  refine wp_aload_n 3 eL_687 rfl rfl ?_
  refine wp_iload_n 0 eL_688 rfl rfl ?_
  refine wp_iconst (v := 1) eL_689 rfl ?_
  refine wp_iadd eL_690 ?_
  refine wp_scd (j := i + 1) eL_691 (by rw [n_lit 1, nI_add]) (by omega) hL ?_
  refine wp_cvL (as := [.int (scr G (i + 1))]) eL_692 cw_80 (sh10_K hM) rfl rfl (Nat.le_of_ble_eq_true rfl) h1 h2 h (fun M2 r2 hq => ?_)
  obtain ⟨hr, hs2⟩ := hq
  refine wp_icmp_eq (tgt := 1465) eL_695 (by decide) (fun _ => kk M2 hs2) (fun q => absurd hr q)
theorem k0_X10_feed : CK0 m_X10_feed 3 := ⟨(gw_1 (List.mem_of_getElem? (l := tables_1_1) (i := 1) (by decide +kernel)) rfl), (gw_3 (List.mem_of_getElem? (l := tables_1_3) (i := 196) (by decide +kernel)) rfl), ⟨by decide +kernel, by decide +kernel, by decide +kernel⟩, by decide⟩
theorem cw_81 : CKv "BurdenHouseLaw" 81 m_X10_feed 3 9 := ⟨k0_X10_feed, (gw_3 (List.mem_of_getElem? (l := tables_1_3) (i := 193) (by decide +kernel)) rfl), (gw_3 (List.mem_of_getElem? (l := tables_1_3) (i := 194) (by decide +kernel)) rfl), (gw_3 (List.mem_of_getElem? (l := tables_1_3) (i := 195) (by decide +kernel)) rfl), by decide, _, rfl⟩
theorem k0_X11_feed : CK0 m_X11_feed 3 := ⟨(gw_1 (List.mem_of_getElem? (l := tables_1_1) (i := 11) (by decide +kernel)) rfl), (gw_7 (List.mem_of_getElem? (l := tables_1_7) (i := 1) (by decide +kernel)) rfl), ⟨by decide +kernel, by decide +kernel, by decide +kernel⟩, by decide⟩
theorem cw_84 : CKv "BurdenHouseLaw" 84 m_X11_feed 3 10 := ⟨k0_X11_feed, (gw_6 (List.mem_of_getElem? (l := tables_1_6) (i := 238) (by decide +kernel)) rfl), (gw_6 (List.mem_of_getElem? (l := tables_1_6) (i := 239) (by decide +kernel)) rfl), (gw_7 (List.mem_of_getElem? (l := tables_1_7) (i := 0) (by decide +kernel)) rfl), by decide, _, rfl⟩
theorem lc_16 (G : Gl) (d : Nat) (hd : 70 ≤ d) {nm : String} {X : Sh} {M : Mm} {b m i mc ms ce sl : Nat} {Q : Sh → Mm → Option Value → Prop} (hS : Sh9 X b) (hM : Sh10 X m) (hbm : b + 266 ≤ m) (hL : G.2 23 ≤ 3072) (hi : i + 6 ≤ G.2 23) (h1 : ce ≤ mc) (h2 : sl ≤ ms) (hs : Sim M b m) (kk : ∀ M2, Sim M2 b m → Wp G (mLaw nm) (d + 1) mc ms ce sl 1465 [(3, .int (nI i)), (2, .ref m), (1, .ref b), (0, .ref (G.2 22))] [] X M2 Q) : Wp G (mLaw nm) (d + 1) mc ms ce sl 700 [(3, .int (nI i)), (2, .ref m), (1, .ref b), (0, .ref (G.2 22))] [] X M Q := by
  refine wp_aload_n 2 eL_700 rfl rfl ?_
  refine wp_aload_n 3 eL_701 rfl rfl ?_
  refine wp_iload_n 0 eL_702 rfl rfl ?_
  refine wp_iconst (v := 1) eL_703 rfl ?_
  refine wp_iadd eL_704 ?_
  refine wp_scd (j := i + 1) eL_705 (by rw [n_lit 1, nI_add]) (by omega) hL ?_
  refine wp_aload_n 3 eL_706 rfl rfl ?_
  refine wp_iload_n 0 eL_707 rfl rfl ?_
  refine wp_iconst (v := 2) eL_708 rfl ?_
  refine wp_iadd eL_709 ?_
  refine wp_scd (j := i + 2) eL_710 (by rw [n_lit 2, nI_add]) (by omega) hL ?_
  refine wp_aload_n 3 eL_711 rfl rfl ?_
  refine wp_iload_n 0 eL_712 rfl rfl ?_
  refine wp_iconst (v := 3) eL_713 rfl ?_
  refine wp_iadd eL_714 ?_
  refine wp_scd (j := i + 3) eL_715 (by rw [n_lit 3, nI_add]) (by omega) hL ?_
  refine wp_cvL (as := [.int (scr G (i + 1)), .int (scr G (i + 2)), .int (scr G (i + 3))]) eL_716 cw_81 (sh9_K hS) rfl rfl (Nat.le_of_ble_eq_true rfl) h1 h2 (case_feed G d (by omega) X b m hS hM hbm (scr G (i + 1)) (scr G (i + 2)) (scr G (i + 3)) M hs) (fun M1 r1 h => ?_)
  refine wp_aload_n 1 eL_719 rfl rfl ?_
  refine wp_aload_n 3 eL_720 rfl rfl ?_
  refine wp_iload_n 0 eL_721 rfl rfl ?_
  refine wp_iconst (v := 1) eL_722 rfl ?_
  refine wp_iadd eL_723 ?_
  refine wp_scd (j := i + 1) eL_724 (by rw [n_lit 1, nI_add]) (by omega) hL ?_
  refine wp_aload_n 3 eL_725 rfl rfl ?_
  refine wp_iload_n 0 eL_726 rfl rfl ?_
  refine wp_iconst (v := 2) eL_727 rfl ?_
  refine wp_iadd eL_728 ?_
  refine wp_scd (j := i + 2) eL_729 (by rw [n_lit 2, nI_add]) (by omega) hL ?_
  refine wp_aload_n 3 eL_730 rfl rfl ?_
  refine wp_iload_n 0 eL_731 rfl rfl ?_
  refine wp_iconst (v := 3) eL_732 rfl ?_
  refine wp_iadd eL_733 ?_
  refine wp_scd (j := i + 3) eL_734 (by rw [n_lit 3, nI_add]) (by omega) hL ?_
  refine wp_cvL (as := [.int (scr G (i + 1)), .int (scr G (i + 2)), .int (scr G (i + 3))]) eL_735 cw_84 (sh10_K hM) rfl rfl (Nat.le_of_ble_eq_true rfl) h1 h2 h (fun M2 r2 hq => ?_)
  obtain ⟨hr, hs2⟩ := hq
  refine wp_icmp_eq (tgt := 1465) eL_738 (by decide) (fun _ => kk M2 hs2) (fun q => absurd hr q)
theorem k0_X10_trim : CK0 m_X10_trim 1 := ⟨(gw_1 (List.mem_of_getElem? (l := tables_1_1) (i := 1) (by decide +kernel)) rfl), (gw_3 (List.mem_of_getElem? (l := tables_1_3) (i := 204) (by decide +kernel)) rfl), ⟨by decide +kernel, by decide +kernel, by decide +kernel⟩, by decide⟩
theorem cw_85 : CKv "BurdenHouseLaw" 85 m_X10_trim 1 9 := ⟨k0_X10_trim, (gw_3 (List.mem_of_getElem? (l := tables_1_3) (i := 201) (by decide +kernel)) rfl), (gw_3 (List.mem_of_getElem? (l := tables_1_3) (i := 202) (by decide +kernel)) rfl), (gw_3 (List.mem_of_getElem? (l := tables_1_3) (i := 203) (by decide +kernel)) rfl), by decide, _, rfl⟩
theorem k0_X11_trim : CK0 m_X11_trim 1 := ⟨(gw_1 (List.mem_of_getElem? (l := tables_1_1) (i := 11) (by decide +kernel)) rfl), (gw_7 (List.mem_of_getElem? (l := tables_1_7) (i := 5) (by decide +kernel)) rfl), ⟨by decide +kernel, by decide +kernel, by decide +kernel⟩, by decide⟩
theorem cw_88 : CKv "BurdenHouseLaw" 88 m_X11_trim 1 10 := ⟨k0_X11_trim, (gw_7 (List.mem_of_getElem? (l := tables_1_7) (i := 2) (by decide +kernel)) rfl), (gw_7 (List.mem_of_getElem? (l := tables_1_7) (i := 3) (by decide +kernel)) rfl), (gw_7 (List.mem_of_getElem? (l := tables_1_7) (i := 4) (by decide +kernel)) rfl), by decide, _, rfl⟩
theorem lc_17 (G : Gl) (d : Nat) (hd : 70 ≤ d) {nm : String} {X : Sh} {M : Mm} {b m i mc ms ce sl : Nat} {Q : Sh → Mm → Option Value → Prop} (hS : Sh9 X b) (hM : Sh10 X m) (hbm : b + 266 ≤ m) (hL : G.2 23 ≤ 3072) (hi : i + 6 ≤ G.2 23) (h1 : ce ≤ mc) (h2 : sl ≤ ms) (hs : Sim M b m) (kk : ∀ M2, Sim M2 b m → Wp G (mLaw nm) (d + 1) mc ms ce sl 1465 [(3, .int (nI i)), (2, .ref m), (1, .ref b), (0, .ref (G.2 22))] [] X M2 Q) : Wp G (mLaw nm) (d + 1) mc ms ce sl 743 [(3, .int (nI i)), (2, .ref m), (1, .ref b), (0, .ref (G.2 22))] [] X M Q := by
  refine wp_aload_n 2 eL_743 rfl rfl ?_
  refine wp_aload_n 3 eL_744 rfl rfl ?_
  refine wp_iload_n 0 eL_745 rfl rfl ?_
  refine wp_iconst (v := 1) eL_746 rfl ?_
  refine wp_iadd eL_747 ?_
  refine wp_scd (j := i + 1) eL_748 (by rw [n_lit 1, nI_add]) (by omega) hL ?_
  refine wp_cvL (as := [.int (scr G (i + 1))]) eL_749 cw_85 (sh9_K hS) rfl rfl (Nat.le_of_ble_eq_true rfl) h1 h2 (case_trim G d (by omega) X b m hS hM hbm (scr G (i + 1)) M hs) (fun M1 r1 h => ?_)
  refine wp_aload_n 1 eL_752 rfl rfl ?_
  refine wp_aload_n 3 eL_753 rfl rfl ?_
  refine wp_iload_n 0 eL_754 rfl rfl ?_
  refine wp_iconst (v := 1) eL_755 rfl ?_
  refine wp_iadd eL_756 ?_
  refine wp_scd (j := i + 1) eL_757 (by rw [n_lit 1, nI_add]) (by omega) hL ?_
  refine wp_cvL (as := [.int (scr G (i + 1))]) eL_758 cw_88 (sh10_K hM) rfl rfl (Nat.le_of_ble_eq_true rfl) h1 h2 h (fun M2 r2 hq => ?_)
  obtain ⟨hr, hs2⟩ := hq
  refine wp_icmp_eq (tgt := 1465) eL_761 (by decide) (fun _ => kk M2 hs2) (fun q => absurd hr q)
theorem k0_X10_text : CK0 m_X10_text 0 := ⟨(gw_1 (List.mem_of_getElem? (l := tables_1_1) (i := 1) (by decide +kernel)) rfl), (gw_3 (List.mem_of_getElem? (l := tables_1_3) (i := 208) (by decide +kernel)) rfl), ⟨by decide +kernel, by decide +kernel, by decide +kernel⟩, by decide⟩
theorem cw_89 : CKv "BurdenHouseLaw" 89 m_X10_text 0 9 := ⟨k0_X10_text, (gw_3 (List.mem_of_getElem? (l := tables_1_3) (i := 205) (by decide +kernel)) rfl), (gw_3 (List.mem_of_getElem? (l := tables_1_3) (i := 206) (by decide +kernel)) rfl), (gw_3 (List.mem_of_getElem? (l := tables_1_3) (i := 207) (by decide +kernel)) rfl), by decide, _, rfl⟩
theorem k0_X11_text : CK0 m_X11_text 0 := ⟨(gw_1 (List.mem_of_getElem? (l := tables_1_1) (i := 11) (by decide +kernel)) rfl), (gw_7 (List.mem_of_getElem? (l := tables_1_7) (i := 9) (by decide +kernel)) rfl), ⟨by decide +kernel, by decide +kernel, by decide +kernel⟩, by decide⟩
theorem cw_92 : CKv "BurdenHouseLaw" 92 m_X11_text 0 10 := ⟨k0_X11_text, (gw_7 (List.mem_of_getElem? (l := tables_1_7) (i := 6) (by decide +kernel)) rfl), (gw_7 (List.mem_of_getElem? (l := tables_1_7) (i := 7) (by decide +kernel)) rfl), (gw_7 (List.mem_of_getElem? (l := tables_1_7) (i := 8) (by decide +kernel)) rfl), by decide, _, rfl⟩
theorem lc_18 (G : Gl) (d : Nat) (hd : 70 ≤ d) {nm : String} {X : Sh} {M : Mm} {b m i mc ms ce sl : Nat} {Q : Sh → Mm → Option Value → Prop} (hS : Sh9 X b) (hM : Sh10 X m) (hbm : b + 266 ≤ m) (hL : G.2 23 ≤ 3072) (hi : i + 6 ≤ G.2 23) (h1 : ce ≤ mc) (h2 : sl ≤ ms) (hs : Sim M b m) (kk : ∀ M2, Sim M2 b m → Wp G (mLaw nm) (d + 1) mc ms ce sl 1465 [(3, .int (nI i)), (2, .ref m), (1, .ref b), (0, .ref (G.2 22))] [] X M2 Q) : Wp G (mLaw nm) (d + 1) mc ms ce sl 766 [(3, .int (nI i)), (2, .ref m), (1, .ref b), (0, .ref (G.2 22))] [] X M Q := by
  refine wp_aload_n 2 eL_766 rfl rfl ?_
  refine wp_cvL (as := []) eL_767 cw_89 (sh9_K hS) rfl rfl (Nat.le_of_ble_eq_true rfl) h1 h2 (case_text G d (by omega) X b m hS hM hbm M hs) (fun M1 r1 h => ?_)
  refine wp_aload_n 1 eL_770 rfl rfl ?_
  refine wp_cvL (as := []) eL_771 cw_92 (sh10_K hM) rfl rfl (Nat.le_of_ble_eq_true rfl) h1 h2 h (fun M2 r2 hq => ?_)
  obtain ⟨hr, hs2⟩ := hq
  refine wp_icmp_eq (tgt := 1465) eL_774 (by decide) (fun _ => kk M2 hs2) (fun q => absurd hr q)
theorem k0_X10_textTold : CK0 m_X10_textTold 2 := ⟨(gw_1 (List.mem_of_getElem? (l := tables_1_1) (i := 1) (by decide +kernel)) rfl), (gw_4 (List.mem_of_getElem? (l := tables_1_4) (i := 164) (by decide +kernel)) rfl), ⟨by decide +kernel, by decide +kernel, by decide +kernel⟩, by decide⟩
theorem cw_93 : CKv "BurdenHouseLaw" 93 m_X10_textTold 2 9 := ⟨k0_X10_textTold, (gw_4 (List.mem_of_getElem? (l := tables_1_4) (i := 161) (by decide +kernel)) rfl), (gw_4 (List.mem_of_getElem? (l := tables_1_4) (i := 162) (by decide +kernel)) rfl), (gw_4 (List.mem_of_getElem? (l := tables_1_4) (i := 163) (by decide +kernel)) rfl), by decide, _, rfl⟩
theorem k0_X11_textTold : CK0 m_X11_textTold 2 := ⟨(gw_1 (List.mem_of_getElem? (l := tables_1_1) (i := 11) (by decide +kernel)) rfl), (gw_7 (List.mem_of_getElem? (l := tables_1_7) (i := 76) (by decide +kernel)) rfl), ⟨by decide +kernel, by decide +kernel, by decide +kernel⟩, by decide⟩
theorem cw_96 : CKv "BurdenHouseLaw" 96 m_X11_textTold 2 10 := ⟨k0_X11_textTold, (gw_7 (List.mem_of_getElem? (l := tables_1_7) (i := 73) (by decide +kernel)) rfl), (gw_7 (List.mem_of_getElem? (l := tables_1_7) (i := 74) (by decide +kernel)) rfl), (gw_7 (List.mem_of_getElem? (l := tables_1_7) (i := 75) (by decide +kernel)) rfl), by decide, _, rfl⟩
theorem lc_19 (G : Gl) (d : Nat) (hd : 70 ≤ d) {nm : String} {X : Sh} {M : Mm} {b m i mc ms ce sl : Nat} {Q : Sh → Mm → Option Value → Prop} (hS : Sh9 X b) (hM : Sh10 X m) (hbm : b + 266 ≤ m) (hL : G.2 23 ≤ 3072) (hi : i + 6 ≤ G.2 23) (h1 : ce ≤ mc) (h2 : sl ≤ ms) (hs : Sim M b m) (kk : ∀ M2, Sim M2 b m → Wp G (mLaw nm) (d + 1) mc ms ce sl 1465 [(3, .int (nI i)), (2, .ref m), (1, .ref b), (0, .ref (G.2 22))] [] X M2 Q) : Wp G (mLaw nm) (d + 1) mc ms ce sl 779 [(3, .int (nI i)), (2, .ref m), (1, .ref b), (0, .ref (G.2 22))] [] X M Q := by
  refine wp_aload_n 2 eL_779 rfl rfl ?_
  refine wp_aload_n 3 eL_780 rfl rfl ?_
  refine wp_iload_n 0 eL_781 rfl rfl ?_
  refine wp_iconst (v := 1) eL_782 rfl ?_
  refine wp_iadd eL_783 ?_
  refine wp_scd (j := i + 1) eL_784 (by rw [n_lit 1, nI_add]) (by omega) hL ?_
  refine wp_aload_n 3 eL_785 rfl rfl ?_
  refine wp_iload_n 0 eL_786 rfl rfl ?_
  refine wp_iconst (v := 2) eL_787 rfl ?_
  refine wp_iadd eL_788 ?_
  refine wp_scd (j := i + 2) eL_789 (by rw [n_lit 2, nI_add]) (by omega) hL ?_
  refine wp_cvL (as := [.int (scr G (i + 1)), .int (scr G (i + 2))]) eL_790 cw_93 (sh9_K hS) rfl rfl (Nat.le_of_ble_eq_true rfl) h1 h2 (case_textTold G d (by omega) X b m hS hM (scr G (i + 1)) (scr G (i + 2)) M hs) (fun M1 r1 h => ?_)
  refine wp_aload_n 1 eL_793 rfl rfl ?_
  refine wp_aload_n 3 eL_794 rfl rfl ?_
  refine wp_iload_n 0 eL_795 rfl rfl ?_
  refine wp_iconst (v := 1) eL_796 rfl ?_
  refine wp_iadd eL_797 ?_
  refine wp_scd (j := i + 1) eL_798 (by rw [n_lit 1, nI_add]) (by omega) hL ?_
  refine wp_aload_n 3 eL_799 rfl rfl ?_
  refine wp_iload_n 0 eL_800 rfl rfl ?_
  refine wp_iconst (v := 2) eL_801 rfl ?_
  refine wp_iadd eL_802 ?_
  refine wp_scd (j := i + 2) eL_803 (by rw [n_lit 2, nI_add]) (by omega) hL ?_
  refine wp_cvL (as := [.int (scr G (i + 1)), .int (scr G (i + 2))]) eL_804 cw_96 (sh10_K hM) rfl rfl (Nat.le_of_ble_eq_true rfl) h1 h2 h (fun M2 r2 hq => ?_)
  obtain ⟨hr, hs2⟩ := hq
  refine wp_icmp_eq (tgt := 1465) eL_807 (by decide) (fun _ => kk M2 hs2) (fun q => absurd hr q)
theorem k0_X10_why : CK0 m_X10_why 2 := ⟨(gw_1 (List.mem_of_getElem? (l := tables_1_1) (i := 1) (by decide +kernel)) rfl), (gw_4 (List.mem_of_getElem? (l := tables_1_4) (i := 172) (by decide +kernel)) rfl), ⟨by decide +kernel, by decide +kernel, by decide +kernel⟩, by decide⟩
theorem cw_97 : CKv "BurdenHouseLaw" 97 m_X10_why 2 9 := ⟨k0_X10_why, (gw_4 (List.mem_of_getElem? (l := tables_1_4) (i := 169) (by decide +kernel)) rfl), (gw_4 (List.mem_of_getElem? (l := tables_1_4) (i := 170) (by decide +kernel)) rfl), (gw_4 (List.mem_of_getElem? (l := tables_1_4) (i := 171) (by decide +kernel)) rfl), by decide, _, rfl⟩
theorem k0_X11_why : CK0 m_X11_why 2 := ⟨(gw_1 (List.mem_of_getElem? (l := tables_1_1) (i := 11) (by decide +kernel)) rfl), (gw_7 (List.mem_of_getElem? (l := tables_1_7) (i := 84) (by decide +kernel)) rfl), ⟨by decide +kernel, by decide +kernel, by decide +kernel⟩, by decide⟩
theorem cw_100 : CKv "BurdenHouseLaw" 100 m_X11_why 2 10 := ⟨k0_X11_why, (gw_7 (List.mem_of_getElem? (l := tables_1_7) (i := 81) (by decide +kernel)) rfl), (gw_7 (List.mem_of_getElem? (l := tables_1_7) (i := 82) (by decide +kernel)) rfl), (gw_7 (List.mem_of_getElem? (l := tables_1_7) (i := 83) (by decide +kernel)) rfl), by decide, _, rfl⟩
theorem lc_20 (G : Gl) (d : Nat) (hd : 70 ≤ d) {nm : String} {X : Sh} {M : Mm} {b m i mc ms ce sl : Nat} {Q : Sh → Mm → Option Value → Prop} (hS : Sh9 X b) (hM : Sh10 X m) (hbm : b + 266 ≤ m) (hL : G.2 23 ≤ 3072) (hi : i + 6 ≤ G.2 23) (h1 : ce ≤ mc) (h2 : sl ≤ ms) (hs : Sim M b m) (kk : ∀ M2, Sim M2 b m → Wp G (mLaw nm) (d + 1) mc ms ce sl 1465 [(3, .int (nI i)), (2, .ref m), (1, .ref b), (0, .ref (G.2 22))] [] X M2 Q) : Wp G (mLaw nm) (d + 1) mc ms ce sl 812 [(3, .int (nI i)), (2, .ref m), (1, .ref b), (0, .ref (G.2 22))] [] X M Q := by
  refine wp_aload_n 2 eL_812 rfl rfl ?_
  refine wp_aload_n 3 eL_813 rfl rfl ?_
  refine wp_iload_n 0 eL_814 rfl rfl ?_
  refine wp_iconst (v := 1) eL_815 rfl ?_
  refine wp_iadd eL_816 ?_
  refine wp_scd (j := i + 1) eL_817 (by rw [n_lit 1, nI_add]) (by omega) hL ?_
  refine wp_aload_n 3 eL_818 rfl rfl ?_
  refine wp_iload_n 0 eL_819 rfl rfl ?_
  refine wp_iconst (v := 2) eL_820 rfl ?_
  refine wp_iadd eL_821 ?_
  refine wp_scd (j := i + 2) eL_822 (by rw [n_lit 2, nI_add]) (by omega) hL ?_
  refine wp_cvL (as := [.int (scr G (i + 1)), .int (scr G (i + 2))]) eL_823 cw_97 (sh9_K hS) rfl rfl (Nat.le_of_ble_eq_true rfl) h1 h2 (case_why G d (by omega) X b m hS hM (scr G (i + 1)) (scr G (i + 2)) M hs) (fun M1 r1 h => ?_)
  refine wp_aload_n 1 eL_826 rfl rfl ?_
  refine wp_aload_n 3 eL_827 rfl rfl ?_
  refine wp_iload_n 0 eL_828 rfl rfl ?_
  refine wp_iconst (v := 1) eL_829 rfl ?_
  refine wp_iadd eL_830 ?_
  refine wp_scd (j := i + 1) eL_831 (by rw [n_lit 1, nI_add]) (by omega) hL ?_
  refine wp_aload_n 3 eL_832 rfl rfl ?_
  refine wp_iload_n 0 eL_833 rfl rfl ?_
  refine wp_iconst (v := 2) eL_834 rfl ?_
  refine wp_iadd eL_835 ?_
  refine wp_scd (j := i + 2) eL_836 (by rw [n_lit 2, nI_add]) (by omega) hL ?_
  refine wp_cvL (as := [.int (scr G (i + 1)), .int (scr G (i + 2))]) eL_837 cw_100 (sh10_K hM) rfl rfl (Nat.le_of_ble_eq_true rfl) h1 h2 h (fun M2 r2 hq => ?_)
  obtain ⟨hr, hs2⟩ := hq
  refine wp_icmp_eq (tgt := 1465) eL_840 (by decide) (fun _ => kk M2 hs2) (fun q => absurd hr q)
theorem k0_X10_choose : CK0 m_X10_choose 1 := ⟨(gw_1 (List.mem_of_getElem? (l := tables_1_1) (i := 1) (by decide +kernel)) rfl), (gw_4 (List.mem_of_getElem? (l := tables_1_4) (i := 177) (by decide +kernel)) rfl), ⟨by decide +kernel, by decide +kernel, by decide +kernel⟩, by decide⟩
theorem cw_101 : CKv "BurdenHouseLaw" 101 m_X10_choose 1 9 := ⟨k0_X10_choose, (gw_4 (List.mem_of_getElem? (l := tables_1_4) (i := 174) (by decide +kernel)) rfl), (gw_4 (List.mem_of_getElem? (l := tables_1_4) (i := 175) (by decide +kernel)) rfl), (gw_4 (List.mem_of_getElem? (l := tables_1_4) (i := 176) (by decide +kernel)) rfl), by decide, _, rfl⟩
theorem k0_X11_choose : CK0 m_X11_choose 1 := ⟨(gw_1 (List.mem_of_getElem? (l := tables_1_1) (i := 11) (by decide +kernel)) rfl), (gw_7 (List.mem_of_getElem? (l := tables_1_7) (i := 88) (by decide +kernel)) rfl), ⟨by decide +kernel, by decide +kernel, by decide +kernel⟩, by decide⟩
theorem cw_104 : CKv "BurdenHouseLaw" 104 m_X11_choose 1 10 := ⟨k0_X11_choose, (gw_7 (List.mem_of_getElem? (l := tables_1_7) (i := 85) (by decide +kernel)) rfl), (gw_7 (List.mem_of_getElem? (l := tables_1_7) (i := 86) (by decide +kernel)) rfl), (gw_7 (List.mem_of_getElem? (l := tables_1_7) (i := 87) (by decide +kernel)) rfl), by decide, _, rfl⟩
theorem lc_21 (G : Gl) (d : Nat) (hd : 70 ≤ d) {nm : String} {X : Sh} {M : Mm} {b m i mc ms ce sl : Nat} {Q : Sh → Mm → Option Value → Prop} (hS : Sh9 X b) (hM : Sh10 X m) (hbm : b + 266 ≤ m) (hL : G.2 23 ≤ 3072) (hi : i + 6 ≤ G.2 23) (h1 : ce ≤ mc) (h2 : sl ≤ ms) (hs : Sim M b m) (kk : ∀ M2, Sim M2 b m → Wp G (mLaw nm) (d + 1) mc ms ce sl 1465 [(3, .int (nI i)), (2, .ref m), (1, .ref b), (0, .ref (G.2 22))] [] X M2 Q) : Wp G (mLaw nm) (d + 1) mc ms ce sl 845 [(3, .int (nI i)), (2, .ref m), (1, .ref b), (0, .ref (G.2 22))] [] X M Q := by
  refine wp_aload_n 2 eL_845 rfl rfl ?_
  refine wp_aload_n 3 eL_846 rfl rfl ?_
  refine wp_iload_n 0 eL_847 rfl rfl ?_
  refine wp_iconst (v := 1) eL_848 rfl ?_
  refine wp_iadd eL_849 ?_
  refine wp_scd (j := i + 1) eL_850 (by rw [n_lit 1, nI_add]) (by omega) hL ?_
  refine wp_cvL (as := [.int (scr G (i + 1))]) eL_851 cw_101 (sh9_K hS) rfl rfl (Nat.le_of_ble_eq_true rfl) h1 h2 (case_choose G d (by omega) X b m hS hM hbm (scr G (i + 1)) M hs) (fun M1 r1 h => ?_)
  refine wp_aload_n 1 eL_854 rfl rfl ?_
  refine wp_aload_n 3 eL_855 rfl rfl ?_
  refine wp_iload_n 0 eL_856 rfl rfl ?_
  refine wp_iconst (v := 1) eL_857 rfl ?_
  refine wp_iadd eL_858 ?_
  refine wp_scd (j := i + 1) eL_859 (by rw [n_lit 1, nI_add]) (by omega) hL ?_
  refine wp_cvL (as := [.int (scr G (i + 1))]) eL_860 cw_104 (sh10_K hM) rfl rfl (Nat.le_of_ble_eq_true rfl) h1 h2 h (fun M2 r2 hq => ?_)
  obtain ⟨hr, hs2⟩ := hq
  refine wp_icmp_eq (tgt := 1465) eL_863 (by decide) (fun _ => kk M2 hs2) (fun q => absurd hr q)
theorem k0_X10_clear : CK0 m_X10_clear 0 := ⟨(gw_1 (List.mem_of_getElem? (l := tables_1_1) (i := 1) (by decide +kernel)) rfl), (gw_4 (List.mem_of_getElem? (l := tables_1_4) (i := 189) (by decide +kernel)) rfl), ⟨by decide +kernel, by decide +kernel, by decide +kernel⟩, by decide⟩
theorem cw_105 : CKv "BurdenHouseLaw" 105 m_X10_clear 0 9 := ⟨k0_X10_clear, (gw_4 (List.mem_of_getElem? (l := tables_1_4) (i := 186) (by decide +kernel)) rfl), (gw_4 (List.mem_of_getElem? (l := tables_1_4) (i := 187) (by decide +kernel)) rfl), (gw_4 (List.mem_of_getElem? (l := tables_1_4) (i := 188) (by decide +kernel)) rfl), by decide, _, rfl⟩
theorem k0_X11_clear : CK0 m_X11_clear 0 := ⟨(gw_1 (List.mem_of_getElem? (l := tables_1_1) (i := 11) (by decide +kernel)) rfl), (gw_7 (List.mem_of_getElem? (l := tables_1_7) (i := 92) (by decide +kernel)) rfl), ⟨by decide +kernel, by decide +kernel, by decide +kernel⟩, by decide⟩
theorem cw_108 : CKv "BurdenHouseLaw" 108 m_X11_clear 0 10 := ⟨k0_X11_clear, (gw_7 (List.mem_of_getElem? (l := tables_1_7) (i := 89) (by decide +kernel)) rfl), (gw_7 (List.mem_of_getElem? (l := tables_1_7) (i := 90) (by decide +kernel)) rfl), (gw_7 (List.mem_of_getElem? (l := tables_1_7) (i := 91) (by decide +kernel)) rfl), by decide, _, rfl⟩
theorem lc_22 (G : Gl) (d : Nat) (hd : 70 ≤ d) {nm : String} {X : Sh} {M : Mm} {b m i mc ms ce sl : Nat} {Q : Sh → Mm → Option Value → Prop} (hS : Sh9 X b) (hM : Sh10 X m) (hbm : b + 266 ≤ m) (hL : G.2 23 ≤ 3072) (hi : i + 6 ≤ G.2 23) (h1 : ce ≤ mc) (h2 : sl ≤ ms) (hs : Sim M b m) (kk : ∀ M2, Sim M2 b m → Wp G (mLaw nm) (d + 1) mc ms ce sl 1465 [(3, .int (nI i)), (2, .ref m), (1, .ref b), (0, .ref (G.2 22))] [] X M2 Q) : Wp G (mLaw nm) (d + 1) mc ms ce sl 868 [(3, .int (nI i)), (2, .ref m), (1, .ref b), (0, .ref (G.2 22))] [] X M Q := by
  refine wp_aload_n 2 eL_868 rfl rfl ?_
  refine wp_cvL (as := []) eL_869 cw_105 (sh9_K hS) rfl rfl (Nat.le_of_ble_eq_true rfl) h1 h2 (case_clear G d (by omega) X b m hS hM hbm M hs) (fun M1 r1 h => ?_)
  refine wp_aload_n 1 eL_872 rfl rfl ?_
  refine wp_cvL (as := []) eL_873 cw_108 (sh10_K hM) rfl rfl (Nat.le_of_ble_eq_true rfl) h1 h2 h (fun M2 r2 hq => ?_)
  obtain ⟨hr, hs2⟩ := hq
  refine wp_icmp_eq (tgt := 1465) eL_876 (by decide) (fun _ => kk M2 hs2) (fun q => absurd hr q)
theorem k0_X10_burden : CK0 m_X10_burden 3 := ⟨(gw_1 (List.mem_of_getElem? (l := tables_1_1) (i := 1) (by decide +kernel)) rfl), (gw_4 (List.mem_of_getElem? (l := tables_1_4) (i := 193) (by decide +kernel)) rfl), ⟨by decide +kernel, by decide +kernel, by decide +kernel⟩, by decide⟩
theorem cw_109 : CKv "BurdenHouseLaw" 109 m_X10_burden 3 9 := ⟨k0_X10_burden, (gw_4 (List.mem_of_getElem? (l := tables_1_4) (i := 190) (by decide +kernel)) rfl), (gw_4 (List.mem_of_getElem? (l := tables_1_4) (i := 191) (by decide +kernel)) rfl), (gw_4 (List.mem_of_getElem? (l := tables_1_4) (i := 192) (by decide +kernel)) rfl), by decide, _, rfl⟩
theorem k0_X11_burden : CK0 m_X11_burden 3 := ⟨(gw_1 (List.mem_of_getElem? (l := tables_1_1) (i := 11) (by decide +kernel)) rfl), (gw_7 (List.mem_of_getElem? (l := tables_1_7) (i := 96) (by decide +kernel)) rfl), ⟨by decide +kernel, by decide +kernel, by decide +kernel⟩, by decide⟩
theorem cw_112 : CKv "BurdenHouseLaw" 112 m_X11_burden 3 10 := ⟨k0_X11_burden, (gw_7 (List.mem_of_getElem? (l := tables_1_7) (i := 93) (by decide +kernel)) rfl), (gw_7 (List.mem_of_getElem? (l := tables_1_7) (i := 94) (by decide +kernel)) rfl), (gw_7 (List.mem_of_getElem? (l := tables_1_7) (i := 95) (by decide +kernel)) rfl), by decide, _, rfl⟩
theorem lc_23 (G : Gl) (d : Nat) (hd : 70 ≤ d) {nm : String} {X : Sh} {M : Mm} {b m i mc ms ce sl : Nat} {Q : Sh → Mm → Option Value → Prop} (hS : Sh9 X b) (hM : Sh10 X m) (hbm : b + 266 ≤ m) (hL : G.2 23 ≤ 3072) (hi : i + 6 ≤ G.2 23) (h1 : ce ≤ mc) (h2 : sl ≤ ms) (hs : Sim M b m) (kk : ∀ M2, Sim M2 b m → Wp G (mLaw nm) (d + 1) mc ms ce sl 1465 [(3, .int (nI i)), (2, .ref m), (1, .ref b), (0, .ref (G.2 22))] [] X M2 Q) : Wp G (mLaw nm) (d + 1) mc ms ce sl 881 [(3, .int (nI i)), (2, .ref m), (1, .ref b), (0, .ref (G.2 22))] [] X M Q := by
  refine wp_aload_n 2 eL_881 rfl rfl ?_
  refine wp_aload_n 3 eL_882 rfl rfl ?_
  refine wp_iload_n 0 eL_883 rfl rfl ?_
  refine wp_iconst (v := 1) eL_884 rfl ?_
  refine wp_iadd eL_885 ?_
  refine wp_scd (j := i + 1) eL_886 (by rw [n_lit 1, nI_add]) (by omega) hL ?_
  refine wp_aload_n 3 eL_887 rfl rfl ?_
  refine wp_iload_n 0 eL_888 rfl rfl ?_
  refine wp_iconst (v := 2) eL_889 rfl ?_
  refine wp_iadd eL_890 ?_
  refine wp_scd (j := i + 2) eL_891 (by rw [n_lit 2, nI_add]) (by omega) hL ?_
  refine wp_aload_n 3 eL_892 rfl rfl ?_
  refine wp_iload_n 0 eL_893 rfl rfl ?_
  refine wp_iconst (v := 3) eL_894 rfl ?_
  refine wp_iadd eL_895 ?_
  refine wp_scd (j := i + 3) eL_896 (by rw [n_lit 3, nI_add]) (by omega) hL ?_
  refine wp_cvL (as := [.int (scr G (i + 1)), .int (scr G (i + 2)), .int (scr G (i + 3))]) eL_897 cw_109 (sh9_K hS) rfl rfl (Nat.le_of_ble_eq_true rfl) h1 h2 (case_burden G d (by omega) X b m hS hM (scr G (i + 1)) (scr G (i + 2)) (scr G (i + 3)) M hs) (fun M1 r1 h => ?_)
  refine wp_aload_n 1 eL_900 rfl rfl ?_
  refine wp_aload_n 3 eL_901 rfl rfl ?_
  refine wp_iload_n 0 eL_902 rfl rfl ?_
  refine wp_iconst (v := 1) eL_903 rfl ?_
  refine wp_iadd eL_904 ?_
  refine wp_scd (j := i + 1) eL_905 (by rw [n_lit 1, nI_add]) (by omega) hL ?_
  refine wp_aload_n 3 eL_906 rfl rfl ?_
  refine wp_iload_n 0 eL_907 rfl rfl ?_
  refine wp_iconst (v := 2) eL_908 rfl ?_
  refine wp_iadd eL_909 ?_
  refine wp_scd (j := i + 2) eL_910 (by rw [n_lit 2, nI_add]) (by omega) hL ?_
  refine wp_aload_n 3 eL_911 rfl rfl ?_
  refine wp_iload_n 0 eL_912 rfl rfl ?_
  refine wp_iconst (v := 3) eL_913 rfl ?_
  refine wp_iadd eL_914 ?_
  refine wp_scd (j := i + 3) eL_915 (by rw [n_lit 3, nI_add]) (by omega) hL ?_
  refine wp_cvL (as := [.int (scr G (i + 1)), .int (scr G (i + 2)), .int (scr G (i + 3))]) eL_916 cw_112 (sh10_K hM) rfl rfl (Nat.le_of_ble_eq_true rfl) h1 h2 h (fun M2 r2 hq => ?_)
  obtain ⟨hr, hs2⟩ := hq
  refine wp_icmp_eq (tgt := 1465) eL_919 (by decide) (fun _ => kk M2 hs2) (fun q => absurd hr q)
theorem k0_X10_ladle : CK0 m_X10_ladle 1 := ⟨(gw_1 (List.mem_of_getElem? (l := tables_1_1) (i := 1) (by decide +kernel)) rfl), (gw_4 (List.mem_of_getElem? (l := tables_1_4) (i := 223) (by decide +kernel)) rfl), ⟨by decide +kernel, by decide +kernel, by decide +kernel⟩, by decide⟩
theorem cw_113 : CKv "BurdenHouseLaw" 113 m_X10_ladle 1 9 := ⟨k0_X10_ladle, (gw_4 (List.mem_of_getElem? (l := tables_1_4) (i := 220) (by decide +kernel)) rfl), (gw_4 (List.mem_of_getElem? (l := tables_1_4) (i := 221) (by decide +kernel)) rfl), (gw_4 (List.mem_of_getElem? (l := tables_1_4) (i := 222) (by decide +kernel)) rfl), by decide, _, rfl⟩
theorem k0_X11_ladle : CK0 m_X11_ladle 1 := ⟨(gw_1 (List.mem_of_getElem? (l := tables_1_1) (i := 11) (by decide +kernel)) rfl), (gw_7 (List.mem_of_getElem? (l := tables_1_7) (i := 105) (by decide +kernel)) rfl), ⟨by decide +kernel, by decide +kernel, by decide +kernel⟩, by decide⟩
theorem cw_116 : CKv "BurdenHouseLaw" 116 m_X11_ladle 1 10 := ⟨k0_X11_ladle, (gw_7 (List.mem_of_getElem? (l := tables_1_7) (i := 102) (by decide +kernel)) rfl), (gw_7 (List.mem_of_getElem? (l := tables_1_7) (i := 103) (by decide +kernel)) rfl), (gw_7 (List.mem_of_getElem? (l := tables_1_7) (i := 104) (by decide +kernel)) rfl), by decide, _, rfl⟩
theorem lc_24 (G : Gl) (d : Nat) (hd : 70 ≤ d) {nm : String} {X : Sh} {M : Mm} {b m i mc ms ce sl : Nat} {Q : Sh → Mm → Option Value → Prop} (hS : Sh9 X b) (hM : Sh10 X m) (hbm : b + 266 ≤ m) (hL : G.2 23 ≤ 3072) (hi : i + 6 ≤ G.2 23) (h1 : ce ≤ mc) (h2 : sl ≤ ms) (hs : Sim M b m) (kk : ∀ M2, Sim M2 b m → Wp G (mLaw nm) (d + 1) mc ms ce sl 1465 [(3, .int (nI i)), (2, .ref m), (1, .ref b), (0, .ref (G.2 22))] [] X M2 Q) : Wp G (mLaw nm) (d + 1) mc ms ce sl 924 [(3, .int (nI i)), (2, .ref m), (1, .ref b), (0, .ref (G.2 22))] [] X M Q := by
  refine wp_aload_n 2 eL_924 rfl rfl ?_
  refine wp_aload_n 3 eL_925 rfl rfl ?_
  refine wp_iload_n 0 eL_926 rfl rfl ?_
  refine wp_iconst (v := 1) eL_927 rfl ?_
  refine wp_iadd eL_928 ?_
  refine wp_scd (j := i + 1) eL_929 (by rw [n_lit 1, nI_add]) (by omega) hL ?_
  refine wp_cvL (as := [.int (scr G (i + 1))]) eL_930 cw_113 (sh9_K hS) rfl rfl (Nat.le_of_ble_eq_true rfl) h1 h2 (case_ladle G d (by omega) X b m hS hM hbm (scr G (i + 1)) M hs) (fun M1 r1 h => ?_)
  refine wp_aload_n 1 eL_933 rfl rfl ?_
  refine wp_aload_n 3 eL_934 rfl rfl ?_
  refine wp_iload_n 0 eL_935 rfl rfl ?_
  refine wp_iconst (v := 1) eL_936 rfl ?_
  refine wp_iadd eL_937 ?_
  refine wp_scd (j := i + 1) eL_938 (by rw [n_lit 1, nI_add]) (by omega) hL ?_
  refine wp_cvL (as := [.int (scr G (i + 1))]) eL_939 cw_116 (sh10_K hM) rfl rfl (Nat.le_of_ble_eq_true rfl) h1 h2 h (fun M2 r2 hq => ?_)
  obtain ⟨hr, hs2⟩ := hq
  refine wp_icmp_eq (tgt := 1465) eL_942 (by decide) (fun _ => kk M2 hs2) (fun q => absurd hr q)
theorem k0_X10_backAt : CK0 m_X10_backAt 1 := ⟨(gw_1 (List.mem_of_getElem? (l := tables_1_1) (i := 1) (by decide +kernel)) rfl), (gw_4 (List.mem_of_getElem? (l := tables_1_4) (i := 232) (by decide +kernel)) rfl), ⟨by decide +kernel, by decide +kernel, by decide +kernel⟩, by decide⟩
theorem cw_117 : CKv "BurdenHouseLaw" 117 m_X10_backAt 1 9 := ⟨k0_X10_backAt, (gw_4 (List.mem_of_getElem? (l := tables_1_4) (i := 229) (by decide +kernel)) rfl), (gw_4 (List.mem_of_getElem? (l := tables_1_4) (i := 230) (by decide +kernel)) rfl), (gw_4 (List.mem_of_getElem? (l := tables_1_4) (i := 231) (by decide +kernel)) rfl), by decide, _, rfl⟩
theorem k0_X11_backAt : CK0 m_X11_backAt 1 := ⟨(gw_1 (List.mem_of_getElem? (l := tables_1_1) (i := 11) (by decide +kernel)) rfl), (gw_7 (List.mem_of_getElem? (l := tables_1_7) (i := 113) (by decide +kernel)) rfl), ⟨by decide +kernel, by decide +kernel, by decide +kernel⟩, by decide⟩
theorem cw_120 : CKv "BurdenHouseLaw" 120 m_X11_backAt 1 10 := ⟨k0_X11_backAt, (gw_7 (List.mem_of_getElem? (l := tables_1_7) (i := 110) (by decide +kernel)) rfl), (gw_7 (List.mem_of_getElem? (l := tables_1_7) (i := 111) (by decide +kernel)) rfl), (gw_7 (List.mem_of_getElem? (l := tables_1_7) (i := 112) (by decide +kernel)) rfl), by decide, _, rfl⟩
theorem lc_25 (G : Gl) (d : Nat) (hd : 70 ≤ d) {nm : String} {X : Sh} {M : Mm} {b m i mc ms ce sl : Nat} {Q : Sh → Mm → Option Value → Prop} (hS : Sh9 X b) (hM : Sh10 X m) (hbm : b + 266 ≤ m) (hL : G.2 23 ≤ 3072) (hi : i + 6 ≤ G.2 23) (h1 : ce ≤ mc) (h2 : sl ≤ ms) (hs : Sim M b m) (kk : ∀ M2, Sim M2 b m → Wp G (mLaw nm) (d + 1) mc ms ce sl 1465 [(3, .int (nI i)), (2, .ref m), (1, .ref b), (0, .ref (G.2 22))] [] X M2 Q) : Wp G (mLaw nm) (d + 1) mc ms ce sl 947 [(3, .int (nI i)), (2, .ref m), (1, .ref b), (0, .ref (G.2 22))] [] X M Q := by
  refine wp_aload_n 2 eL_947 rfl rfl ?_
  refine wp_aload_n 3 eL_948 rfl rfl ?_
  refine wp_iload_n 0 eL_949 rfl rfl ?_
  refine wp_iconst (v := 1) eL_950 rfl ?_
  refine wp_iadd eL_951 ?_
  refine wp_scd (j := i + 1) eL_952 (by rw [n_lit 1, nI_add]) (by omega) hL ?_
  refine wp_cvL (as := [.int (scr G (i + 1))]) eL_953 cw_117 (sh9_K hS) rfl rfl (Nat.le_of_ble_eq_true rfl) h1 h2 (case_backAt G d (by omega) X b m hS hM (scr G (i + 1)) M hs) (fun M1 r1 h => ?_)
  refine wp_aload_n 1 eL_956 rfl rfl ?_
  refine wp_aload_n 3 eL_957 rfl rfl ?_
  refine wp_iload_n 0 eL_958 rfl rfl ?_
  refine wp_iconst (v := 1) eL_959 rfl ?_
  refine wp_iadd eL_960 ?_
  refine wp_scd (j := i + 1) eL_961 (by rw [n_lit 1, nI_add]) (by omega) hL ?_
  refine wp_cvL (as := [.int (scr G (i + 1))]) eL_962 cw_120 (sh10_K hM) rfl rfl (Nat.le_of_ble_eq_true rfl) h1 h2 h (fun M2 r2 hq => ?_)
  obtain ⟨hr, hs2⟩ := hq
  refine wp_icmp_eq (tgt := 1465) eL_965 (by decide) (fun _ => kk M2 hs2) (fun q => absurd hr q)
theorem k0_X10_pour : CK0 m_X10_pour 2 := ⟨(gw_1 (List.mem_of_getElem? (l := tables_1_1) (i := 1) (by decide +kernel)) rfl), (gw_5 (List.mem_of_getElem? (l := tables_1_5) (i := 0) (by decide +kernel)) rfl), ⟨by decide +kernel, by decide +kernel, by decide +kernel⟩, by decide⟩
theorem cw_121 : CKv "BurdenHouseLaw" 121 m_X10_pour 2 9 := ⟨k0_X10_pour, (gw_4 (List.mem_of_getElem? (l := tables_1_4) (i := 237) (by decide +kernel)) rfl), (gw_4 (List.mem_of_getElem? (l := tables_1_4) (i := 238) (by decide +kernel)) rfl), (gw_4 (List.mem_of_getElem? (l := tables_1_4) (i := 239) (by decide +kernel)) rfl), by decide, _, rfl⟩
theorem k0_X11_pour : CK0 m_X11_pour 2 := ⟨(gw_1 (List.mem_of_getElem? (l := tables_1_1) (i := 11) (by decide +kernel)) rfl), (gw_7 (List.mem_of_getElem? (l := tables_1_7) (i := 118) (by decide +kernel)) rfl), ⟨by decide +kernel, by decide +kernel, by decide +kernel⟩, by decide⟩
theorem cw_124 : CKv "BurdenHouseLaw" 124 m_X11_pour 2 10 := ⟨k0_X11_pour, (gw_7 (List.mem_of_getElem? (l := tables_1_7) (i := 115) (by decide +kernel)) rfl), (gw_7 (List.mem_of_getElem? (l := tables_1_7) (i := 116) (by decide +kernel)) rfl), (gw_7 (List.mem_of_getElem? (l := tables_1_7) (i := 117) (by decide +kernel)) rfl), by decide, _, rfl⟩
theorem lc_26 (G : Gl) (d : Nat) (hd : 70 ≤ d) {nm : String} {X : Sh} {M : Mm} {b m i mc ms ce sl : Nat} {Q : Sh → Mm → Option Value → Prop} (hS : Sh9 X b) (hM : Sh10 X m) (hbm : b + 266 ≤ m) (hL : G.2 23 ≤ 3072) (hi : i + 6 ≤ G.2 23) (h1 : ce ≤ mc) (h2 : sl ≤ ms) (hs : Sim M b m) (kk : ∀ M2, Sim M2 b m → Wp G (mLaw nm) (d + 1) mc ms ce sl 1465 [(3, .int (nI i)), (2, .ref m), (1, .ref b), (0, .ref (G.2 22))] [] X M2 Q) : Wp G (mLaw nm) (d + 1) mc ms ce sl 970 [(3, .int (nI i)), (2, .ref m), (1, .ref b), (0, .ref (G.2 22))] [] X M Q := by
  refine wp_aload_n 2 eL_970 rfl rfl ?_
  refine wp_aload_n 3 eL_971 rfl rfl ?_
  refine wp_iload_n 0 eL_972 rfl rfl ?_
  refine wp_iconst (v := 1) eL_973 rfl ?_
  refine wp_iadd eL_974 ?_
  refine wp_scd (j := i + 1) eL_975 (by rw [n_lit 1, nI_add]) (by omega) hL ?_
  refine wp_aload_n 3 eL_976 rfl rfl ?_
  refine wp_iload_n 0 eL_977 rfl rfl ?_
  refine wp_iconst (v := 2) eL_978 rfl ?_
  refine wp_iadd eL_979 ?_
  refine wp_scd (j := i + 2) eL_980 (by rw [n_lit 2, nI_add]) (by omega) hL ?_
  refine wp_cvL (as := [.int (scr G (i + 1)), .int (scr G (i + 2))]) eL_981 cw_121 (sh9_K hS) rfl rfl (Nat.le_of_ble_eq_true rfl) h1 h2 (case_pour G d (by omega) X b m hS hM hbm (scr G (i + 1)) (scr G (i + 2)) M hs) (fun M1 r1 h => ?_)
  refine wp_aload_n 1 eL_984 rfl rfl ?_
  refine wp_aload_n 3 eL_985 rfl rfl ?_
  refine wp_iload_n 0 eL_986 rfl rfl ?_
  refine wp_iconst (v := 1) eL_987 rfl ?_
  refine wp_iadd eL_988 ?_
  refine wp_scd (j := i + 1) eL_989 (by rw [n_lit 1, nI_add]) (by omega) hL ?_
  refine wp_aload_n 3 eL_990 rfl rfl ?_
  refine wp_iload_n 0 eL_991 rfl rfl ?_
  refine wp_iconst (v := 2) eL_992 rfl ?_
  refine wp_iadd eL_993 ?_
  refine wp_scd (j := i + 2) eL_994 (by rw [n_lit 2, nI_add]) (by omega) hL ?_
  refine wp_cvL (as := [.int (scr G (i + 1)), .int (scr G (i + 2))]) eL_995 cw_124 (sh10_K hM) rfl rfl (Nat.le_of_ble_eq_true rfl) h1 h2 h (fun M2 r2 hq => ?_)
  obtain ⟨hr, hs2⟩ := hq
  refine wp_icmp_eq (tgt := 1465) eL_998 (by decide) (fun _ => kk M2 hs2) (fun q => absurd hr q)
theorem k0_X10_sheet : CK0 m_X10_sheet 3 := ⟨(gw_1 (List.mem_of_getElem? (l := tables_1_1) (i := 1) (by decide +kernel)) rfl), (gw_5 (List.mem_of_getElem? (l := tables_1_5) (i := 23) (by decide +kernel)) rfl), ⟨by decide +kernel, by decide +kernel, by decide +kernel⟩, by decide⟩
theorem cw_125 : CKv "BurdenHouseLaw" 125 m_X10_sheet 3 9 := ⟨k0_X10_sheet, (gw_5 (List.mem_of_getElem? (l := tables_1_5) (i := 20) (by decide +kernel)) rfl), (gw_5 (List.mem_of_getElem? (l := tables_1_5) (i := 21) (by decide +kernel)) rfl), (gw_5 (List.mem_of_getElem? (l := tables_1_5) (i := 22) (by decide +kernel)) rfl), by decide, _, rfl⟩
theorem k0_X11_sheet : CK0 m_X11_sheet 3 := ⟨(gw_1 (List.mem_of_getElem? (l := tables_1_1) (i := 11) (by decide +kernel)) rfl), (gw_7 (List.mem_of_getElem? (l := tables_1_7) (i := 122) (by decide +kernel)) rfl), ⟨by decide +kernel, by decide +kernel, by decide +kernel⟩, by decide⟩
theorem cw_128 : CKv "BurdenHouseLaw" 128 m_X11_sheet 3 10 := ⟨k0_X11_sheet, (gw_7 (List.mem_of_getElem? (l := tables_1_7) (i := 119) (by decide +kernel)) rfl), (gw_7 (List.mem_of_getElem? (l := tables_1_7) (i := 120) (by decide +kernel)) rfl), (gw_7 (List.mem_of_getElem? (l := tables_1_7) (i := 121) (by decide +kernel)) rfl), by decide, _, rfl⟩
theorem lc_27 (G : Gl) (d : Nat) (hd : 70 ≤ d) {nm : String} {X : Sh} {M : Mm} {b m i mc ms ce sl : Nat} {Q : Sh → Mm → Option Value → Prop} (hS : Sh9 X b) (hM : Sh10 X m) (hbm : b + 266 ≤ m) (hL : G.2 23 ≤ 3072) (hi : i + 6 ≤ G.2 23) (h1 : ce ≤ mc) (h2 : sl ≤ ms) (hs : Sim M b m) (kk : ∀ M2, Sim M2 b m → Wp G (mLaw nm) (d + 1) mc ms ce sl 1465 [(3, .int (nI i)), (2, .ref m), (1, .ref b), (0, .ref (G.2 22))] [] X M2 Q) : Wp G (mLaw nm) (d + 1) mc ms ce sl 1003 [(3, .int (nI i)), (2, .ref m), (1, .ref b), (0, .ref (G.2 22))] [] X M Q := by
  refine wp_aload_n 2 eL_1003 rfl rfl ?_
  refine wp_aload_n 3 eL_1004 rfl rfl ?_
  refine wp_iload_n 0 eL_1005 rfl rfl ?_
  refine wp_iconst (v := 1) eL_1006 rfl ?_
  refine wp_iadd eL_1007 ?_
  refine wp_scd (j := i + 1) eL_1008 (by rw [n_lit 1, nI_add]) (by omega) hL ?_
  refine wp_aload_n 3 eL_1009 rfl rfl ?_
  refine wp_iload_n 0 eL_1010 rfl rfl ?_
  refine wp_iconst (v := 2) eL_1011 rfl ?_
  refine wp_iadd eL_1012 ?_
  refine wp_scd (j := i + 2) eL_1013 (by rw [n_lit 2, nI_add]) (by omega) hL ?_
  refine wp_aload_n 3 eL_1014 rfl rfl ?_
  refine wp_iload_n 0 eL_1015 rfl rfl ?_
  refine wp_iconst (v := 3) eL_1016 rfl ?_
  refine wp_iadd eL_1017 ?_
  refine wp_scd (j := i + 3) eL_1018 (by rw [n_lit 3, nI_add]) (by omega) hL ?_
  refine wp_cvL (as := [.int (scr G (i + 1)), .int (scr G (i + 2)), .int (scr G (i + 3))]) eL_1019 cw_125 (sh9_K hS) rfl rfl (Nat.le_of_ble_eq_true rfl) h1 h2 (case_sheet G d (by omega) X b m hS hM hbm (scr G (i + 1)) (scr G (i + 2)) (scr G (i + 3)) M hs) (fun M1 r1 h => ?_)
  refine wp_aload_n 1 eL_1022 rfl rfl ?_
  refine wp_aload_n 3 eL_1023 rfl rfl ?_
  refine wp_iload_n 0 eL_1024 rfl rfl ?_
  refine wp_iconst (v := 1) eL_1025 rfl ?_
  refine wp_iadd eL_1026 ?_
  refine wp_scd (j := i + 1) eL_1027 (by rw [n_lit 1, nI_add]) (by omega) hL ?_
  refine wp_aload_n 3 eL_1028 rfl rfl ?_
  refine wp_iload_n 0 eL_1029 rfl rfl ?_
  refine wp_iconst (v := 2) eL_1030 rfl ?_
  refine wp_iadd eL_1031 ?_
  refine wp_scd (j := i + 2) eL_1032 (by rw [n_lit 2, nI_add]) (by omega) hL ?_
  refine wp_aload_n 3 eL_1033 rfl rfl ?_
  refine wp_iload_n 0 eL_1034 rfl rfl ?_
  refine wp_iconst (v := 3) eL_1035 rfl ?_
  refine wp_iadd eL_1036 ?_
  refine wp_scd (j := i + 3) eL_1037 (by rw [n_lit 3, nI_add]) (by omega) hL ?_
  refine wp_cvL (as := [.int (scr G (i + 1)), .int (scr G (i + 2)), .int (scr G (i + 3))]) eL_1038 cw_128 (sh10_K hM) rfl rfl (Nat.le_of_ble_eq_true rfl) h1 h2 h (fun M2 r2 hq => ?_)
  obtain ⟨hr, hs2⟩ := hq
  refine wp_icmp_eq (tgt := 1465) eL_1041 (by decide) (fun _ => kk M2 hs2) (fun q => absurd hr q)
theorem k0_X10_mark : CK0 m_X10_mark 3 := ⟨(gw_1 (List.mem_of_getElem? (l := tables_1_1) (i := 1) (by decide +kernel)) rfl), (gw_5 (List.mem_of_getElem? (l := tables_1_5) (i := 35) (by decide +kernel)) rfl), ⟨by decide +kernel, by decide +kernel, by decide +kernel⟩, by decide⟩
theorem cw_129 : CKv "BurdenHouseLaw" 129 m_X10_mark 3 9 := ⟨k0_X10_mark, (gw_5 (List.mem_of_getElem? (l := tables_1_5) (i := 32) (by decide +kernel)) rfl), (gw_5 (List.mem_of_getElem? (l := tables_1_5) (i := 33) (by decide +kernel)) rfl), (gw_5 (List.mem_of_getElem? (l := tables_1_5) (i := 34) (by decide +kernel)) rfl), by decide, _, rfl⟩
theorem k0_X11_mark : CK0 m_X11_mark 3 := ⟨(gw_1 (List.mem_of_getElem? (l := tables_1_1) (i := 11) (by decide +kernel)) rfl), (gw_7 (List.mem_of_getElem? (l := tables_1_7) (i := 130) (by decide +kernel)) rfl), ⟨by decide +kernel, by decide +kernel, by decide +kernel⟩, by decide⟩
theorem cw_132 : CKv "BurdenHouseLaw" 132 m_X11_mark 3 10 := ⟨k0_X11_mark, (gw_7 (List.mem_of_getElem? (l := tables_1_7) (i := 127) (by decide +kernel)) rfl), (gw_7 (List.mem_of_getElem? (l := tables_1_7) (i := 128) (by decide +kernel)) rfl), (gw_7 (List.mem_of_getElem? (l := tables_1_7) (i := 129) (by decide +kernel)) rfl), by decide, _, rfl⟩
theorem lc_28 (G : Gl) (d : Nat) (hd : 70 ≤ d) {nm : String} {X : Sh} {M : Mm} {b m i mc ms ce sl : Nat} {Q : Sh → Mm → Option Value → Prop} (hS : Sh9 X b) (hM : Sh10 X m) (hbm : b + 266 ≤ m) (hL : G.2 23 ≤ 3072) (hi : i + 6 ≤ G.2 23) (h1 : ce ≤ mc) (h2 : sl ≤ ms) (hs : Sim M b m) (kk : ∀ M2, Sim M2 b m → Wp G (mLaw nm) (d + 1) mc ms ce sl 1465 [(3, .int (nI i)), (2, .ref m), (1, .ref b), (0, .ref (G.2 22))] [] X M2 Q) : Wp G (mLaw nm) (d + 1) mc ms ce sl 1046 [(3, .int (nI i)), (2, .ref m), (1, .ref b), (0, .ref (G.2 22))] [] X M Q := by
  refine wp_aload_n 2 eL_1046 rfl rfl ?_
  refine wp_aload_n 3 eL_1047 rfl rfl ?_
  refine wp_iload_n 0 eL_1048 rfl rfl ?_
  refine wp_iconst (v := 1) eL_1049 rfl ?_
  refine wp_iadd eL_1050 ?_
  refine wp_scd (j := i + 1) eL_1051 (by rw [n_lit 1, nI_add]) (by omega) hL ?_
  refine wp_aload_n 3 eL_1052 rfl rfl ?_
  refine wp_iload_n 0 eL_1053 rfl rfl ?_
  refine wp_iconst (v := 2) eL_1054 rfl ?_
  refine wp_iadd eL_1055 ?_
  refine wp_scd (j := i + 2) eL_1056 (by rw [n_lit 2, nI_add]) (by omega) hL ?_
  refine wp_aload_n 3 eL_1057 rfl rfl ?_
  refine wp_iload_n 0 eL_1058 rfl rfl ?_
  refine wp_iconst (v := 3) eL_1059 rfl ?_
  refine wp_iadd eL_1060 ?_
  refine wp_scd (j := i + 3) eL_1061 (by rw [n_lit 3, nI_add]) (by omega) hL ?_
  refine wp_cvL (as := [.int (scr G (i + 1)), .int (scr G (i + 2)), .int (scr G (i + 3))]) eL_1062 cw_129 (sh9_K hS) rfl rfl (Nat.le_of_ble_eq_true rfl) h1 h2 (case_mark G d (by omega) X b m hS hM hbm (scr G (i + 1)) (scr G (i + 2)) (scr G (i + 3)) M hs) (fun M1 r1 h => ?_)
  refine wp_aload_n 1 eL_1065 rfl rfl ?_
  refine wp_aload_n 3 eL_1066 rfl rfl ?_
  refine wp_iload_n 0 eL_1067 rfl rfl ?_
  refine wp_iconst (v := 1) eL_1068 rfl ?_
  refine wp_iadd eL_1069 ?_
  refine wp_scd (j := i + 1) eL_1070 (by rw [n_lit 1, nI_add]) (by omega) hL ?_
  refine wp_aload_n 3 eL_1071 rfl rfl ?_
  refine wp_iload_n 0 eL_1072 rfl rfl ?_
  refine wp_iconst (v := 2) eL_1073 rfl ?_
  refine wp_iadd eL_1074 ?_
  refine wp_scd (j := i + 2) eL_1075 (by rw [n_lit 2, nI_add]) (by omega) hL ?_
  refine wp_aload_n 3 eL_1076 rfl rfl ?_
  refine wp_iload_n 0 eL_1077 rfl rfl ?_
  refine wp_iconst (v := 3) eL_1078 rfl ?_
  refine wp_iadd eL_1079 ?_
  refine wp_scd (j := i + 3) eL_1080 (by rw [n_lit 3, nI_add]) (by omega) hL ?_
  refine wp_cvL (as := [.int (scr G (i + 1)), .int (scr G (i + 2)), .int (scr G (i + 3))]) eL_1081 cw_132 (sh10_K hM) rfl rfl (Nat.le_of_ble_eq_true rfl) h1 h2 h (fun M2 r2 hq => ?_)
  obtain ⟨hr, hs2⟩ := hq
  refine wp_icmp_eq (tgt := 1465) eL_1084 (by decide) (fun _ => kk M2 hs2) (fun q => absurd hr q)
theorem k0_X10_sound : CK0 m_X10_sound 3 := ⟨(gw_1 (List.mem_of_getElem? (l := tables_1_1) (i := 1) (by decide +kernel)) rfl), (gw_5 (List.mem_of_getElem? (l := tables_1_5) (i := 54) (by decide +kernel)) rfl), ⟨by decide +kernel, by decide +kernel, by decide +kernel⟩, by decide⟩
theorem cw_133 : CKv "BurdenHouseLaw" 133 m_X10_sound 3 9 := ⟨k0_X10_sound, (gw_5 (List.mem_of_getElem? (l := tables_1_5) (i := 51) (by decide +kernel)) rfl), (gw_5 (List.mem_of_getElem? (l := tables_1_5) (i := 52) (by decide +kernel)) rfl), (gw_5 (List.mem_of_getElem? (l := tables_1_5) (i := 53) (by decide +kernel)) rfl), by decide, _, rfl⟩
theorem k0_X11_sound : CK0 m_X11_sound 3 := ⟨(gw_1 (List.mem_of_getElem? (l := tables_1_1) (i := 11) (by decide +kernel)) rfl), (gw_7 (List.mem_of_getElem? (l := tables_1_7) (i := 137) (by decide +kernel)) rfl), ⟨by decide +kernel, by decide +kernel, by decide +kernel⟩, by decide⟩
theorem cw_136 : CKv "BurdenHouseLaw" 136 m_X11_sound 3 10 := ⟨k0_X11_sound, (gw_7 (List.mem_of_getElem? (l := tables_1_7) (i := 134) (by decide +kernel)) rfl), (gw_7 (List.mem_of_getElem? (l := tables_1_7) (i := 135) (by decide +kernel)) rfl), (gw_7 (List.mem_of_getElem? (l := tables_1_7) (i := 136) (by decide +kernel)) rfl), by decide, _, rfl⟩
theorem lc_29 (G : Gl) (d : Nat) (hd : 70 ≤ d) {nm : String} {X : Sh} {M : Mm} {b m i mc ms ce sl : Nat} {Q : Sh → Mm → Option Value → Prop} (hS : Sh9 X b) (hM : Sh10 X m) (hbm : b + 266 ≤ m) (hL : G.2 23 ≤ 3072) (hi : i + 6 ≤ G.2 23) (h1 : ce ≤ mc) (h2 : sl ≤ ms) (hs : Sim M b m) (kk : ∀ M2, Sim M2 b m → Wp G (mLaw nm) (d + 1) mc ms ce sl 1465 [(3, .int (nI i)), (2, .ref m), (1, .ref b), (0, .ref (G.2 22))] [] X M2 Q) : Wp G (mLaw nm) (d + 1) mc ms ce sl 1089 [(3, .int (nI i)), (2, .ref m), (1, .ref b), (0, .ref (G.2 22))] [] X M Q := by
  refine wp_aload_n 2 eL_1089 rfl rfl ?_
  refine wp_aload_n 3 eL_1090 rfl rfl ?_
  refine wp_iload_n 0 eL_1091 rfl rfl ?_
  refine wp_iconst (v := 1) eL_1092 rfl ?_
  refine wp_iadd eL_1093 ?_
  refine wp_scd (j := i + 1) eL_1094 (by rw [n_lit 1, nI_add]) (by omega) hL ?_
  refine wp_aload_n 3 eL_1095 rfl rfl ?_
  refine wp_iload_n 0 eL_1096 rfl rfl ?_
  refine wp_iconst (v := 2) eL_1097 rfl ?_
  refine wp_iadd eL_1098 ?_
  refine wp_scd (j := i + 2) eL_1099 (by rw [n_lit 2, nI_add]) (by omega) hL ?_
  refine wp_aload_n 3 eL_1100 rfl rfl ?_
  refine wp_iload_n 0 eL_1101 rfl rfl ?_
  refine wp_iconst (v := 3) eL_1102 rfl ?_
  refine wp_iadd eL_1103 ?_
  refine wp_scd (j := i + 3) eL_1104 (by rw [n_lit 3, nI_add]) (by omega) hL ?_
  refine wp_cvL (as := [.int (scr G (i + 1)), .int (scr G (i + 2)), .int (scr G (i + 3))]) eL_1105 cw_133 (sh9_K hS) rfl rfl (Nat.le_of_ble_eq_true rfl) h1 h2 (case_sound G d (by omega) X b m hS hM (scr G (i + 1)) (scr G (i + 2)) (scr G (i + 3)) M hs) (fun M1 r1 h => ?_)
  refine wp_aload_n 1 eL_1108 rfl rfl ?_
  refine wp_aload_n 3 eL_1109 rfl rfl ?_
  refine wp_iload_n 0 eL_1110 rfl rfl ?_
  refine wp_iconst (v := 1) eL_1111 rfl ?_
  refine wp_iadd eL_1112 ?_
  refine wp_scd (j := i + 1) eL_1113 (by rw [n_lit 1, nI_add]) (by omega) hL ?_
  refine wp_aload_n 3 eL_1114 rfl rfl ?_
  refine wp_iload_n 0 eL_1115 rfl rfl ?_
  refine wp_iconst (v := 2) eL_1116 rfl ?_
  refine wp_iadd eL_1117 ?_
  refine wp_scd (j := i + 2) eL_1118 (by rw [n_lit 2, nI_add]) (by omega) hL ?_
  refine wp_aload_n 3 eL_1119 rfl rfl ?_
  refine wp_iload_n 0 eL_1120 rfl rfl ?_
  refine wp_iconst (v := 3) eL_1121 rfl ?_
  refine wp_iadd eL_1122 ?_
  refine wp_scd (j := i + 3) eL_1123 (by rw [n_lit 3, nI_add]) (by omega) hL ?_
  refine wp_cvL (as := [.int (scr G (i + 1)), .int (scr G (i + 2)), .int (scr G (i + 3))]) eL_1124 cw_136 (sh10_K hM) rfl rfl (Nat.le_of_ble_eq_true rfl) h1 h2 h (fun M2 r2 hq => ?_)
  obtain ⟨hr, hs2⟩ := hq
  refine wp_icmp_eq (tgt := 1465) eL_1127 (by decide) (fun _ => kk M2 hs2) (fun q => absurd hr q)
theorem k0_X10_tops : CK0 m_X10_tops 2 := ⟨(gw_1 (List.mem_of_getElem? (l := tables_1_1) (i := 1) (by decide +kernel)) rfl), (gw_5 (List.mem_of_getElem? (l := tables_1_5) (i := 71) (by decide +kernel)) rfl), ⟨by decide +kernel, by decide +kernel, by decide +kernel⟩, by decide⟩
theorem cw_137 : CKv "BurdenHouseLaw" 137 m_X10_tops 2 9 := ⟨k0_X10_tops, (gw_5 (List.mem_of_getElem? (l := tables_1_5) (i := 68) (by decide +kernel)) rfl), (gw_5 (List.mem_of_getElem? (l := tables_1_5) (i := 69) (by decide +kernel)) rfl), (gw_5 (List.mem_of_getElem? (l := tables_1_5) (i := 70) (by decide +kernel)) rfl), by decide, _, rfl⟩
theorem k0_X11_tops : CK0 m_X11_tops 2 := ⟨(gw_1 (List.mem_of_getElem? (l := tables_1_1) (i := 11) (by decide +kernel)) rfl), (gw_7 (List.mem_of_getElem? (l := tables_1_7) (i := 141) (by decide +kernel)) rfl), ⟨by decide +kernel, by decide +kernel, by decide +kernel⟩, by decide⟩
theorem cw_140 : CKv "BurdenHouseLaw" 140 m_X11_tops 2 10 := ⟨k0_X11_tops, (gw_7 (List.mem_of_getElem? (l := tables_1_7) (i := 138) (by decide +kernel)) rfl), (gw_7 (List.mem_of_getElem? (l := tables_1_7) (i := 139) (by decide +kernel)) rfl), (gw_7 (List.mem_of_getElem? (l := tables_1_7) (i := 140) (by decide +kernel)) rfl), by decide, _, rfl⟩
theorem lc_30 (G : Gl) (d : Nat) (hd : 70 ≤ d) {nm : String} {X : Sh} {M : Mm} {b m i mc ms ce sl : Nat} {Q : Sh → Mm → Option Value → Prop} (hS : Sh9 X b) (hM : Sh10 X m) (hbm : b + 266 ≤ m) (hL : G.2 23 ≤ 3072) (hi : i + 6 ≤ G.2 23) (h1 : ce ≤ mc) (h2 : sl ≤ ms) (hs : Sim M b m) (kk : ∀ M2, Sim M2 b m → Wp G (mLaw nm) (d + 1) mc ms ce sl 1465 [(3, .int (nI i)), (2, .ref m), (1, .ref b), (0, .ref (G.2 22))] [] X M2 Q) : Wp G (mLaw nm) (d + 1) mc ms ce sl 1132 [(3, .int (nI i)), (2, .ref m), (1, .ref b), (0, .ref (G.2 22))] [] X M Q := by
  refine wp_aload_n 2 eL_1132 rfl rfl ?_
  refine wp_aload_n 3 eL_1133 rfl rfl ?_
  refine wp_iload_n 0 eL_1134 rfl rfl ?_
  refine wp_iconst (v := 1) eL_1135 rfl ?_
  refine wp_iadd eL_1136 ?_
  refine wp_scd (j := i + 1) eL_1137 (by rw [n_lit 1, nI_add]) (by omega) hL ?_
  refine wp_aload_n 3 eL_1138 rfl rfl ?_
  refine wp_iload_n 0 eL_1139 rfl rfl ?_
  refine wp_iconst (v := 2) eL_1140 rfl ?_
  refine wp_iadd eL_1141 ?_
  refine wp_scd (j := i + 2) eL_1142 (by rw [n_lit 2, nI_add]) (by omega) hL ?_
  refine wp_cvL (as := [.int (scr G (i + 1)), .int (scr G (i + 2))]) eL_1143 cw_137 (sh9_K hS) rfl rfl (Nat.le_of_ble_eq_true rfl) h1 h2 (case_tops G d (by omega) X b m hS hM hbm (scr G (i + 1)) (scr G (i + 2)) M hs) (fun M1 r1 h => ?_)
  refine wp_aload_n 1 eL_1146 rfl rfl ?_
  refine wp_aload_n 3 eL_1147 rfl rfl ?_
  refine wp_iload_n 0 eL_1148 rfl rfl ?_
  refine wp_iconst (v := 1) eL_1149 rfl ?_
  refine wp_iadd eL_1150 ?_
  refine wp_scd (j := i + 1) eL_1151 (by rw [n_lit 1, nI_add]) (by omega) hL ?_
  refine wp_aload_n 3 eL_1152 rfl rfl ?_
  refine wp_iload_n 0 eL_1153 rfl rfl ?_
  refine wp_iconst (v := 2) eL_1154 rfl ?_
  refine wp_iadd eL_1155 ?_
  refine wp_scd (j := i + 2) eL_1156 (by rw [n_lit 2, nI_add]) (by omega) hL ?_
  refine wp_cvL (as := [.int (scr G (i + 1)), .int (scr G (i + 2))]) eL_1157 cw_140 (sh10_K hM) rfl rfl (Nat.le_of_ble_eq_true rfl) h1 h2 h (fun M2 r2 hq => ?_)
  obtain ⟨hr, hs2⟩ := hq
  refine wp_icmp_eq (tgt := 1465) eL_1160 (by decide) (fun _ => kk M2 hs2) (fun q => absurd hr q)
theorem k0_X10_copy : CK0 m_X10_copy 5 := ⟨(gw_1 (List.mem_of_getElem? (l := tables_1_1) (i := 1) (by decide +kernel)) rfl), (gw_5 (List.mem_of_getElem? (l := tables_1_5) (i := 75) (by decide +kernel)) rfl), ⟨by decide +kernel, by decide +kernel, by decide +kernel⟩, by decide⟩
theorem cw_141 : CKv "BurdenHouseLaw" 141 m_X10_copy 5 9 := ⟨k0_X10_copy, (gw_5 (List.mem_of_getElem? (l := tables_1_5) (i := 72) (by decide +kernel)) rfl), (gw_5 (List.mem_of_getElem? (l := tables_1_5) (i := 73) (by decide +kernel)) rfl), (gw_5 (List.mem_of_getElem? (l := tables_1_5) (i := 74) (by decide +kernel)) rfl), by decide, _, rfl⟩
theorem k0_X11_copy : CK0 m_X11_copy 5 := ⟨(gw_1 (List.mem_of_getElem? (l := tables_1_1) (i := 11) (by decide +kernel)) rfl), (gw_7 (List.mem_of_getElem? (l := tables_1_7) (i := 145) (by decide +kernel)) rfl), ⟨by decide +kernel, by decide +kernel, by decide +kernel⟩, by decide⟩
theorem cw_145 : CKv "BurdenHouseLaw" 145 m_X11_copy 5 10 := ⟨k0_X11_copy, (gw_7 (List.mem_of_getElem? (l := tables_1_7) (i := 142) (by decide +kernel)) rfl), (gw_7 (List.mem_of_getElem? (l := tables_1_7) (i := 143) (by decide +kernel)) rfl), (gw_7 (List.mem_of_getElem? (l := tables_1_7) (i := 144) (by decide +kernel)) rfl), by decide, _, rfl⟩
theorem lc_31 (G : Gl) (d : Nat) (hd : 70 ≤ d) {nm : String} {X : Sh} {M : Mm} {b m i mc ms ce sl : Nat} {Q : Sh → Mm → Option Value → Prop} (hS : Sh9 X b) (hM : Sh10 X m) (hbm : b + 266 ≤ m) (hL : G.2 23 ≤ 3072) (hi : i + 6 ≤ G.2 23) (h1 : ce ≤ mc) (h2 : sl ≤ ms) (hs : Sim M b m) (kk : ∀ M2, Sim M2 b m → Wp G (mLaw nm) (d + 1) mc ms ce sl 1465 [(3, .int (nI i)), (2, .ref m), (1, .ref b), (0, .ref (G.2 22))] [] X M2 Q) : Wp G (mLaw nm) (d + 1) mc ms ce sl 1165 [(3, .int (nI i)), (2, .ref m), (1, .ref b), (0, .ref (G.2 22))] [] X M Q := by
  refine wp_aload_n 2 eL_1165 rfl rfl ?_
  refine wp_aload_n 3 eL_1166 rfl rfl ?_
  refine wp_iload_n 0 eL_1167 rfl rfl ?_
  refine wp_iconst (v := 1) eL_1168 rfl ?_
  refine wp_iadd eL_1169 ?_
  refine wp_scd (j := i + 1) eL_1170 (by rw [n_lit 1, nI_add]) (by omega) hL ?_
  refine wp_aload_n 3 eL_1171 rfl rfl ?_
  refine wp_iload_n 0 eL_1172 rfl rfl ?_
  refine wp_iconst (v := 2) eL_1173 rfl ?_
  refine wp_iadd eL_1174 ?_
  refine wp_scd (j := i + 2) eL_1175 (by rw [n_lit 2, nI_add]) (by omega) hL ?_
  refine wp_aload_n 3 eL_1176 rfl rfl ?_
  refine wp_iload_n 0 eL_1177 rfl rfl ?_
  refine wp_iconst (v := 3) eL_1178 rfl ?_
  refine wp_iadd eL_1179 ?_
  refine wp_scd (j := i + 3) eL_1180 (by rw [n_lit 3, nI_add]) (by omega) hL ?_
  refine wp_aload_n 3 eL_1181 rfl rfl ?_
  refine wp_iload_n 0 eL_1182 rfl rfl ?_
  refine wp_iconst (v := 4) eL_1183 rfl ?_
  refine wp_iadd eL_1184 ?_
  refine wp_scd (j := i + 4) eL_1185 (by rw [n_lit 4, nI_add]) (by omega) hL ?_
  refine wp_aload_n 3 eL_1186 rfl rfl ?_
  refine wp_iload_n 0 eL_1187 rfl rfl ?_
  refine wp_iconst (v := 5) eL_1188 rfl ?_
  refine wp_iadd eL_1189 ?_
  refine wp_scd (j := i + 5) eL_1190 (by rw [n_lit 5, nI_add]) (by omega) hL ?_
  refine wp_cvL (as := [.int (scr G (i + 1)), .int (scr G (i + 2)), .int (scr G (i + 3)), .int (scr G (i + 4)), .int (scr G (i + 5))]) eL_1191 cw_141 (sh9_K hS) rfl rfl (Nat.le_of_ble_eq_true rfl) h1 h2 (case_copy G d (by omega) X b m hS hM hbm (scr G (i + 1)) (scr G (i + 2)) (scr G (i + 3)) (scr G (i + 4)) (scr G (i + 5)) M hs) (fun M1 r1 h => ?_)
  refine wp_aload_n 1 eL_1194 rfl rfl ?_
  refine wp_aload_n 3 eL_1195 rfl rfl ?_
  refine wp_iload_n 0 eL_1196 rfl rfl ?_
  refine wp_iconst (v := 1) eL_1197 rfl ?_
  refine wp_iadd eL_1198 ?_
  refine wp_scd (j := i + 1) eL_1199 (by rw [n_lit 1, nI_add]) (by omega) hL ?_
  refine wp_aload_n 3 eL_1200 rfl rfl ?_
  refine wp_iload_n 0 eL_1201 rfl rfl ?_
  refine wp_iconst (v := 2) eL_1202 rfl ?_
  refine wp_iadd eL_1203 ?_
  refine wp_scd (j := i + 2) eL_1204 (by rw [n_lit 2, nI_add]) (by omega) hL ?_
  refine wp_aload_n 3 eL_1205 rfl rfl ?_
  refine wp_iload_n 0 eL_1206 rfl rfl ?_
  refine wp_iconst (v := 3) eL_1207 rfl ?_
  refine wp_iadd eL_1208 ?_
  refine wp_scd (j := i + 3) eL_1209 (by rw [n_lit 3, nI_add]) (by omega) hL ?_
  refine wp_aload_n 3 eL_1210 rfl rfl ?_
  refine wp_iload_n 0 eL_1211 rfl rfl ?_
  refine wp_iconst (v := 4) eL_1212 rfl ?_
  refine wp_iadd eL_1213 ?_
  refine wp_scd (j := i + 4) eL_1214 (by rw [n_lit 4, nI_add]) (by omega) hL ?_
  refine wp_aload_n 3 eL_1215 rfl rfl ?_
  refine wp_iload_n 0 eL_1216 rfl rfl ?_
  refine wp_iconst (v := 5) eL_1217 rfl ?_
  refine wp_iadd eL_1218 ?_
  refine wp_scd (j := i + 5) eL_1219 (by rw [n_lit 5, nI_add]) (by omega) hL ?_
  refine wp_cvL (as := [.int (scr G (i + 1)), .int (scr G (i + 2)), .int (scr G (i + 3)), .int (scr G (i + 4)), .int (scr G (i + 5))]) eL_1220 cw_145 (sh10_K hM) rfl rfl (Nat.le_of_ble_eq_true rfl) h1 h2 h (fun M2 r2 hq => ?_)
  obtain ⟨hr, hs2⟩ := hq
  refine wp_icmp_eq (tgt := 1465) eL_1223 (by decide) (fun _ => kk M2 hs2) (fun q => absurd hr q)
theorem k0_X10_lay : CK0 m_X10_lay 3 := ⟨(gw_1 (List.mem_of_getElem? (l := tables_1_1) (i := 1) (by decide +kernel)) rfl), (gw_5 (List.mem_of_getElem? (l := tables_1_5) (i := 84) (by decide +kernel)) rfl), ⟨by decide +kernel, by decide +kernel, by decide +kernel⟩, by decide⟩
theorem cw_146 : CKv "BurdenHouseLaw" 146 m_X10_lay 3 9 := ⟨k0_X10_lay, (gw_5 (List.mem_of_getElem? (l := tables_1_5) (i := 81) (by decide +kernel)) rfl), (gw_5 (List.mem_of_getElem? (l := tables_1_5) (i := 82) (by decide +kernel)) rfl), (gw_5 (List.mem_of_getElem? (l := tables_1_5) (i := 83) (by decide +kernel)) rfl), by decide, _, rfl⟩
theorem k0_X11_lay : CK0 m_X11_lay 3 := ⟨(gw_1 (List.mem_of_getElem? (l := tables_1_1) (i := 11) (by decide +kernel)) rfl), (gw_7 (List.mem_of_getElem? (l := tables_1_7) (i := 149) (by decide +kernel)) rfl), ⟨by decide +kernel, by decide +kernel, by decide +kernel⟩, by decide⟩
theorem cw_149 : CKv "BurdenHouseLaw" 149 m_X11_lay 3 10 := ⟨k0_X11_lay, (gw_7 (List.mem_of_getElem? (l := tables_1_7) (i := 146) (by decide +kernel)) rfl), (gw_7 (List.mem_of_getElem? (l := tables_1_7) (i := 147) (by decide +kernel)) rfl), (gw_7 (List.mem_of_getElem? (l := tables_1_7) (i := 148) (by decide +kernel)) rfl), by decide, _, rfl⟩
theorem lc_32 (G : Gl) (d : Nat) (hd : 70 ≤ d) {nm : String} {X : Sh} {M : Mm} {b m i mc ms ce sl : Nat} {Q : Sh → Mm → Option Value → Prop} (hS : Sh9 X b) (hM : Sh10 X m) (hbm : b + 266 ≤ m) (hL : G.2 23 ≤ 3072) (hi : i + 6 ≤ G.2 23) (h1 : ce ≤ mc) (h2 : sl ≤ ms) (hs : Sim M b m) (kk : ∀ M2, Sim M2 b m → Wp G (mLaw nm) (d + 1) mc ms ce sl 1465 [(3, .int (nI i)), (2, .ref m), (1, .ref b), (0, .ref (G.2 22))] [] X M2 Q) : Wp G (mLaw nm) (d + 1) mc ms ce sl 1228 [(3, .int (nI i)), (2, .ref m), (1, .ref b), (0, .ref (G.2 22))] [] X M Q := by
  refine wp_aload_n 2 eL_1228 rfl rfl ?_
  refine wp_aload_n 3 eL_1229 rfl rfl ?_
  refine wp_iload_n 0 eL_1230 rfl rfl ?_
  refine wp_iconst (v := 1) eL_1231 rfl ?_
  refine wp_iadd eL_1232 ?_
  refine wp_scd (j := i + 1) eL_1233 (by rw [n_lit 1, nI_add]) (by omega) hL ?_
  refine wp_aload_n 3 eL_1234 rfl rfl ?_
  refine wp_iload_n 0 eL_1235 rfl rfl ?_
  refine wp_iconst (v := 2) eL_1236 rfl ?_
  refine wp_iadd eL_1237 ?_
  refine wp_scd (j := i + 2) eL_1238 (by rw [n_lit 2, nI_add]) (by omega) hL ?_
  refine wp_aload_n 3 eL_1239 rfl rfl ?_
  refine wp_iload_n 0 eL_1240 rfl rfl ?_
  refine wp_iconst (v := 3) eL_1241 rfl ?_
  refine wp_iadd eL_1242 ?_
  refine wp_scd (j := i + 3) eL_1243 (by rw [n_lit 3, nI_add]) (by omega) hL ?_
  refine wp_cvL (as := [.int (scr G (i + 1)), .int (scr G (i + 2)), .int (scr G (i + 3))]) eL_1244 cw_146 (sh9_K hS) rfl rfl (Nat.le_of_ble_eq_true rfl) h1 h2 (case_lay G d (by omega) X b m hS hM hbm (scr G (i + 1)) (scr G (i + 2)) (scr G (i + 3)) M hs) (fun M1 r1 h => ?_)
  refine wp_aload_n 1 eL_1247 rfl rfl ?_
  refine wp_aload_n 3 eL_1248 rfl rfl ?_
  refine wp_iload_n 0 eL_1249 rfl rfl ?_
  refine wp_iconst (v := 1) eL_1250 rfl ?_
  refine wp_iadd eL_1251 ?_
  refine wp_scd (j := i + 1) eL_1252 (by rw [n_lit 1, nI_add]) (by omega) hL ?_
  refine wp_aload_n 3 eL_1253 rfl rfl ?_
  refine wp_iload_n 0 eL_1254 rfl rfl ?_
  refine wp_iconst (v := 2) eL_1255 rfl ?_
  refine wp_iadd eL_1256 ?_
  refine wp_scd (j := i + 2) eL_1257 (by rw [n_lit 2, nI_add]) (by omega) hL ?_
  refine wp_aload_n 3 eL_1258 rfl rfl ?_
  refine wp_iload_n 0 eL_1259 rfl rfl ?_
  refine wp_iconst (v := 3) eL_1260 rfl ?_
  refine wp_iadd eL_1261 ?_
  refine wp_scd (j := i + 3) eL_1262 (by rw [n_lit 3, nI_add]) (by omega) hL ?_
  refine wp_cvL (as := [.int (scr G (i + 1)), .int (scr G (i + 2)), .int (scr G (i + 3))]) eL_1263 cw_149 (sh10_K hM) rfl rfl (Nat.le_of_ble_eq_true rfl) h1 h2 h (fun M2 r2 hq => ?_)
  obtain ⟨hr, hs2⟩ := hq
  refine wp_icmp_eq (tgt := 1465) eL_1266 (by decide) (fun _ => kk M2 hs2) (fun q => absurd hr q)
theorem k0_X10_ask : CK0 m_X10_ask 2 := ⟨(gw_1 (List.mem_of_getElem? (l := tables_1_1) (i := 1) (by decide +kernel)) rfl), (gw_5 (List.mem_of_getElem? (l := tables_1_5) (i := 96) (by decide +kernel)) rfl), ⟨by decide +kernel, by decide +kernel, by decide +kernel⟩, by decide⟩
theorem cw_150 : CKv "BurdenHouseLaw" 150 m_X10_ask 2 9 := ⟨k0_X10_ask, (gw_5 (List.mem_of_getElem? (l := tables_1_5) (i := 93) (by decide +kernel)) rfl), (gw_5 (List.mem_of_getElem? (l := tables_1_5) (i := 94) (by decide +kernel)) rfl), (gw_5 (List.mem_of_getElem? (l := tables_1_5) (i := 95) (by decide +kernel)) rfl), by decide, _, rfl⟩
theorem k0_X11_ask : CK0 m_X11_ask 2 := ⟨(gw_1 (List.mem_of_getElem? (l := tables_1_1) (i := 11) (by decide +kernel)) rfl), (gw_7 (List.mem_of_getElem? (l := tables_1_7) (i := 156) (by decide +kernel)) rfl), ⟨by decide +kernel, by decide +kernel, by decide +kernel⟩, by decide⟩
theorem cw_153 : CKv "BurdenHouseLaw" 153 m_X11_ask 2 10 := ⟨k0_X11_ask, (gw_7 (List.mem_of_getElem? (l := tables_1_7) (i := 153) (by decide +kernel)) rfl), (gw_7 (List.mem_of_getElem? (l := tables_1_7) (i := 154) (by decide +kernel)) rfl), (gw_7 (List.mem_of_getElem? (l := tables_1_7) (i := 155) (by decide +kernel)) rfl), by decide, _, rfl⟩
theorem lc_33 (G : Gl) (d : Nat) (hd : 70 ≤ d) {nm : String} {X : Sh} {M : Mm} {b m i mc ms ce sl : Nat} {Q : Sh → Mm → Option Value → Prop} (hS : Sh9 X b) (hM : Sh10 X m) (hbm : b + 266 ≤ m) (hL : G.2 23 ≤ 3072) (hi : i + 6 ≤ G.2 23) (h1 : ce ≤ mc) (h2 : sl ≤ ms) (hs : Sim M b m) (kk : ∀ M2, Sim M2 b m → Wp G (mLaw nm) (d + 1) mc ms ce sl 1465 [(3, .int (nI i)), (2, .ref m), (1, .ref b), (0, .ref (G.2 22))] [] X M2 Q) : Wp G (mLaw nm) (d + 1) mc ms ce sl 1271 [(3, .int (nI i)), (2, .ref m), (1, .ref b), (0, .ref (G.2 22))] [] X M Q := by
  refine wp_aload_n 2 eL_1271 rfl rfl ?_
  refine wp_aload_n 3 eL_1272 rfl rfl ?_
  refine wp_iload_n 0 eL_1273 rfl rfl ?_
  refine wp_iconst (v := 1) eL_1274 rfl ?_
  refine wp_iadd eL_1275 ?_
  refine wp_scd (j := i + 1) eL_1276 (by rw [n_lit 1, nI_add]) (by omega) hL ?_
  refine wp_aload_n 3 eL_1277 rfl rfl ?_
  refine wp_iload_n 0 eL_1278 rfl rfl ?_
  refine wp_iconst (v := 2) eL_1279 rfl ?_
  refine wp_iadd eL_1280 ?_
  refine wp_scd (j := i + 2) eL_1281 (by rw [n_lit 2, nI_add]) (by omega) hL ?_
  refine wp_cvL (as := [.int (scr G (i + 1)), .int (scr G (i + 2))]) eL_1282 cw_150 (sh9_K hS) rfl rfl (Nat.le_of_ble_eq_true rfl) h1 h2 (case_ask G d (by omega) X b m hS hM (scr G (i + 1)) (scr G (i + 2)) M hs) (fun M1 r1 h => ?_)
  refine wp_aload_n 1 eL_1285 rfl rfl ?_
  refine wp_aload_n 3 eL_1286 rfl rfl ?_
  refine wp_iload_n 0 eL_1287 rfl rfl ?_
  refine wp_iconst (v := 1) eL_1288 rfl ?_
  refine wp_iadd eL_1289 ?_
  refine wp_scd (j := i + 1) eL_1290 (by rw [n_lit 1, nI_add]) (by omega) hL ?_
  refine wp_aload_n 3 eL_1291 rfl rfl ?_
  refine wp_iload_n 0 eL_1292 rfl rfl ?_
  refine wp_iconst (v := 2) eL_1293 rfl ?_
  refine wp_iadd eL_1294 ?_
  refine wp_scd (j := i + 2) eL_1295 (by rw [n_lit 2, nI_add]) (by omega) hL ?_
  refine wp_cvL (as := [.int (scr G (i + 1)), .int (scr G (i + 2))]) eL_1296 cw_153 (sh10_K hM) rfl rfl (Nat.le_of_ble_eq_true rfl) h1 h2 h (fun M2 r2 hq => ?_)
  obtain ⟨hr, hs2⟩ := hq
  refine wp_icmp_eq (tgt := 1465) eL_1299 (by decide) (fun _ => kk M2 hs2) (fun q => absurd hr q)
theorem k0_X10_item : CK0 m_X10_item 2 := ⟨(gw_1 (List.mem_of_getElem? (l := tables_1_1) (i := 1) (by decide +kernel)) rfl), (gw_5 (List.mem_of_getElem? (l := tables_1_5) (i := 101) (by decide +kernel)) rfl), ⟨by decide +kernel, by decide +kernel, by decide +kernel⟩, by decide⟩
theorem cw_154 : CKv "BurdenHouseLaw" 154 m_X10_item 2 9 := ⟨k0_X10_item, (gw_5 (List.mem_of_getElem? (l := tables_1_5) (i := 98) (by decide +kernel)) rfl), (gw_5 (List.mem_of_getElem? (l := tables_1_5) (i := 99) (by decide +kernel)) rfl), (gw_5 (List.mem_of_getElem? (l := tables_1_5) (i := 100) (by decide +kernel)) rfl), by decide, _, rfl⟩
theorem k0_X11_item : CK0 m_X11_item 2 := ⟨(gw_1 (List.mem_of_getElem? (l := tables_1_1) (i := 11) (by decide +kernel)) rfl), (gw_7 (List.mem_of_getElem? (l := tables_1_7) (i := 160) (by decide +kernel)) rfl), ⟨by decide +kernel, by decide +kernel, by decide +kernel⟩, by decide⟩
theorem cw_157 : CKv "BurdenHouseLaw" 157 m_X11_item 2 10 := ⟨k0_X11_item, (gw_7 (List.mem_of_getElem? (l := tables_1_7) (i := 157) (by decide +kernel)) rfl), (gw_7 (List.mem_of_getElem? (l := tables_1_7) (i := 158) (by decide +kernel)) rfl), (gw_7 (List.mem_of_getElem? (l := tables_1_7) (i := 159) (by decide +kernel)) rfl), by decide, _, rfl⟩
theorem lc_34 (G : Gl) (d : Nat) (hd : 70 ≤ d) {nm : String} {X : Sh} {M : Mm} {b m i mc ms ce sl : Nat} {Q : Sh → Mm → Option Value → Prop} (hS : Sh9 X b) (hM : Sh10 X m) (hbm : b + 266 ≤ m) (hL : G.2 23 ≤ 3072) (hi : i + 6 ≤ G.2 23) (h1 : ce ≤ mc) (h2 : sl ≤ ms) (hs : Sim M b m) (kk : ∀ M2, Sim M2 b m → Wp G (mLaw nm) (d + 1) mc ms ce sl 1465 [(3, .int (nI i)), (2, .ref m), (1, .ref b), (0, .ref (G.2 22))] [] X M2 Q) : Wp G (mLaw nm) (d + 1) mc ms ce sl 1304 [(3, .int (nI i)), (2, .ref m), (1, .ref b), (0, .ref (G.2 22))] [] X M Q := by
  refine wp_aload_n 2 eL_1304 rfl rfl ?_
  refine wp_aload_n 3 eL_1305 rfl rfl ?_
  refine wp_iload_n 0 eL_1306 rfl rfl ?_
  refine wp_iconst (v := 1) eL_1307 rfl ?_
  refine wp_iadd eL_1308 ?_
  refine wp_scd (j := i + 1) eL_1309 (by rw [n_lit 1, nI_add]) (by omega) hL ?_
  refine wp_aload_n 3 eL_1310 rfl rfl ?_
  refine wp_iload_n 0 eL_1311 rfl rfl ?_
  refine wp_iconst (v := 2) eL_1312 rfl ?_
  refine wp_iadd eL_1313 ?_
  refine wp_scd (j := i + 2) eL_1314 (by rw [n_lit 2, nI_add]) (by omega) hL ?_
  refine wp_cvL (as := [.int (scr G (i + 1)), .int (scr G (i + 2))]) eL_1315 cw_154 (sh9_K hS) rfl rfl (Nat.le_of_ble_eq_true rfl) h1 h2 (case_item G d (by omega) X b m hS hM (scr G (i + 1)) (scr G (i + 2)) M hs) (fun M1 r1 h => ?_)
  refine wp_aload_n 1 eL_1318 rfl rfl ?_
  refine wp_aload_n 3 eL_1319 rfl rfl ?_
  refine wp_iload_n 0 eL_1320 rfl rfl ?_
  refine wp_iconst (v := 1) eL_1321 rfl ?_
  refine wp_iadd eL_1322 ?_
  refine wp_scd (j := i + 1) eL_1323 (by rw [n_lit 1, nI_add]) (by omega) hL ?_
  refine wp_aload_n 3 eL_1324 rfl rfl ?_
  refine wp_iload_n 0 eL_1325 rfl rfl ?_
  refine wp_iconst (v := 2) eL_1326 rfl ?_
  refine wp_iadd eL_1327 ?_
  refine wp_scd (j := i + 2) eL_1328 (by rw [n_lit 2, nI_add]) (by omega) hL ?_
  refine wp_cvL (as := [.int (scr G (i + 1)), .int (scr G (i + 2))]) eL_1329 cw_157 (sh10_K hM) rfl rfl (Nat.le_of_ble_eq_true rfl) h1 h2 h (fun M2 r2 hq => ?_)
  obtain ⟨hr, hs2⟩ := hq
  refine wp_icmp_eq (tgt := 1465) eL_1332 (by decide) (fun _ => kk M2 hs2) (fun q => absurd hr q)
theorem k0_X10_rest : CK0 m_X10_rest 2 := ⟨(gw_1 (List.mem_of_getElem? (l := tables_1_1) (i := 1) (by decide +kernel)) rfl), (gw_5 (List.mem_of_getElem? (l := tables_1_5) (i := 105) (by decide +kernel)) rfl), ⟨by decide +kernel, by decide +kernel, by decide +kernel⟩, by decide⟩
theorem cw_158 : CKv "BurdenHouseLaw" 158 m_X10_rest 2 9 := ⟨k0_X10_rest, (gw_5 (List.mem_of_getElem? (l := tables_1_5) (i := 102) (by decide +kernel)) rfl), (gw_5 (List.mem_of_getElem? (l := tables_1_5) (i := 103) (by decide +kernel)) rfl), (gw_5 (List.mem_of_getElem? (l := tables_1_5) (i := 104) (by decide +kernel)) rfl), by decide, _, rfl⟩
theorem k0_X11_rest : CK0 m_X11_rest 2 := ⟨(gw_1 (List.mem_of_getElem? (l := tables_1_1) (i := 11) (by decide +kernel)) rfl), (gw_7 (List.mem_of_getElem? (l := tables_1_7) (i := 164) (by decide +kernel)) rfl), ⟨by decide +kernel, by decide +kernel, by decide +kernel⟩, by decide⟩
theorem cw_161 : CKv "BurdenHouseLaw" 161 m_X11_rest 2 10 := ⟨k0_X11_rest, (gw_7 (List.mem_of_getElem? (l := tables_1_7) (i := 161) (by decide +kernel)) rfl), (gw_7 (List.mem_of_getElem? (l := tables_1_7) (i := 162) (by decide +kernel)) rfl), (gw_7 (List.mem_of_getElem? (l := tables_1_7) (i := 163) (by decide +kernel)) rfl), by decide, _, rfl⟩
theorem lc_35 (G : Gl) (d : Nat) (hd : 70 ≤ d) {nm : String} {X : Sh} {M : Mm} {b m i mc ms ce sl : Nat} {Q : Sh → Mm → Option Value → Prop} (hS : Sh9 X b) (hM : Sh10 X m) (hbm : b + 266 ≤ m) (hL : G.2 23 ≤ 3072) (hi : i + 6 ≤ G.2 23) (h1 : ce ≤ mc) (h2 : sl ≤ ms) (hs : Sim M b m) (kk : ∀ M2, Sim M2 b m → Wp G (mLaw nm) (d + 1) mc ms ce sl 1465 [(3, .int (nI i)), (2, .ref m), (1, .ref b), (0, .ref (G.2 22))] [] X M2 Q) : Wp G (mLaw nm) (d + 1) mc ms ce sl 1337 [(3, .int (nI i)), (2, .ref m), (1, .ref b), (0, .ref (G.2 22))] [] X M Q := by
  refine wp_aload_n 2 eL_1337 rfl rfl ?_
  refine wp_aload_n 3 eL_1338 rfl rfl ?_
  refine wp_iload_n 0 eL_1339 rfl rfl ?_
  refine wp_iconst (v := 1) eL_1340 rfl ?_
  refine wp_iadd eL_1341 ?_
  refine wp_scd (j := i + 1) eL_1342 (by rw [n_lit 1, nI_add]) (by omega) hL ?_
  refine wp_aload_n 3 eL_1343 rfl rfl ?_
  refine wp_iload_n 0 eL_1344 rfl rfl ?_
  refine wp_iconst (v := 2) eL_1345 rfl ?_
  refine wp_iadd eL_1346 ?_
  refine wp_scd (j := i + 2) eL_1347 (by rw [n_lit 2, nI_add]) (by omega) hL ?_
  refine wp_cvL (as := [.int (scr G (i + 1)), .int (scr G (i + 2))]) eL_1348 cw_158 (sh9_K hS) rfl rfl (Nat.le_of_ble_eq_true rfl) h1 h2 (case_rest G d (by omega) X b m hS hM (scr G (i + 1)) (scr G (i + 2)) M hs) (fun M1 r1 h => ?_)
  refine wp_aload_n 1 eL_1351 rfl rfl ?_
  refine wp_aload_n 3 eL_1352 rfl rfl ?_
  refine wp_iload_n 0 eL_1353 rfl rfl ?_
  refine wp_iconst (v := 1) eL_1354 rfl ?_
  refine wp_iadd eL_1355 ?_
  refine wp_scd (j := i + 1) eL_1356 (by rw [n_lit 1, nI_add]) (by omega) hL ?_
  refine wp_aload_n 3 eL_1357 rfl rfl ?_
  refine wp_iload_n 0 eL_1358 rfl rfl ?_
  refine wp_iconst (v := 2) eL_1359 rfl ?_
  refine wp_iadd eL_1360 ?_
  refine wp_scd (j := i + 2) eL_1361 (by rw [n_lit 2, nI_add]) (by omega) hL ?_
  refine wp_cvL (as := [.int (scr G (i + 1)), .int (scr G (i + 2))]) eL_1362 cw_161 (sh10_K hM) rfl rfl (Nat.le_of_ble_eq_true rfl) h1 h2 h (fun M2 r2 hq => ?_)
  obtain ⟨hr, hs2⟩ := hq
  refine wp_icmp_eq (tgt := 1465) eL_1365 (by decide) (fun _ => kk M2 hs2) (fun q => absurd hr q)
theorem k0_X10_tell : CK0 m_X10_tell 1 := ⟨(gw_1 (List.mem_of_getElem? (l := tables_1_1) (i := 1) (by decide +kernel)) rfl), (gw_5 (List.mem_of_getElem? (l := tables_1_5) (i := 109) (by decide +kernel)) rfl), ⟨by decide +kernel, by decide +kernel, by decide +kernel⟩, by decide⟩
theorem cw_162 : CKv "BurdenHouseLaw" 162 m_X10_tell 1 9 := ⟨k0_X10_tell, (gw_5 (List.mem_of_getElem? (l := tables_1_5) (i := 106) (by decide +kernel)) rfl), (gw_5 (List.mem_of_getElem? (l := tables_1_5) (i := 107) (by decide +kernel)) rfl), (gw_5 (List.mem_of_getElem? (l := tables_1_5) (i := 108) (by decide +kernel)) rfl), by decide, _, rfl⟩
theorem k0_X11_tell : CK0 m_X11_tell 1 := ⟨(gw_1 (List.mem_of_getElem? (l := tables_1_1) (i := 11) (by decide +kernel)) rfl), (gw_7 (List.mem_of_getElem? (l := tables_1_7) (i := 168) (by decide +kernel)) rfl), ⟨by decide +kernel, by decide +kernel, by decide +kernel⟩, by decide⟩
theorem cw_165 : CKv "BurdenHouseLaw" 165 m_X11_tell 1 10 := ⟨k0_X11_tell, (gw_7 (List.mem_of_getElem? (l := tables_1_7) (i := 165) (by decide +kernel)) rfl), (gw_7 (List.mem_of_getElem? (l := tables_1_7) (i := 166) (by decide +kernel)) rfl), (gw_7 (List.mem_of_getElem? (l := tables_1_7) (i := 167) (by decide +kernel)) rfl), by decide, _, rfl⟩
theorem lc_36 (G : Gl) (d : Nat) (hd : 70 ≤ d) {nm : String} {X : Sh} {M : Mm} {b m i mc ms ce sl : Nat} {Q : Sh → Mm → Option Value → Prop} (hS : Sh9 X b) (hM : Sh10 X m) (hbm : b + 266 ≤ m) (hL : G.2 23 ≤ 3072) (hi : i + 6 ≤ G.2 23) (h1 : ce ≤ mc) (h2 : sl ≤ ms) (hs : Sim M b m) (kk : ∀ M2, Sim M2 b m → Wp G (mLaw nm) (d + 1) mc ms ce sl 1465 [(3, .int (nI i)), (2, .ref m), (1, .ref b), (0, .ref (G.2 22))] [] X M2 Q) : Wp G (mLaw nm) (d + 1) mc ms ce sl 1370 [(3, .int (nI i)), (2, .ref m), (1, .ref b), (0, .ref (G.2 22))] [] X M Q := by
  refine wp_aload_n 2 eL_1370 rfl rfl ?_
  refine wp_aload_n 3 eL_1371 rfl rfl ?_
  refine wp_iload_n 0 eL_1372 rfl rfl ?_
  refine wp_iconst (v := 1) eL_1373 rfl ?_
  refine wp_iadd eL_1374 ?_
  refine wp_scd (j := i + 1) eL_1375 (by rw [n_lit 1, nI_add]) (by omega) hL ?_
  refine wp_cvL (as := [.int (scr G (i + 1))]) eL_1376 cw_162 (sh9_K hS) rfl rfl (Nat.le_of_ble_eq_true rfl) h1 h2 (case_tell G d (by omega) X b m hS hM hbm (scr G (i + 1)) M hs) (fun M1 r1 h => ?_)
  refine wp_aload_n 1 eL_1379 rfl rfl ?_
  refine wp_aload_n 3 eL_1380 rfl rfl ?_
  refine wp_iload_n 0 eL_1381 rfl rfl ?_
  refine wp_iconst (v := 1) eL_1382 rfl ?_
  refine wp_iadd eL_1383 ?_
  refine wp_scd (j := i + 1) eL_1384 (by rw [n_lit 1, nI_add]) (by omega) hL ?_
  refine wp_cvL (as := [.int (scr G (i + 1))]) eL_1385 cw_165 (sh10_K hM) rfl rfl (Nat.le_of_ble_eq_true rfl) h1 h2 h (fun M2 r2 hq => ?_)
  obtain ⟨hr, hs2⟩ := hq
  refine wp_icmp_eq (tgt := 1465) eL_1388 (by decide) (fun _ => kk M2 hs2) (fun q => absurd hr q)
theorem k0_X10_check : CK0 m_X10_check 1 := ⟨(gw_1 (List.mem_of_getElem? (l := tables_1_1) (i := 1) (by decide +kernel)) rfl), (gw_5 (List.mem_of_getElem? (l := tables_1_5) (i := 113) (by decide +kernel)) rfl), ⟨by decide +kernel, by decide +kernel, by decide +kernel⟩, by decide⟩
theorem cw_166 : CKv "BurdenHouseLaw" 166 m_X10_check 1 9 := ⟨k0_X10_check, (gw_5 (List.mem_of_getElem? (l := tables_1_5) (i := 110) (by decide +kernel)) rfl), (gw_5 (List.mem_of_getElem? (l := tables_1_5) (i := 111) (by decide +kernel)) rfl), (gw_5 (List.mem_of_getElem? (l := tables_1_5) (i := 112) (by decide +kernel)) rfl), by decide, _, rfl⟩
theorem k0_X11_check : CK0 m_X11_check 1 := ⟨(gw_1 (List.mem_of_getElem? (l := tables_1_1) (i := 11) (by decide +kernel)) rfl), (gw_7 (List.mem_of_getElem? (l := tables_1_7) (i := 172) (by decide +kernel)) rfl), ⟨by decide +kernel, by decide +kernel, by decide +kernel⟩, by decide⟩
theorem cw_169 : CKv "BurdenHouseLaw" 169 m_X11_check 1 10 := ⟨k0_X11_check, (gw_7 (List.mem_of_getElem? (l := tables_1_7) (i := 169) (by decide +kernel)) rfl), (gw_7 (List.mem_of_getElem? (l := tables_1_7) (i := 170) (by decide +kernel)) rfl), (gw_7 (List.mem_of_getElem? (l := tables_1_7) (i := 171) (by decide +kernel)) rfl), by decide, _, rfl⟩
theorem lc_37 (G : Gl) (d : Nat) (hd : 70 ≤ d) {nm : String} {X : Sh} {M : Mm} {b m i mc ms ce sl : Nat} {Q : Sh → Mm → Option Value → Prop} (hS : Sh9 X b) (hM : Sh10 X m) (hbm : b + 266 ≤ m) (hL : G.2 23 ≤ 3072) (hi : i + 6 ≤ G.2 23) (h1 : ce ≤ mc) (h2 : sl ≤ ms) (hs : Sim M b m) (kk : ∀ M2, Sim M2 b m → Wp G (mLaw nm) (d + 1) mc ms ce sl 1465 [(3, .int (nI i)), (2, .ref m), (1, .ref b), (0, .ref (G.2 22))] [] X M2 Q) : Wp G (mLaw nm) (d + 1) mc ms ce sl 1393 [(3, .int (nI i)), (2, .ref m), (1, .ref b), (0, .ref (G.2 22))] [] X M Q := by
  refine wp_aload_n 2 eL_1393 rfl rfl ?_
  refine wp_aload_n 3 eL_1394 rfl rfl ?_
  refine wp_iload_n 0 eL_1395 rfl rfl ?_
  refine wp_iconst (v := 1) eL_1396 rfl ?_
  refine wp_iadd eL_1397 ?_
  refine wp_scd (j := i + 1) eL_1398 (by rw [n_lit 1, nI_add]) (by omega) hL ?_
  refine wp_cvL (as := [.int (scr G (i + 1))]) eL_1399 cw_166 (sh9_K hS) rfl rfl (Nat.le_of_ble_eq_true rfl) h1 h2 (case_check G d (by omega) X b m hS hM hbm (scr G (i + 1)) M hs) (fun M1 r1 h => ?_)
  refine wp_aload_n 1 eL_1402 rfl rfl ?_
  refine wp_aload_n 3 eL_1403 rfl rfl ?_
  refine wp_iload_n 0 eL_1404 rfl rfl ?_
  refine wp_iconst (v := 1) eL_1405 rfl ?_
  refine wp_iadd eL_1406 ?_
  refine wp_scd (j := i + 1) eL_1407 (by rw [n_lit 1, nI_add]) (by omega) hL ?_
  refine wp_cvL (as := [.int (scr G (i + 1))]) eL_1408 cw_169 (sh10_K hM) rfl rfl (Nat.le_of_ble_eq_true rfl) h1 h2 h (fun M2 r2 hq => ?_)
  obtain ⟨hr, hs2⟩ := hq
  refine wp_icmp_eq (tgt := 1465) eL_1411 (by decide) (fun _ => kk M2 hs2) (fun q => absurd hr q)
theorem k0_X10_keep : CK0 m_X10_keep 0 := ⟨(gw_1 (List.mem_of_getElem? (l := tables_1_1) (i := 1) (by decide +kernel)) rfl), (gw_5 (List.mem_of_getElem? (l := tables_1_5) (i := 125) (by decide +kernel)) rfl), ⟨by decide +kernel, by decide +kernel, by decide +kernel⟩, by decide⟩
theorem cw_170 : CKv "BurdenHouseLaw" 170 m_X10_keep 0 9 := ⟨k0_X10_keep, (gw_5 (List.mem_of_getElem? (l := tables_1_5) (i := 122) (by decide +kernel)) rfl), (gw_5 (List.mem_of_getElem? (l := tables_1_5) (i := 123) (by decide +kernel)) rfl), (gw_5 (List.mem_of_getElem? (l := tables_1_5) (i := 124) (by decide +kernel)) rfl), by decide, _, rfl⟩
theorem k0_X11_keep : CK0 m_X11_keep 0 := ⟨(gw_1 (List.mem_of_getElem? (l := tables_1_1) (i := 11) (by decide +kernel)) rfl), (gw_7 (List.mem_of_getElem? (l := tables_1_7) (i := 181) (by decide +kernel)) rfl), ⟨by decide +kernel, by decide +kernel, by decide +kernel⟩, by decide⟩
theorem cw_173 : CKv "BurdenHouseLaw" 173 m_X11_keep 0 10 := ⟨k0_X11_keep, (gw_7 (List.mem_of_getElem? (l := tables_1_7) (i := 178) (by decide +kernel)) rfl), (gw_7 (List.mem_of_getElem? (l := tables_1_7) (i := 179) (by decide +kernel)) rfl), (gw_7 (List.mem_of_getElem? (l := tables_1_7) (i := 180) (by decide +kernel)) rfl), by decide, _, rfl⟩
theorem lc_38 (G : Gl) (d : Nat) (hd : 70 ≤ d) {nm : String} {X : Sh} {M : Mm} {b m i mc ms ce sl : Nat} {Q : Sh → Mm → Option Value → Prop} (hS : Sh9 X b) (hM : Sh10 X m) (hbm : b + 266 ≤ m) (hL : G.2 23 ≤ 3072) (hi : i + 6 ≤ G.2 23) (h1 : ce ≤ mc) (h2 : sl ≤ ms) (hs : Sim M b m) (kk : ∀ M2, Sim M2 b m → Wp G (mLaw nm) (d + 1) mc ms ce sl 1465 [(3, .int (nI i)), (2, .ref m), (1, .ref b), (0, .ref (G.2 22))] [] X M2 Q) : Wp G (mLaw nm) (d + 1) mc ms ce sl 1416 [(3, .int (nI i)), (2, .ref m), (1, .ref b), (0, .ref (G.2 22))] [] X M Q := by
  refine wp_aload_n 2 eL_1416 rfl rfl ?_
  refine wp_cvL (as := []) eL_1417 cw_170 (sh9_K hS) rfl rfl (Nat.le_of_ble_eq_true rfl) h1 h2 (case_keep G d (by omega) X b m hS hM hbm M hs) (fun M1 r1 h => ?_)
  refine wp_aload_n 1 eL_1420 rfl rfl ?_
  refine wp_cvL (as := []) eL_1421 cw_173 (sh10_K hM) rfl rfl (Nat.le_of_ble_eq_true rfl) h1 h2 h (fun M2 r2 hq => ?_)
  obtain ⟨hr, hs2⟩ := hq
  refine wp_icmp_eq (tgt := 1465) eL_1424 (by decide) (fun _ => kk M2 hs2) (fun q => absurd hr q)
theorem k0_X10_back : CK0 m_X10_back 0 := ⟨(gw_1 (List.mem_of_getElem? (l := tables_1_1) (i := 1) (by decide +kernel)) rfl), (gw_5 (List.mem_of_getElem? (l := tables_1_5) (i := 149) (by decide +kernel)) rfl), ⟨by decide +kernel, by decide +kernel, by decide +kernel⟩, by decide⟩
theorem cw_174 : CKv "BurdenHouseLaw" 174 m_X10_back 0 9 := ⟨k0_X10_back, (gw_5 (List.mem_of_getElem? (l := tables_1_5) (i := 146) (by decide +kernel)) rfl), (gw_5 (List.mem_of_getElem? (l := tables_1_5) (i := 147) (by decide +kernel)) rfl), (gw_5 (List.mem_of_getElem? (l := tables_1_5) (i := 148) (by decide +kernel)) rfl), by decide, _, rfl⟩
theorem k0_X11_back : CK0 m_X11_back 0 := ⟨(gw_1 (List.mem_of_getElem? (l := tables_1_1) (i := 11) (by decide +kernel)) rfl), (gw_7 (List.mem_of_getElem? (l := tables_1_7) (i := 185) (by decide +kernel)) rfl), ⟨by decide +kernel, by decide +kernel, by decide +kernel⟩, by decide⟩
theorem cw_177 : CKv "BurdenHouseLaw" 177 m_X11_back 0 10 := ⟨k0_X11_back, (gw_7 (List.mem_of_getElem? (l := tables_1_7) (i := 182) (by decide +kernel)) rfl), (gw_7 (List.mem_of_getElem? (l := tables_1_7) (i := 183) (by decide +kernel)) rfl), (gw_7 (List.mem_of_getElem? (l := tables_1_7) (i := 184) (by decide +kernel)) rfl), by decide, _, rfl⟩
theorem lc_39 (G : Gl) (d : Nat) (hd : 70 ≤ d) {nm : String} {X : Sh} {M : Mm} {b m i mc ms ce sl : Nat} {Q : Sh → Mm → Option Value → Prop} (hS : Sh9 X b) (hM : Sh10 X m) (hbm : b + 266 ≤ m) (hL : G.2 23 ≤ 3072) (hi : i + 6 ≤ G.2 23) (h1 : ce ≤ mc) (h2 : sl ≤ ms) (hs : Sim M b m) (kk : ∀ M2, Sim M2 b m → Wp G (mLaw nm) (d + 1) mc ms ce sl 1465 [(3, .int (nI i)), (2, .ref m), (1, .ref b), (0, .ref (G.2 22))] [] X M2 Q) : Wp G (mLaw nm) (d + 1) mc ms ce sl 1429 [(3, .int (nI i)), (2, .ref m), (1, .ref b), (0, .ref (G.2 22))] [] X M Q := by
  refine wp_aload_n 2 eL_1429 rfl rfl ?_
  refine wp_cvL (as := []) eL_1430 cw_174 (sh9_K hS) rfl rfl (Nat.le_of_ble_eq_true rfl) h1 h2 (case_back G d (by omega) X b m hS hM hbm M hs) (fun M1 r1 h => ?_)
  refine wp_aload_n 1 eL_1433 rfl rfl ?_
  refine wp_cvL (as := []) eL_1434 cw_177 (sh10_K hM) rfl rfl (Nat.le_of_ble_eq_true rfl) h1 h2 h (fun M2 r2 hq => ?_)
  obtain ⟨hr, hs2⟩ := hq
  refine wp_icmp_eq (tgt := 1465) eL_1437 (by decide) (fun _ => kk M2 hs2) (fun q => absurd hr q)
theorem k0_X10_count : CK0 m_X10_count 1 := ⟨(gw_1 (List.mem_of_getElem? (l := tables_1_1) (i := 1) (by decide +kernel)) rfl), (gw_5 (List.mem_of_getElem? (l := tables_1_5) (i := 153) (by decide +kernel)) rfl), ⟨by decide +kernel, by decide +kernel, by decide +kernel⟩, by decide⟩
theorem cw_178 : CKv "BurdenHouseLaw" 178 m_X10_count 1 9 := ⟨k0_X10_count, (gw_5 (List.mem_of_getElem? (l := tables_1_5) (i := 150) (by decide +kernel)) rfl), (gw_5 (List.mem_of_getElem? (l := tables_1_5) (i := 151) (by decide +kernel)) rfl), (gw_5 (List.mem_of_getElem? (l := tables_1_5) (i := 152) (by decide +kernel)) rfl), by decide, _, rfl⟩
theorem k0_X11_count : CK0 m_X11_count 1 := ⟨(gw_1 (List.mem_of_getElem? (l := tables_1_1) (i := 11) (by decide +kernel)) rfl), (gw_7 (List.mem_of_getElem? (l := tables_1_7) (i := 189) (by decide +kernel)) rfl), ⟨by decide +kernel, by decide +kernel, by decide +kernel⟩, by decide⟩
theorem cw_181 : CKv "BurdenHouseLaw" 181 m_X11_count 1 10 := ⟨k0_X11_count, (gw_7 (List.mem_of_getElem? (l := tables_1_7) (i := 186) (by decide +kernel)) rfl), (gw_7 (List.mem_of_getElem? (l := tables_1_7) (i := 187) (by decide +kernel)) rfl), (gw_7 (List.mem_of_getElem? (l := tables_1_7) (i := 188) (by decide +kernel)) rfl), by decide, _, rfl⟩
theorem lc_40 (G : Gl) (d : Nat) (hd : 70 ≤ d) {nm : String} {X : Sh} {M : Mm} {b m i mc ms ce sl : Nat} {Q : Sh → Mm → Option Value → Prop} (hS : Sh9 X b) (hM : Sh10 X m) (hbm : b + 266 ≤ m) (hL : G.2 23 ≤ 3072) (hi : i + 6 ≤ G.2 23) (h1 : ce ≤ mc) (h2 : sl ≤ ms) (hs : Sim M b m) (kk : ∀ M2, Sim M2 b m → Wp G (mLaw nm) (d + 1) mc ms ce sl 1465 [(3, .int (nI i)), (2, .ref m), (1, .ref b), (0, .ref (G.2 22))] [] X M2 Q) : Wp G (mLaw nm) (d + 1) mc ms ce sl 1442 [(3, .int (nI i)), (2, .ref m), (1, .ref b), (0, .ref (G.2 22))] [] X M Q := by
  refine wp_aload_n 2 eL_1442 rfl rfl ?_
  refine wp_aload_n 3 eL_1443 rfl rfl ?_
  refine wp_iload_n 0 eL_1444 rfl rfl ?_
  refine wp_iconst (v := 1) eL_1445 rfl ?_
  refine wp_iadd eL_1446 ?_
  refine wp_scd (j := i + 1) eL_1447 (by rw [n_lit 1, nI_add]) (by omega) hL ?_
  refine wp_cvL (as := [.int (scr G (i + 1))]) eL_1448 cw_178 (sh9_K hS) rfl rfl (Nat.le_of_ble_eq_true rfl) h1 h2 (case_count G d (by omega) X b m hS hM (scr G (i + 1)) M hs) (fun M1 r1 h => ?_)
  refine wp_aload_n 1 eL_1451 rfl rfl ?_
  refine wp_aload_n 3 eL_1452 rfl rfl ?_
  refine wp_iload_n 0 eL_1453 rfl rfl ?_
  refine wp_iconst (v := 1) eL_1454 rfl ?_
  refine wp_iadd eL_1455 ?_
  refine wp_scd (j := i + 1) eL_1456 (by rw [n_lit 1, nI_add]) (by omega) hL ?_
  refine wp_cvL (as := [.int (scr G (i + 1))]) eL_1457 cw_181 (sh10_K hM) rfl rfl (Nat.le_of_ble_eq_true rfl) h1 h2 h (fun M2 r2 hq => ?_)
  obtain ⟨hr, hs2⟩ := hq
  refine wp_icmp_eq (tgt := 1465) eL_1460 (by decide) (fun _ => kk M2 hs2) (fun q => absurd hr q)
theorem and63 (x : Int32) : ∃ t : Nat, t < 64 ∧ x &&& 63 = nI t := by
  refine ⟨(x &&& 63).toUInt32.toNat, ?_, ?_⟩
  · show (x.toUInt32 &&& 63).toNat < 64
    rw [UInt32.toNat_and]
    exact Nat.lt_of_le_of_lt Nat.and_le_right (by decide)
  · show x &&& 63 = (UInt32.ofNat (x &&& 63).toUInt32.toNat).toInt32
    rw [UInt32.ofNat_toNat]
    rfl
theorem law_step (G : Gl) (d : Nat) (hd : 70 ≤ d) {nm : String} {X : Sh} {b m mc ms ce sl : Nat} {Q : Sh → Mm → Option Value → Prop} (hS : Sh9 X b) (hM : Sh10 X m) (hbm : b + 266 ≤ m) (hL : G.2 23 ≤ 3072) (h1 : ce = mc) (h2 : sl ≤ ms) (hQ : ∀ M, Q X M (some (.int 1))) (i : Nat) (M : Mm) (hi4 : i ≤ 4000) (hs : Sim M b m) (nxt : i + 6 ≤ G.2 23 → ∀ M2, Sim M2 b m → Wp G (mLaw nm) (d + 1) mc ms ce sl 18 [(3, .int (nI (i + 6))), (2, .ref m), (1, .ref b), (0, .ref (G.2 22))] [] X M2 Q) : Wp G (mLaw nm) (d + 1) mc ms ce sl 18 [(3, .int (nI i)), (2, .ref m), (1, .ref b), (0, .ref (G.2 22))] [] X M Q := by
    refine wp_iload_n 0 eL_18 rfl rfl ?_
    refine wp_aload_n 3 eL_19 rfl rfl ?_
    refine wp_scl eL_20 ?_
    refine wp_bipush (v := 6) eL_21 rfl ?_
    refine wp_isub eL_23 ?_
    have hsub : (nI (G.2 23) - 6).toInt = (G.2 23 : Int) - 6 := nI_sub_toInt (b := 6) (by omega) (by omega)
    have hii : (nI i).toInt = i := nI_toInt (by omega)
    refine wp_icmp_gt (tgt := 1471) eL_24 (by decide) (fun _ => ?_) (fun q => ?_)
    · refine wp_iconst (v := 1) eL_1471 rfl ?_
      exact wp_zret eL_1472 rfl h1 h2 (Or.inr rfl) (hQ M)
    have hle : i + 6 ≤ G.2 23 := by
      rw [fa_lt, hsub, hii] at q
      omega
    refine wp_aload_n 3 eL_27 rfl rfl ?_
    refine wp_iload_n 0 eL_28 rfl rfl ?_
    refine wp_scd (j := i) eL_29 rfl (by omega) hL ?_
    refine wp_bipush (v := 63) eL_30 rfl ?_
    refine wp_iand eL_32 ?_
    obtain ⟨t, ht, et⟩ := and63 (scr G i)
    rw [et]
    have et2 : (nI t).toInt = t := nI_toInt (by omega)
    have next : ∀ M2, Sim M2 b m → Wp G (mLaw nm) (d + 1) mc ms ce sl 1465 [(3, .int (nI i)), (2, .ref m), (1, .ref b), (0, .ref (G.2 22))] [] X M2 Q := by
      intro M2 hs2
      refine wp_iinc (v := nI (i + 6)) (lo2 := [(3, .int _), (2, .ref _), (1, .ref _), (0, .ref _)]) eL_1465 (q := 0) rfl (nI_add i 6) (Nat.le_of_ble_eq_true rfl) rfl ?_
      refine wp_goto (tgt := 18) eL_1468 (by decide) ?_
      exact nxt hle M2 hs2
    by_cases h41 : t ≤ 40
    · match t, h41, et2 with
      | 0, _, et2 => exact wp_tblIn (off := 179) (tgt := 212) eL_33 (by rw [et2]; decide) (by rw [et2]; decide) (by rw [et2]; rfl) (by decide) (lc_0 G d hd hS hM hbm hL hle (Nat.le_of_eq h1) h2 hs next)
      | 1, _, et2 => exact wp_tblIn (off := 222) (tgt := 255) eL_33 (by rw [et2]; decide) (by rw [et2]; decide) (by rw [et2]; rfl) (by decide) (lc_1 G d hd hS hM hbm hL hle (Nat.le_of_eq h1) h2 hs next)
      | 2, _, et2 => exact wp_tblIn (off := 255) (tgt := 288) eL_33 (by rw [et2]; decide) (by rw [et2]; decide) (by rw [et2]; rfl) (by decide) (lc_2 G d hd hS hM hbm hL hle (Nat.le_of_eq h1) h2 hs next)
      | 3, _, et2 => exact wp_tblIn (off := 298) (tgt := 331) eL_33 (by rw [et2]; decide) (by rw [et2]; decide) (by rw [et2]; rfl) (by decide) (lc_3 G d hd hS hM hbm hL hle (Nat.le_of_eq h1) h2 hs next)
      | 4, _, et2 => exact wp_tblIn (off := 331) (tgt := 364) eL_33 (by rw [et2]; decide) (by rw [et2]; decide) (by rw [et2]; rfl) (by decide) (lc_4 G d hd hS hM hbm hL hle (Nat.le_of_eq h1) h2 hs next)
      | 5, _, et2 => exact wp_tblIn (off := 364) (tgt := 397) eL_33 (by rw [et2]; decide) (by rw [et2]; decide) (by rw [et2]; rfl) (by decide) (lc_5 G d hd hS hM hbm hL hle (Nat.le_of_eq h1) h2 hs next)
      | 6, _, et2 => exact wp_tblIn (off := 397) (tgt := 430) eL_33 (by rw [et2]; decide) (by rw [et2]; decide) (by rw [et2]; rfl) (by decide) (lc_6 G d hd hS hM hbm hL hle (Nat.le_of_eq h1) h2 hs next)
      | 7, _, et2 => exact wp_tblIn (off := 430) (tgt := 463) eL_33 (by rw [et2]; decide) (by rw [et2]; decide) (by rw [et2]; rfl) (by decide) (lc_7 G d hd hS hM hbm hL hle (Nat.le_of_eq h1) h2 hs next)
      | 8, _, et2 => exact wp_tblIn (off := 463) (tgt := 496) eL_33 (by rw [et2]; decide) (by rw [et2]; decide) (by rw [et2]; rfl) (by decide) (lc_8 G d hd hS hM hbm hL hle (Nat.le_of_eq h1) h2 hs next)
      | 9, _, et2 => exact wp_tblIn (off := 496) (tgt := 529) eL_33 (by rw [et2]; decide) (by rw [et2]; decide) (by rw [et2]; rfl) (by decide) (lc_9 G d hd hS hM hbm hL hle (Nat.le_of_eq h1) h2 hs next)
      | 10, _, et2 => exact wp_tblIn (off := 529) (tgt := 562) eL_33 (by rw [et2]; decide) (by rw [et2]; decide) (by rw [et2]; rfl) (by decide) (lc_10 G d hd hS hM hbm hL hle (Nat.le_of_eq h1) h2 hs next)
      | 11, _, et2 => exact wp_tblIn (off := 562) (tgt := 595) eL_33 (by rw [et2]; decide) (by rw [et2]; decide) (by rw [et2]; rfl) (by decide) (lc_11 G d hd hS hM hbm hL hle (Nat.le_of_eq h1) h2 hs next)
      | 12, _, et2 => exact wp_tblIn (off := 585) (tgt := 618) eL_33 (by rw [et2]; decide) (by rw [et2]; decide) (by rw [et2]; rfl) (by decide) (lc_12 G d hd hS hM hbm hL hle (Nat.le_of_eq h1) h2 hs next)
      | 13, _, et2 => exact wp_tblIn (off := 598) (tgt := 631) eL_33 (by rw [et2]; decide) (by rw [et2]; decide) (by rw [et2]; rfl) (by decide) (lc_13 G d hd hS hM hbm hL hle (Nat.le_of_eq h1) h2 hs next)
      | 14, _, et2 => exact wp_tblIn (off := 621) (tgt := 654) eL_33 (by rw [et2]; decide) (by rw [et2]; decide) (by rw [et2]; rfl) (by decide) (lc_14 G d hd hS hM hbm hL hle (Nat.le_of_eq h1) h2 hs next)
      | 15, _, et2 => exact wp_tblIn (off := 644) (tgt := 677) eL_33 (by rw [et2]; decide) (by rw [et2]; decide) (by rw [et2]; rfl) (by decide) (lc_15 G d hd hS hM hbm hL hle (Nat.le_of_eq h1) h2 hs next)
      | 16, _, et2 => exact wp_tblIn (off := 667) (tgt := 700) eL_33 (by rw [et2]; decide) (by rw [et2]; decide) (by rw [et2]; rfl) (by decide) (lc_16 G d hd hS hM hbm hL hle (Nat.le_of_eq h1) h2 hs next)
      | 17, _, et2 => exact wp_tblIn (off := 710) (tgt := 743) eL_33 (by rw [et2]; decide) (by rw [et2]; decide) (by rw [et2]; rfl) (by decide) (lc_17 G d hd hS hM hbm hL hle (Nat.le_of_eq h1) h2 hs next)
      | 18, _, et2 => exact wp_tblIn (off := 733) (tgt := 766) eL_33 (by rw [et2]; decide) (by rw [et2]; decide) (by rw [et2]; rfl) (by decide) (lc_18 G d hd hS hM hbm hL hle (Nat.le_of_eq h1) h2 hs next)
      | 19, _, et2 => exact wp_tblIn (off := 746) (tgt := 779) eL_33 (by rw [et2]; decide) (by rw [et2]; decide) (by rw [et2]; rfl) (by decide) (lc_19 G d hd hS hM hbm hL hle (Nat.le_of_eq h1) h2 hs next)
      | 20, _, et2 => exact wp_tblIn (off := 779) (tgt := 812) eL_33 (by rw [et2]; decide) (by rw [et2]; decide) (by rw [et2]; rfl) (by decide) (lc_20 G d hd hS hM hbm hL hle (Nat.le_of_eq h1) h2 hs next)
      | 21, _, et2 => exact wp_tblIn (off := 812) (tgt := 845) eL_33 (by rw [et2]; decide) (by rw [et2]; decide) (by rw [et2]; rfl) (by decide) (lc_21 G d hd hS hM hbm hL hle (Nat.le_of_eq h1) h2 hs next)
      | 22, _, et2 => exact wp_tblIn (off := 835) (tgt := 868) eL_33 (by rw [et2]; decide) (by rw [et2]; decide) (by rw [et2]; rfl) (by decide) (lc_22 G d hd hS hM hbm hL hle (Nat.le_of_eq h1) h2 hs next)
      | 23, _, et2 => exact wp_tblIn (off := 848) (tgt := 881) eL_33 (by rw [et2]; decide) (by rw [et2]; decide) (by rw [et2]; rfl) (by decide) (lc_23 G d hd hS hM hbm hL hle (Nat.le_of_eq h1) h2 hs next)
      | 24, _, et2 => exact wp_tblIn (off := 891) (tgt := 924) eL_33 (by rw [et2]; decide) (by rw [et2]; decide) (by rw [et2]; rfl) (by decide) (lc_24 G d hd hS hM hbm hL hle (Nat.le_of_eq h1) h2 hs next)
      | 25, _, et2 => exact wp_tblIn (off := 914) (tgt := 947) eL_33 (by rw [et2]; decide) (by rw [et2]; decide) (by rw [et2]; rfl) (by decide) (lc_25 G d hd hS hM hbm hL hle (Nat.le_of_eq h1) h2 hs next)
      | 26, _, et2 => exact wp_tblIn (off := 937) (tgt := 970) eL_33 (by rw [et2]; decide) (by rw [et2]; decide) (by rw [et2]; rfl) (by decide) (lc_26 G d hd hS hM hbm hL hle (Nat.le_of_eq h1) h2 hs next)
      | 27, _, et2 => exact wp_tblIn (off := 970) (tgt := 1003) eL_33 (by rw [et2]; decide) (by rw [et2]; decide) (by rw [et2]; rfl) (by decide) (lc_27 G d hd hS hM hbm hL hle (Nat.le_of_eq h1) h2 hs next)
      | 28, _, et2 => exact wp_tblIn (off := 1013) (tgt := 1046) eL_33 (by rw [et2]; decide) (by rw [et2]; decide) (by rw [et2]; rfl) (by decide) (lc_28 G d hd hS hM hbm hL hle (Nat.le_of_eq h1) h2 hs next)
      | 29, _, et2 => exact wp_tblIn (off := 1056) (tgt := 1089) eL_33 (by rw [et2]; decide) (by rw [et2]; decide) (by rw [et2]; rfl) (by decide) (lc_29 G d hd hS hM hbm hL hle (Nat.le_of_eq h1) h2 hs next)
      | 30, _, et2 => exact wp_tblIn (off := 1099) (tgt := 1132) eL_33 (by rw [et2]; decide) (by rw [et2]; decide) (by rw [et2]; rfl) (by decide) (lc_30 G d hd hS hM hbm hL hle (Nat.le_of_eq h1) h2 hs next)
      | 31, _, et2 => exact wp_tblIn (off := 1132) (tgt := 1165) eL_33 (by rw [et2]; decide) (by rw [et2]; decide) (by rw [et2]; rfl) (by decide) (lc_31 G d hd hS hM hbm hL hle (Nat.le_of_eq h1) h2 hs next)
      | 32, _, et2 => exact wp_tblIn (off := 1195) (tgt := 1228) eL_33 (by rw [et2]; decide) (by rw [et2]; decide) (by rw [et2]; rfl) (by decide) (lc_32 G d hd hS hM hbm hL hle (Nat.le_of_eq h1) h2 hs next)
      | 33, _, et2 => exact wp_tblIn (off := 1238) (tgt := 1271) eL_33 (by rw [et2]; decide) (by rw [et2]; decide) (by rw [et2]; rfl) (by decide) (lc_33 G d hd hS hM hbm hL hle (Nat.le_of_eq h1) h2 hs next)
      | 34, _, et2 => exact wp_tblIn (off := 1271) (tgt := 1304) eL_33 (by rw [et2]; decide) (by rw [et2]; decide) (by rw [et2]; rfl) (by decide) (lc_34 G d hd hS hM hbm hL hle (Nat.le_of_eq h1) h2 hs next)
      | 35, _, et2 => exact wp_tblIn (off := 1304) (tgt := 1337) eL_33 (by rw [et2]; decide) (by rw [et2]; decide) (by rw [et2]; rfl) (by decide) (lc_35 G d hd hS hM hbm hL hle (Nat.le_of_eq h1) h2 hs next)
      | 36, _, et2 => exact wp_tblIn (off := 1337) (tgt := 1370) eL_33 (by rw [et2]; decide) (by rw [et2]; decide) (by rw [et2]; rfl) (by decide) (lc_36 G d hd hS hM hbm hL hle (Nat.le_of_eq h1) h2 hs next)
      | 37, _, et2 => exact wp_tblIn (off := 1360) (tgt := 1393) eL_33 (by rw [et2]; decide) (by rw [et2]; decide) (by rw [et2]; rfl) (by decide) (lc_37 G d hd hS hM hbm hL hle (Nat.le_of_eq h1) h2 hs next)
      | 38, _, et2 => exact wp_tblIn (off := 1383) (tgt := 1416) eL_33 (by rw [et2]; decide) (by rw [et2]; decide) (by rw [et2]; rfl) (by decide) (lc_38 G d hd hS hM hbm hL hle (Nat.le_of_eq h1) h2 hs next)
      | 39, _, et2 => exact wp_tblIn (off := 1396) (tgt := 1429) eL_33 (by rw [et2]; decide) (by rw [et2]; decide) (by rw [et2]; rfl) (by decide) (lc_39 G d hd hS hM hbm hL hle (Nat.le_of_eq h1) h2 hs next)
      | 40, _, et2 => exact wp_tblIn (off := 1409) (tgt := 1442) eL_33 (by rw [et2]; decide) (by rw [et2]; decide) (by rw [et2]; rfl) (by decide) (lc_40 G d hd hS hM hbm hL hle (Nat.le_of_eq h1) h2 hs next)
      | t + 41, h, _ => exact absurd h (by omega)
    · exact wp_tblOut (tgt := 1465) eL_33 (Or.inr (by rw [et2]; omega)) (by decide) (next M hs)
theorem law_loop (G : Gl) (d : Nat) (hd : 70 ≤ d) {nm : String} {X : Sh} {b m mc ms ce sl : Nat} {Q : Sh → Mm → Option Value → Prop} (hS : Sh9 X b) (hM : Sh10 X m) (hbm : b + 266 ≤ m) (hL : G.2 23 ≤ 3072) (h1 : ce = mc) (h2 : sl ≤ ms) (hQ : ∀ M, Q X M (some (.int 1))) (n : Nat) : ∀ (i : Nat) (M : Mm), G.2 23 ≤ i + n → i ≤ 4000 → Sim M b m → Wp G (mLaw nm) (d + 1) mc ms ce sl 18 [(3, .int (nI i)), (2, .ref m), (1, .ref b), (0, .ref (G.2 22))] [] X M Q := by
  induction n with
  | zero =>
    intro i M hn hi4 hs
    exact law_step G d hd hS hM hbm hL h1 h2 hQ i M hi4 hs (fun q => absurd q (by omega))
  | succ n ih =>
    intro i M hn hi4 hs
    exact law_step G d hd hS hM hbm hL h1 h2 hQ i M hi4 hs (fun q M2 hs2 => ih (i + 6) M2 (by omega) (by omega) hs2)
