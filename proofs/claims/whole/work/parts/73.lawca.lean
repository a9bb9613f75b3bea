/-! THE LAW'S CASES, 1 -/
section LCA1
variable {l : Launch} {p : Program} {e : Env} {s : State} {m : MethodId} {below : List Frame} {meth : Method} {c : Code} {b L : Nat} {xs : Nat → Int32} {G : va_G} {cA : Nat → ClassId} {A1 A2 : Nat → Nat} {fm : Value} {i : Nat}
set_option maxHeartbeats 16000000 in
theorem ca_write (C0 : LA p s m meth c b L xs G cA A1 A2 fm) (hL : L ≤ 2048) (hi : i + 3 < L) {t : List Nat} {w h last : Nat} {bd : Bd} {ps : List Bd} {f : Nat → Option Bd} {z : Int64} (tk : TkS (t, (w, h, last), bd, ps, f, z)) (h0 : ∀ sg : Sg, TkS sg → LWP l p e s m below meth c b G cA A1 A2 861 i [] sg sg) : LWP l p e s m below meth c b G cA A1 A2 160 i [] (t, (w, h, last), bd, ps, f, z) (t, (w, h, last), bd, ps, f, z) := by
  obtain ⟨mm, hm1, -, hm2⟩ := lN_of ((xs (i + 2)).toInt64 <<< ((nI 32).toInt64 &&& 63) ||| ((xs (i + 3)).toInt64 &&& 4294967295))
  refine lp_a1 C0 dL_law_160 ?_
  refine lp_a0 C0 dL_law_161 ?_
  refine lp_i3 C0 dL_law_162 ?_
  refine lp_ic (v := nI 1) C0 dL_law_163 (by decide +kernel) ?_
  refine lp_iadd (v := nI (i + 1)) C0 dL_law_164 (nI_add i 1) ?_
  refine lp_sld (j := i + 1) C0 hL (by omega) dL_law_165 ?_
  refine lp_a0 C0 dL_law_166 ?_
  refine lp_i3 C0 dL_law_167 ?_
  refine lp_ic (v := nI 2) C0 dL_law_168 (by decide +kernel) ?_
  refine lp_iadd (v := nI (i + 2)) C0 dL_law_169 (nI_add i 2) ?_
  refine lp_sld (j := i + 2) C0 hL (by omega) dL_law_170 ?_
  refine lp_i2l C0 dL_law_171 ?_
  refine lp_bip (v := nI 32) C0 dL_law_172 (by decide +kernel) ?_
  refine lp_lshl C0 dL_law_174 ?_
  refine lp_a0 C0 dL_law_175 ?_
  refine lp_i3 C0 dL_law_176 ?_
  refine lp_ic (v := nI 3) C0 dL_law_177 (by decide +kernel) ?_
  refine lp_iadd (v := nI (i + 3)) C0 dL_law_178 (nI_add i 3) ?_
  refine lp_sld (j := i + 3) C0 hL (by omega) dL_law_179 ?_
  refine lp_i2l C0 dL_law_180 ?_
  refine lp_ldc2 (v := 4294967295) C0 dL_law_181 (tb_in 1104 (by decide +kernel)) ?_
  refine lp_land C0 dL_law_184 ?_
  refine lp_lor C0 dL_law_185 hm2 ?_
  refine lp_callC (as := [.int (xs (i + 1)), .long (lN mm)]) (Q' := fun I J => AQ (aWrite t (xs (i + 1))) ((tWrite t (xs (i + 1)) mm, (w, h, last), bd, ps, f, z))) (v := .int (aWrite t (xs (i + 1)))) (s1' := (tWrite t (xs (i + 1)) mm, (w, h, last), bd, ps, f, z)) C0 dL_law_186 (tb_in 273 (by decide +kernel)) m_X5_write rfl rfl (fun _ _ => rfl) (fun _ _ => rfl) rfl (Nat.le_of_ble_eq_true rfl) (fun I J hR => sp_X5_write (d := 11) (show RepC t w h last bd ps f z I J from hR) hm1) (fun _ _ _ _ _ _ q => aq_d q) ?_
  refine lp_a2 C0 dL_law_189 ?_
  refine lp_a0 C0 dL_law_190 ?_
  refine lp_i3 C0 dL_law_191 ?_
  refine lp_ic (v := nI 1) C0 dL_law_192 (by decide +kernel) ?_
  refine lp_iadd (v := nI (i + 1)) C0 dL_law_193 (nI_add i 1) ?_
  refine lp_sld (j := i + 1) C0 hL (by omega) dL_law_194 ?_
  refine lp_a0 C0 dL_law_195 ?_
  refine lp_i3 C0 dL_law_196 ?_
  refine lp_ic (v := nI 2) C0 dL_law_197 (by decide +kernel) ?_
  refine lp_iadd (v := nI (i + 2)) C0 dL_law_198 (nI_add i 2) ?_
  refine lp_sld (j := i + 2) C0 hL (by omega) dL_law_199 ?_
  refine lp_i2l C0 dL_law_200 ?_
  refine lp_bip (v := nI 32) C0 dL_law_201 (by decide +kernel) ?_
  refine lp_lshl C0 dL_law_203 ?_
  refine lp_a0 C0 dL_law_204 ?_
  refine lp_i3 C0 dL_law_205 ?_
  refine lp_ic (v := nI 3) C0 dL_law_206 (by decide +kernel) ?_
  refine lp_iadd (v := nI (i + 3)) C0 dL_law_207 (nI_add i 3) ?_
  refine lp_sld (j := i + 3) C0 hL (by omega) dL_law_208 ?_
  refine lp_i2l C0 dL_law_209 ?_
  refine lp_ldc2 (v := 4294967295) C0 dL_law_210 (tb_in 1104 (by decide +kernel)) ?_
  refine lp_land C0 dL_law_213 ?_
  refine lp_lor C0 dL_law_214 hm2 ?_
  refine lp_callM (as := [.int (xs (i + 1)), .long (lN mm)]) (Q' := fun I J => AM (aWrite t (xs (i + 1))) ((tWrite t (xs (i + 1)) mm, (w, h, last), bd, ps, f, z))) (v := .int (aWrite t (xs (i + 1)))) (s1' := (tWrite t (xs (i + 1)) mm, (w, h, last), bd, ps, f, z)) C0 dL_law_215 (tb_in 849 (by decide +kernel)) m_X6_write rfl rfl (fun _ _ => rfl) (fun _ _ => rfl) rfl (Nat.le_of_ble_eq_true rfl) (fun I J hR => sp_X6_write (d := 11) (show RepM t w h last bd ps f z I J from hR) hm1) (fun _ _ _ _ _ _ q => am_d q) ?_
  exact lp_eq (tgt := 861) C0 dL_law_218 (by decide) (h0 _ (tk))
set_option maxHeartbeats 16000000 in
theorem ca_wipe (C0 : LA p s m meth c b L xs G cA A1 A2 fm) (hL : L ≤ 2048) (hi : i + 3 < L) {t : List Nat} {w h last : Nat} {bd : Bd} {ps : List Bd} {f : Nat → Option Bd} {z : Int64} (tk : TkS (t, (w, h, last), bd, ps, f, z)) (h0 : ∀ sg : Sg, TkS sg → LWP l p e s m below meth c b G cA A1 A2 861 i [] sg sg) : LWP l p e s m below meth c b G cA A1 A2 223 i [] (t, (w, h, last), bd, ps, f, z) (t, (w, h, last), bd, ps, f, z) := by
  refine lp_a1 C0 dL_law_223 ?_
  refine lp_callC (as := []) (Q' := fun I J => AQ (nI t.length) (([], (w, h, last), bd, ps, f, z))) (v := .int (nI t.length)) (s1' := ([], (w, h, last), bd, ps, f, z)) C0 dL_law_224 (tb_in 281 (by decide +kernel)) m_X5_wipe rfl rfl (fun _ _ => rfl) (fun _ _ => rfl) rfl (Nat.le_of_ble_eq_true rfl) (fun I J hR => sp_X5_wipe (d := 12) (show RepC t w h last bd ps f z I J from hR)) (fun _ _ _ _ _ _ q => aq_d q) ?_
  refine lp_a2 C0 dL_law_227 ?_
  refine lp_callM (as := []) (Q' := fun I J => AM (nI t.length) (([], (w, h, last), bd, ps, f, z))) (v := .int (nI t.length)) (s1' := ([], (w, h, last), bd, ps, f, z)) C0 dL_law_228 (tb_in 858 (by decide +kernel)) m_X6_wipe rfl rfl (fun _ _ => rfl) (fun _ _ => rfl) rfl (Nat.le_of_ble_eq_true rfl) (fun I J hR => sp_X6_wipe (d := 12) (show RepM t w h last bd ps f z I J from hR)) (fun _ _ _ _ _ _ q => am_d q) ?_
  exact lp_eq (tgt := 861) C0 dL_law_231 (by decide) (h0 _ (tk))
set_option maxHeartbeats 16000000 in
theorem ca_fault (C0 : LA p s m meth c b L xs G cA A1 A2 fm) (hL : L ≤ 2048) (hi : i + 3 < L) {t : List Nat} {w h last : Nat} {bd : Bd} {ps : List Bd} {f : Nat → Option Bd} {z : Int64} (tk : TkS (t, (w, h, last), bd, ps, f, z)) (h0 : ∀ sg : Sg, TkS sg → LWP l p e s m below meth c b G cA A1 A2 861 i [] sg sg) : LWP l p e s m below meth c b G cA A1 A2 236 i [] (t, (w, h, last), bd, ps, f, z) (t, (w, h, last), bd, ps, f, z) := by
  refine lp_a1 C0 dL_law_236 ?_
  refine lp_callC (as := []) (Q' := fun I J => AQ (ffI (ffT t)) ((t, (w, h, last), bd, ps, f, z))) (v := .int (ffI (ffT t))) (s1' := (t, (w, h, last), bd, ps, f, z)) C0 dL_law_237 (tb_in 285 (by decide +kernel)) m_X5_fault rfl rfl (fun _ _ => rfl) (fun _ _ => rfl) rfl (Nat.le_of_ble_eq_true rfl) (fun I J hR => sp_X5_fault (d := 5) (show RepC t w h last bd ps f z I J from hR)) (fun _ _ _ _ _ _ q => aq_d q) ?_
  refine lp_a2 C0 dL_law_240 ?_
  refine lp_callM (as := []) (Q' := fun I J => PQ (.int (ffI (ffT t))) I J) (v := .int (ffI (ffT t))) (s1' := (t, (w, h, last), bd, ps, f, z)) C0 dL_law_241 (tb_in 862 (by decide +kernel)) m_X6_fault rfl rfl (fun _ _ => rfl) (fun _ _ => rfl) rfl (Nat.le_of_ble_eq_true rfl) (fun I J hR => sp_X6_fault (d := 9) (show RepM t w h last bd ps f z I J from hR)) (fun _ _ hR r I' J' q => by
    obtain ⟨rfl, rfl, rfl⟩ := q
    exact ⟨rfl, hR⟩) ?_
  exact lp_eq (tgt := 861) C0 dL_law_244 (by decide) (h0 _ (tk))
set_option maxHeartbeats 16000000 in
theorem ca_board (C0 : LA p s m meth c b L xs G cA A1 A2 fm) (hL : L ≤ 2048) (hi : i + 3 < L) {t : List Nat} {w h last : Nat} {bd : Bd} {ps : List Bd} {f : Nat → Option Bd} {z : Int64} (tk : TkS (t, (w, h, last), bd, ps, f, z)) (h0 : ∀ sg : Sg, TkS sg → LWP l p e s m below meth c b G cA A1 A2 861 i [] sg sg) : LWP l p e s m below meth c b G cA A1 A2 249 i [] (t, (w, h, last), bd, ps, f, z) (t, (w, h, last), bd, ps, f, z) := by
  refine lp_a1 C0 dL_law_249 ?_
  refine lp_callC (as := []) (Q' := fun I J => AQ (aBoard t) (sBoard t (t, (w, h, last), bd, ps, f, z))) (v := .int (aBoard t)) (s1' := sBoard t (t, (w, h, last), bd, ps, f, z)) C0 dL_law_250 (tb_in 408 (by decide +kernel)) m_X5_board rfl rfl (fun _ _ => rfl) (fun _ _ => rfl) rfl (Nat.le_of_ble_eq_true rfl) (fun I J hR => sp_X5_board (d := 5) (show RepC t w h last bd ps f z I J from hR)) (fun _ _ _ _ _ _ q => aq_d q) ?_
  refine lp_a2 C0 dL_law_253 ?_
  refine lp_callM (as := []) (Q' := fun I J => AM (aBoard t) (sBoard t (t, (w, h, last), bd, ps, f, z))) (v := .int (aBoard t)) (s1' := sBoard t (t, (w, h, last), bd, ps, f, z)) C0 dL_law_254 (tb_in 880 (by decide +kernel)) m_X6_board rfl rfl (fun _ _ => rfl) (fun _ _ => rfl) rfl (Nat.le_of_ble_eq_true rfl) (fun I J hR => sp_X6_board (d := 8) (show RepM t w h last bd ps f z I J from hR)) (fun _ _ _ _ _ _ q => am_d q) ?_
  exact lp_eq (tgt := 861) C0 dL_law_257 (by decide) (h0 _ (tk_board tk))
set_option maxHeartbeats 16000000 in
theorem ca_cell (C0 : LA p s m meth c b L xs G cA A1 A2 fm) (hL : L ≤ 2048) (hi : i + 3 < L) {t : List Nat} {w h last : Nat} {bd : Bd} {ps : List Bd} {f : Nat → Option Bd} {z : Int64} (tk : TkS (t, (w, h, last), bd, ps, f, z)) (h0 : ∀ sg : Sg, TkS sg → LWP l p e s m below meth c b G cA A1 A2 861 i [] sg sg) : LWP l p e s m below meth c b G cA A1 A2 262 i [] (t, (w, h, last), bd, ps, f, z) (t, (w, h, last), bd, ps, f, z) := by
  refine lp_a1 C0 dL_law_262 ?_
  refine lp_a0 C0 dL_law_263 ?_
  refine lp_i3 C0 dL_law_264 ?_
  refine lp_ic (v := nI 1) C0 dL_law_265 (by decide +kernel) ?_
  refine lp_iadd (v := nI (i + 1)) C0 dL_law_266 (nI_add i 1) ?_
  refine lp_sld (j := i + 1) C0 hL (by omega) dL_law_267 ?_
  refine lp_callC (as := [.int (xs (i + 1))]) (Q' := fun I J => AQ (aCell (w * h) bd (xs (i + 1))) ((t, (w, h, last), bd, ps, f, z))) (v := .int (aCell (w * h) bd (xs (i + 1)))) (s1' := (t, (w, h, last), bd, ps, f, z)) C0 dL_law_268 (tb_in 458 (by decide +kernel)) m_X5_cell rfl rfl (fun _ _ => rfl) (fun _ _ => rfl) rfl (Nat.le_of_ble_eq_true rfl) (fun I J hR => sp_X5_cell (d := 7) (show RepC t w h last bd ps f z I J from hR)) (fun _ _ _ _ _ _ q => aq_d q) ?_
  refine lp_a2 C0 dL_law_271 ?_
  refine lp_a0 C0 dL_law_272 ?_
  refine lp_i3 C0 dL_law_273 ?_
  refine lp_ic (v := nI 1) C0 dL_law_274 (by decide +kernel) ?_
  refine lp_iadd (v := nI (i + 1)) C0 dL_law_275 (nI_add i 1) ?_
  refine lp_sld (j := i + 1) C0 hL (by omega) dL_law_276 ?_
  refine lp_callM (as := [.int (xs (i + 1))]) (Q' := fun I J => AM (aCell (w * h) bd (xs (i + 1))) ((t, (w, h, last), bd, ps, f, z))) (v := .int (aCell (w * h) bd (xs (i + 1)))) (s1' := (t, (w, h, last), bd, ps, f, z)) C0 dL_law_277 (tb_in 885 (by decide +kernel)) m_X6_cell rfl rfl (fun _ _ => rfl) (fun _ _ => rfl) rfl (Nat.le_of_ble_eq_true rfl) (fun I J hR => sp_X6_cell (d := 10) (show RepM t w h last bd ps f z I J from hR)) (fun _ _ _ _ _ _ q => am_d q) ?_
  exact lp_eq (tgt := 861) C0 dL_law_280 (by decide) (h0 _ (tk))
set_option maxHeartbeats 16000000 in
theorem ca_gone (C0 : LA p s m meth c b L xs G cA A1 A2 fm) (hL : L ≤ 2048) (hi : i + 3 < L) {t : List Nat} {w h last : Nat} {bd : Bd} {ps : List Bd} {f : Nat → Option Bd} {z : Int64} (tk : TkS (t, (w, h, last), bd, ps, f, z)) (h0 : ∀ sg : Sg, TkS sg → LWP l p e s m below meth c b G cA A1 A2 861 i [] sg sg) : LWP l p e s m below meth c b G cA A1 A2 285 i [] (t, (w, h, last), bd, ps, f, z) (t, (w, h, last), bd, ps, f, z) := by
  refine lp_a1 C0 dL_law_285 ?_
  refine lp_a0 C0 dL_law_286 ?_
  refine lp_i3 C0 dL_law_287 ?_
  refine lp_ic (v := nI 1) C0 dL_law_288 (by decide +kernel) ?_
  refine lp_iadd (v := nI (i + 1)) C0 dL_law_289 (nI_add i 1) ?_
  refine lp_sld (j := i + 1) C0 hL (by omega) dL_law_290 ?_
  refine lp_callC (as := [.int (xs (i + 1))]) (Q' := fun I J => AQ (aGone (w * h) bd (xs (i + 1))) ((t, (w, h, last), bd, ps, f, z))) (v := .int (aGone (w * h) bd (xs (i + 1)))) (s1' := (t, (w, h, last), bd, ps, f, z)) C0 dL_law_291 (tb_in 495 (by decide +kernel)) m_X5_gone rfl rfl (fun _ _ => rfl) (fun _ _ => rfl) rfl (Nat.le_of_ble_eq_true rfl) (fun I J hR => sp_X5_gone (d := 10) (show RepC t w h last bd ps f z I J from hR)) (fun _ _ _ _ _ _ q => aq_d q) ?_
  refine lp_a2 C0 dL_law_294 ?_
  refine lp_a0 C0 dL_law_295 ?_
  refine lp_i3 C0 dL_law_296 ?_
  refine lp_ic (v := nI 1) C0 dL_law_297 (by decide +kernel) ?_
  refine lp_iadd (v := nI (i + 1)) C0 dL_law_298 (nI_add i 1) ?_
  refine lp_sld (j := i + 1) C0 hL (by omega) dL_law_299 ?_
  refine lp_callM (as := [.int (xs (i + 1))]) (Q' := fun I J => AM (aGone (w * h) bd (xs (i + 1))) ((t, (w, h, last), bd, ps, f, z))) (v := .int (aGone (w * h) bd (xs (i + 1)))) (s1' := (t, (w, h, last), bd, ps, f, z)) C0 dL_law_300 (tb_in 893 (by decide +kernel)) m_X6_gone rfl rfl (fun _ _ => rfl) (fun _ _ => rfl) rfl (Nat.le_of_ble_eq_true rfl) (fun I J hR => sp_X6_gone (d := 10) (show RepM t w h last bd ps f z I J from hR)) (fun _ _ _ _ _ _ q => am_d q) ?_
  exact lp_eq (tgt := 861) C0 dL_law_303 (by decide) (h0 _ (tk))
set_option maxHeartbeats 16000000 in
theorem ca_aims (C0 : LA p s m meth c b L xs G cA A1 A2 fm) (hL : L ≤ 2048) (hi : i + 3 < L) {t : List Nat} {w h last : Nat} {bd : Bd} {ps : List Bd} {f : Nat → Option Bd} {z : Int64} (tk : TkS (t, (w, h, last), bd, ps, f, z)) (h0 : ∀ sg : Sg, TkS sg → LWP l p e s m below meth c b G cA A1 A2 861 i [] sg sg) : LWP l p e s m below meth c b G cA A1 A2 308 i [] (t, (w, h, last), bd, ps, f, z) (t, (w, h, last), bd, ps, f, z) := by
  refine lp_a1 C0 dL_law_308 ?_
  refine lp_a0 C0 dL_law_309 ?_
  refine lp_i3 C0 dL_law_310 ?_
  refine lp_ic (v := nI 1) C0 dL_law_311 (by decide +kernel) ?_
  refine lp_iadd (v := nI (i + 1)) C0 dL_law_312 (nI_add i 1) ?_
  refine lp_sld (j := i + 1) C0 hL (by omega) dL_law_313 ?_
  refine lp_callC (as := [.int (xs (i + 1))]) (Q' := fun I J => AQ (aAims w h bd (xs (i + 1))) ((t, (w, h, last), bd, ps, f, z))) (v := .int (aAims w h bd (xs (i + 1)))) (s1' := (t, (w, h, last), bd, ps, f, z)) C0 dL_law_314 (tb_in 506 (by decide +kernel)) m_X5_aims rfl rfl (fun _ _ => rfl) (fun _ _ => rfl) rfl (Nat.le_of_ble_eq_true rfl) (fun I J hR => sp_X5_aims (d := 9) (show RepC t w h last bd ps f z I J from hR)) (fun _ _ _ _ _ _ q => aq_d q) ?_
  refine lp_a2 C0 dL_law_317 ?_
  refine lp_a0 C0 dL_law_318 ?_
  refine lp_i3 C0 dL_law_319 ?_
  refine lp_ic (v := nI 1) C0 dL_law_320 (by decide +kernel) ?_
  refine lp_iadd (v := nI (i + 1)) C0 dL_law_321 (nI_add i 1) ?_
  refine lp_sld (j := i + 1) C0 hL (by omega) dL_law_322 ?_
  refine lp_callM (as := [.int (xs (i + 1))]) (Q' := fun I J => AM (aAims w h bd (xs (i + 1))) ((t, (w, h, last), bd, ps, f, z))) (v := .int (aAims w h bd (xs (i + 1)))) (s1' := (t, (w, h, last), bd, ps, f, z)) C0 dL_law_323 (tb_in 897 (by decide +kernel)) m_X6_aims rfl rfl (fun _ _ => rfl) (fun _ _ => rfl) rfl (Nat.le_of_ble_eq_true rfl) (fun I J hR => sp_X6_aims (d := 8) (show RepM t w h last bd ps f z I J from hR)) (fun _ _ _ _ _ _ q => am_d q) ?_
  exact lp_eq (tgt := 861) C0 dL_law_326 (by decide) (h0 _ (tk))
set_option maxHeartbeats 16000000 in
theorem ca_can (C0 : LA p s m meth c b L xs G cA A1 A2 fm) (hL : L ≤ 2048) (hi : i + 3 < L) {t : List Nat} {w h last : Nat} {bd : Bd} {ps : List Bd} {f : Nat → Option Bd} {z : Int64} (tk : TkS (t, (w, h, last), bd, ps, f, z)) (h0 : ∀ sg : Sg, TkS sg → LWP l p e s m below meth c b G cA A1 A2 861 i [] sg sg) : LWP l p e s m below meth c b G cA A1 A2 331 i [] (t, (w, h, last), bd, ps, f, z) (t, (w, h, last), bd, ps, f, z) := by
  refine lp_a1 C0 dL_law_331 ?_
  refine lp_a0 C0 dL_law_332 ?_
  refine lp_i3 C0 dL_law_333 ?_
  refine lp_ic (v := nI 1) C0 dL_law_334 (by decide +kernel) ?_
  refine lp_iadd (v := nI (i + 1)) C0 dL_law_335 (nI_add i 1) ?_
  refine lp_sld (j := i + 1) C0 hL (by omega) dL_law_336 ?_
  refine lp_callC (as := [.int (xs (i + 1))]) (Q' := fun I J => AQ (aCan w h bd (xs (i + 1))) ((t, (w, h, last), bd, ps, f, z))) (v := .int (aCan w h bd (xs (i + 1)))) (s1' := (t, (w, h, last), bd, ps, f, z)) C0 dL_law_337 (tb_in 525 (by decide +kernel)) m_X5_can rfl rfl (fun _ _ => rfl) (fun _ _ => rfl) rfl (Nat.le_of_ble_eq_true rfl) (fun I J hR => sp_X5_can (d := 8) (show RepC t w h last bd ps f z I J from hR)) (fun _ _ _ _ _ _ q => aq_d q) ?_
  refine lp_a2 C0 dL_law_340 ?_
  refine lp_a0 C0 dL_law_341 ?_
  refine lp_i3 C0 dL_law_342 ?_
  refine lp_ic (v := nI 1) C0 dL_law_343 (by decide +kernel) ?_
  refine lp_iadd (v := nI (i + 1)) C0 dL_law_344 (nI_add i 1) ?_
  refine lp_sld (j := i + 1) C0 hL (by omega) dL_law_345 ?_
  refine lp_callM (as := [.int (xs (i + 1))]) (Q' := fun I J => AM (aCan w h bd (xs (i + 1))) ((t, (w, h, last), bd, ps, f, z))) (v := .int (aCan w h bd (xs (i + 1)))) (s1' := (t, (w, h, last), bd, ps, f, z)) C0 dL_law_346 (tb_in 924 (by decide +kernel)) m_X6_can rfl rfl (fun _ _ => rfl) (fun _ _ => rfl) rfl (Nat.le_of_ble_eq_true rfl) (fun I J hR => sp_X6_can (d := 6) (show RepM t w h last bd ps f z I J from hR)) (fun _ _ _ _ _ _ q => am_d q) ?_
  exact lp_eq (tgt := 861) C0 dL_law_349 (by decide) (h0 _ (tk))
set_option maxHeartbeats 16000000 in
theorem ca_plies (C0 : LA p s m meth c b L xs G cA A1 A2 fm) (hL : L ≤ 2048) (hi : i + 3 < L) {t : List Nat} {w h last : Nat} {bd : Bd} {ps : List Bd} {f : Nat → Option Bd} {z : Int64} (tk : TkS (t, (w, h, last), bd, ps, f, z)) (h0 : ∀ sg : Sg, TkS sg → LWP l p e s m below meth c b G cA A1 A2 861 i [] sg sg) : LWP l p e s m below meth c b G cA A1 A2 354 i [] (t, (w, h, last), bd, ps, f, z) (t, (w, h, last), bd, ps, f, z) := by
  refine lp_a1 C0 dL_law_354 ?_
  refine lp_callC (as := []) (Q' := fun I J => AQ (nI (PLY w h bd).length) ((t, (w, h, last), bd, ps, f, z))) (v := .int (nI (PLY w h bd).length)) (s1' := (t, (w, h, last), bd, ps, f, z)) C0 dL_law_355 (tb_in 544 (by decide +kernel)) m_X5_plies rfl rfl (fun _ _ => rfl) (fun _ _ => rfl) rfl (Nat.le_of_ble_eq_true rfl) (fun I J hR => sp_X5_plies (d := 7) (show RepC t w h last bd ps f z I J from hR)) (fun _ _ _ _ _ _ q => aq_d q) ?_
  refine lp_a2 C0 dL_law_358 ?_
  refine lp_callM (as := []) (Q' := fun I J => AM (nI (PLY w h bd).length) ((t, (w, h, last), bd, ps, f, z))) (v := .int (nI (PLY w h bd).length)) (s1' := (t, (w, h, last), bd, ps, f, z)) C0 dL_law_359 (tb_in 936 (by decide +kernel)) m_X6_plies rfl rfl (fun _ _ => rfl) (fun _ _ => rfl) rfl (Nat.le_of_ble_eq_true rfl) (fun I J hR => sp_X6_plies (d := 5) (show RepM t w h last bd ps f z I J from hR)) (fun _ _ _ _ _ _ q => am_d q) ?_
  exact lp_eq (tgt := 861) C0 dL_law_362 (by decide) (h0 _ (tk))
set_option maxHeartbeats 16000000 in
theorem ca_move (C0 : LA p s m meth c b L xs G cA A1 A2 fm) (hL : L ≤ 2048) (hi : i + 3 < L) {t : List Nat} {w h last : Nat} {bd : Bd} {ps : List Bd} {f : Nat → Option Bd} {z : Int64} (tk : TkS (t, (w, h, last), bd, ps, f, z)) (h0 : ∀ sg : Sg, TkS sg → LWP l p e s m below meth c b G cA A1 A2 861 i [] sg sg) : LWP l p e s m below meth c b G cA A1 A2 367 i [] (t, (w, h, last), bd, ps, f, z) (t, (w, h, last), bd, ps, f, z) := by
  refine lp_a1 C0 dL_law_367 ?_
  refine lp_a0 C0 dL_law_368 ?_
  refine lp_i3 C0 dL_law_369 ?_
  refine lp_ic (v := nI 1) C0 dL_law_370 (by decide +kernel) ?_
  refine lp_iadd (v := nI (i + 1)) C0 dL_law_371 (nI_add i 1) ?_
  refine lp_sld (j := i + 1) C0 hL (by omega) dL_law_372 ?_
  refine lp_a0 C0 dL_law_373 ?_
  refine lp_i3 C0 dL_law_374 ?_
  refine lp_ic (v := nI 2) C0 dL_law_375 (by decide +kernel) ?_
  refine lp_iadd (v := nI (i + 2)) C0 dL_law_376 (nI_add i 2) ?_
  refine lp_sld (j := i + 2) C0 hL (by omega) dL_law_377 ?_
  refine lp_callC (as := [.int (xs (i + 1)), .int (xs (i + 2))]) (Q' := fun I J => AQ (aMove w h bd (xs (i + 1)) (xs (i + 2))) (sMove (xs (i + 1)) (xs (i + 2)) (t, (w, h, last), bd, ps, f, z))) (v := .int (aMove w h bd (xs (i + 1)) (xs (i + 2)))) (s1' := sMove (xs (i + 1)) (xs (i + 2)) (t, (w, h, last), bd, ps, f, z)) C0 dL_law_378 (tb_in 563 (by decide +kernel)) m_X5_move rfl rfl (fun _ _ => rfl) (fun _ _ => rfl) rfl (Nat.le_of_ble_eq_true rfl) (fun I J hR => sp_X5_move (d := 7) (show RepC t w h last bd ps f z I J from hR)) (fun _ _ _ _ _ _ q => aq_d q) ?_
  refine lp_a2 C0 dL_law_381 ?_
  refine lp_a0 C0 dL_law_382 ?_
  refine lp_i3 C0 dL_law_383 ?_
  refine lp_ic (v := nI 1) C0 dL_law_384 (by decide +kernel) ?_
  refine lp_iadd (v := nI (i + 1)) C0 dL_law_385 (nI_add i 1) ?_
  refine lp_sld (j := i + 1) C0 hL (by omega) dL_law_386 ?_
  refine lp_a0 C0 dL_law_387 ?_
  refine lp_i3 C0 dL_law_388 ?_
  refine lp_ic (v := nI 2) C0 dL_law_389 (by decide +kernel) ?_
  refine lp_iadd (v := nI (i + 2)) C0 dL_law_390 (nI_add i 2) ?_
  refine lp_sld (j := i + 2) C0 hL (by omega) dL_law_391 ?_
  refine lp_callM (as := [.int (xs (i + 1)), .int (xs (i + 2))]) (Q' := fun I J => AM (aMove w h bd (xs (i + 1)) (xs (i + 2))) (sMove (xs (i + 1)) (xs (i + 2)) (t, (w, h, last), bd, ps, f, z))) (v := .int (aMove w h bd (xs (i + 1)) (xs (i + 2)))) (s1' := sMove (xs (i + 1)) (xs (i + 2)) (t, (w, h, last), bd, ps, f, z)) C0 dL_law_392 (tb_in 944 (by decide +kernel)) m_X6_move rfl rfl (fun _ _ => rfl) (fun _ _ => rfl) rfl (Nat.le_of_ble_eq_true rfl) (fun I J hR => sp_X6_move (d := 5) (show RepM t w h last bd ps f z I J from hR)) (fun _ _ _ _ _ _ q => am_d q) ?_
  exact lp_eq (tgt := 861) C0 dL_law_395 (by decide) (h0 _ (tk_move tk))
set_option maxHeartbeats 16000000 in
theorem ca_pass (C0 : LA p s m meth c b L xs G cA A1 A2 fm) (hL : L ≤ 2048) (hi : i + 3 < L) {t : List Nat} {w h last : Nat} {bd : Bd} {ps : List Bd} {f : Nat → Option Bd} {z : Int64} (tk : TkS (t, (w, h, last), bd, ps, f, z)) (h0 : ∀ sg : Sg, TkS sg → LWP l p e s m below meth c b G cA A1 A2 861 i [] sg sg) : LWP l p e s m below meth c b G cA A1 A2 400 i [] (t, (w, h, last), bd, ps, f, z) (t, (w, h, last), bd, ps, f, z) := by
  refine lp_a1 C0 dL_law_400 ?_
  refine lp_callC (as := []) (Q' := fun I J => AQ (aPass w h bd) (sPass (t, (w, h, last), bd, ps, f, z))) (v := .int (aPass w h bd)) (s1' := sPass (t, (w, h, last), bd, ps, f, z)) C0 dL_law_401 (tb_in 597 (by decide +kernel)) m_X5_pass rfl rfl (fun _ _ => rfl) (fun _ _ => rfl) rfl (Nat.le_of_ble_eq_true rfl) (fun I J hR => sp_X5_pass (d := 7) (show RepC t w h last bd ps f z I J from hR)) (fun _ _ _ _ _ _ q => aq_d q) ?_
  refine lp_a2 C0 dL_law_404 ?_
  refine lp_callM (as := []) (Q' := fun I J => AM (aPass w h bd) (sPass (t, (w, h, last), bd, ps, f, z))) (v := .int (aPass w h bd)) (s1' := sPass (t, (w, h, last), bd, ps, f, z)) C0 dL_law_405 (tb_in 964 (by decide +kernel)) m_X6_pass rfl rfl (fun _ _ => rfl) (fun _ _ => rfl) rfl (Nat.le_of_ble_eq_true rfl) (fun I J hR => sp_X6_pass (d := 5) (show RepM t w h last bd ps f z I J from hR)) (fun _ _ _ _ _ _ q => am_d q) ?_
  exact lp_eq (tgt := 861) C0 dL_law_408 (by decide) (h0 _ (tk_pass tk))
set_option maxHeartbeats 16000000 in
theorem ca_undo (C0 : LA p s m meth c b L xs G cA A1 A2 fm) (hL : L ≤ 2048) (hi : i + 3 < L) {t : List Nat} {w h last : Nat} {bd : Bd} {ps : List Bd} {f : Nat → Option Bd} {z : Int64} (tk : TkS (t, (w, h, last), bd, ps, f, z)) (h0 : ∀ sg : Sg, TkS sg → LWP l p e s m below meth c b G cA A1 A2 861 i [] sg sg) : LWP l p e s m below meth c b G cA A1 A2 413 i [] (t, (w, h, last), bd, ps, f, z) (t, (w, h, last), bd, ps, f, z) := by
  refine lp_a1 C0 dL_law_413 ?_
  refine lp_callC (as := []) (Q' := fun I J => AQ (aUndo ps) (sUndo (t, (w, h, last), bd, ps, f, z))) (v := .int (aUndo ps)) (s1' := sUndo (t, (w, h, last), bd, ps, f, z)) C0 dL_law_414 (tb_in 606 (by decide +kernel)) m_X5_undo rfl rfl (fun _ _ => rfl) (fun _ _ => rfl) rfl (Nat.le_of_ble_eq_true rfl) (fun I J hR => sp_X5_undo (d := 7) (show RepC t w h last bd ps f z I J from hR)) (fun _ _ _ _ _ _ q => aq_d q) ?_
  refine lp_a2 C0 dL_law_417 ?_
  refine lp_callM (as := []) (Q' := fun I J => AM (aUndo ps) (sUndo (t, (w, h, last), bd, ps, f, z))) (v := .int (aUndo ps)) (s1' := sUndo (t, (w, h, last), bd, ps, f, z)) C0 dL_law_418 (tb_in 968 (by decide +kernel)) m_X6_undo rfl rfl (fun _ _ => rfl) (fun _ _ => rfl) rfl (Nat.le_of_ble_eq_true rfl) (fun I J hR => sp_X6_undo (d := 12) (show RepM t w h last bd ps f z I J from hR)) (fun _ _ _ _ _ _ q => am_d q) ?_
  exact lp_eq (tgt := 861) C0 dL_law_421 (by decide) (h0 _ (tk_undo tk))
set_option maxHeartbeats 16000000 in
theorem ca_judge (C0 : LA p s m meth c b L xs G cA A1 A2 fm) (hL : L ≤ 2048) (hi : i + 3 < L) {t : List Nat} {w h last : Nat} {bd : Bd} {ps : List Bd} {f : Nat → Option Bd} {z : Int64} (tk : TkS (t, (w, h, last), bd, ps, f, z)) (h0 : ∀ sg : Sg, TkS sg → LWP l p e s m below meth c b G cA A1 A2 861 i [] sg sg) : LWP l p e s m below meth c b G cA A1 A2 426 i [] (t, (w, h, last), bd, ps, f, z) (t, (w, h, last), bd, ps, f, z) := by
  refine lp_a1 C0 dL_law_426 ?_
  refine lp_a0 C0 dL_law_427 ?_
  refine lp_i3 C0 dL_law_428 ?_
  refine lp_ic (v := nI 1) C0 dL_law_429 (by decide +kernel) ?_
  refine lp_iadd (v := nI (i + 1)) C0 dL_law_430 (nI_add i 1) ?_
  refine lp_sld (j := i + 1) C0 hL (by omega) dL_law_431 ?_
  refine lp_a0 C0 dL_law_432 ?_
  refine lp_i3 C0 dL_law_433 ?_
  refine lp_ic (v := nI 2) C0 dL_law_434 (by decide +kernel) ?_
  refine lp_iadd (v := nI (i + 2)) C0 dL_law_435 (nI_add i 2) ?_
  refine lp_sld (j := i + 2) C0 hL (by omega) dL_law_436 ?_
  refine lp_callC (as := [.int (xs (i + 1)), .int (xs (i + 2))]) (Q' := fun I J => AQ (aJudge w h last bd (xs (i + 1)) (xs (i + 2))) ((t, (w, h, last), bd, ps, f, z))) (v := .int (aJudge w h last bd (xs (i + 1)) (xs (i + 2)))) (s1' := (t, (w, h, last), bd, ps, f, z)) C0 dL_law_437 (tb_in 623 (by decide +kernel)) m_X5_judge rfl rfl (fun _ _ => rfl) (fun _ _ => rfl) rfl (Nat.le_of_ble_eq_true rfl) (fun I J hR => sp_X5_judge (d := 7) (show RepC t w h last bd ps f z I J from hR)) (fun _ _ _ _ _ _ q => aq_d q) ?_
  refine lp_a2 C0 dL_law_440 ?_
  refine lp_a0 C0 dL_law_441 ?_
  refine lp_i3 C0 dL_law_442 ?_
  refine lp_ic (v := nI 1) C0 dL_law_443 (by decide +kernel) ?_
  refine lp_iadd (v := nI (i + 1)) C0 dL_law_444 (nI_add i 1) ?_
  refine lp_sld (j := i + 1) C0 hL (by omega) dL_law_445 ?_
  refine lp_a0 C0 dL_law_446 ?_
  refine lp_i3 C0 dL_law_447 ?_
  refine lp_ic (v := nI 2) C0 dL_law_448 (by decide +kernel) ?_
  refine lp_iadd (v := nI (i + 2)) C0 dL_law_449 (nI_add i 2) ?_
  refine lp_sld (j := i + 2) C0 hL (by omega) dL_law_450 ?_
  refine lp_callM (as := [.int (xs (i + 1)), .int (xs (i + 2))]) (Q' := fun I J => AM (aJudge w h last bd (xs (i + 1)) (xs (i + 2))) ((t, (w, h, last), bd, ps, f, z))) (v := .int (aJudge w h last bd (xs (i + 1)) (xs (i + 2)))) (s1' := (t, (w, h, last), bd, ps, f, z)) C0 dL_law_451 (tb_in 972 (by decide +kernel)) m_X6_judge rfl rfl (fun _ _ => rfl) (fun _ _ => rfl) rfl (Nat.le_of_ble_eq_true rfl) (fun I J hR => sp_X6_judge (d := 5) (show RepM t w h last bd ps f z I J from hR)) (fun _ _ _ _ _ _ q => am_d q) ?_
  exact lp_eq (tgt := 861) C0 dL_law_454 (by decide) (h0 _ (tk))
set_option maxHeartbeats 16000000 in
theorem ca_wins (C0 : LA p s m meth c b L xs G cA A1 A2 fm) (hL : L ≤ 2048) (hi : i + 3 < L) {t : List Nat} {w h last : Nat} {bd : Bd} {ps : List Bd} {f : Nat → Option Bd} {z : Int64} (tk : TkS (t, (w, h, last), bd, ps, f, z)) (h0 : ∀ sg : Sg, TkS sg → LWP l p e s m below meth c b G cA A1 A2 861 i [] sg sg) : LWP l p e s m below meth c b G cA A1 A2 459 i [] (t, (w, h, last), bd, ps, f, z) (t, (w, h, last), bd, ps, f, z) := by
  refine lp_a1 C0 dL_law_459 ?_
  refine lp_a0 C0 dL_law_460 ?_
  refine lp_i3 C0 dL_law_461 ?_
  refine lp_ic (v := nI 1) C0 dL_law_462 (by decide +kernel) ?_
  refine lp_iadd (v := nI (i + 1)) C0 dL_law_463 (nI_add i 1) ?_
  refine lp_sld (j := i + 1) C0 hL (by omega) dL_law_464 ?_
  refine lp_callC (as := [.int (xs (i + 1))]) (Q' := fun I J => AQ (aWins w h last bd (xs (i + 1))) ((t, (w, h, last), bd, ps, f, z))) (v := .int (aWins w h last bd (xs (i + 1)))) (s1' := (t, (w, h, last), bd, ps, f, z)) C0 dL_law_465 (tb_in 631 (by decide +kernel)) m_X5_wins rfl rfl (fun _ _ => rfl) (fun _ _ => rfl) rfl (Nat.le_of_ble_eq_true rfl) (fun I J hR => sp_X5_wins (d := 4) (show RepC t w h last bd ps f z I J from hR)) (fun _ _ _ _ _ _ q => aq_d q) ?_
  refine lp_a2 C0 dL_law_468 ?_
  refine lp_a0 C0 dL_law_469 ?_
  refine lp_i3 C0 dL_law_470 ?_
  refine lp_ic (v := nI 1) C0 dL_law_471 (by decide +kernel) ?_
  refine lp_iadd (v := nI (i + 1)) C0 dL_law_472 (nI_add i 1) ?_
  refine lp_sld (j := i + 1) C0 hL (by omega) dL_law_473 ?_
  refine lp_callM (as := [.int (xs (i + 1))]) (Q' := fun I J => AM (aWins w h last bd (xs (i + 1))) ((t, (w, h, last), bd, ps, f, z))) (v := .int (aWins w h last bd (xs (i + 1)))) (s1' := (t, (w, h, last), bd, ps, f, z)) C0 dL_law_474 (tb_in 980 (by decide +kernel)) m_X6_wins rfl rfl (fun _ _ => rfl) (fun _ _ => rfl) rfl (Nat.le_of_ble_eq_true rfl) (fun I J hR => by
    have hM : RepM t w h last bd ps f z I J := hR
    have hc := sp_X6_wins (d := 1) (x := (xs (i + 1))) hM
    rw [aWins_eq (RepM_16 hM).2 hM.2.2.2.1.2 hM.1] at hc
    exact hc) (fun _ _ _ _ _ _ q => am_d q) ?_
  exact lp_eq (tgt := 861) C0 dL_law_477 (by decide) (h0 _ (tk))
end LCA1
