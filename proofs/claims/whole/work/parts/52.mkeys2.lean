/-! THE REFERENCE'S CALLS, 9: layKeys, wins, keys, keyAt -/
theorem inL_sub {y : Int32} {n : Nat} (hn : n < 1000) : inL y.toInt64 (lN 0) (nI n - nI 1).toInt64 = inB y n := by
  unfold inL inB
  refine decide_eq_decide.mpr ?_
  have h0 : (0 : Int32).toInt = 0 := rfl
  have h1 : nI n - nI 1 = zI ((n : Int) - 1) := zI_sub n 1
  rw [Int64.le_iff_toInt_le, Int64.le_iff_toInt_le, Int32.toInt_toInt64, Int32.toInt_toInt64, h1, zI_ti (by omega) (by omega), pk_lT (by omega), Int32.lt_iff_toInt_lt, Int32.lt_iff_toInt_lt, nI_ti hn, h0]
  omega
theorem encM_lt {x : Nat} (hx : x = 256 ∨ x < 256) : encM x < 1000 := by unfold encM; split <;> omega
section MK2
variable {d : Nat} {I : MemI} {J : MemJ} {t : List Nat} {w h last : Nat} {b : Bd} {ps : List Bd} {f : Nat → Option Bd} {z : Int64}
set_option maxHeartbeats 16000000 in
theorem sp_X6_layKeys {n : Nat} (hR : RepM t w h last b ps f z I J) (hl : b.2.2.2 = 2) (hn : n < 100) : CALL ΩM (d + 10) kX6_layKeys [.ref 0, .int (nI n)] I J (IQ (fun x I' J' => x = nI (keyLM w h last b n).length ∧ FI scrM I I' ∧ (∀ j, j < (keyLM w h last b n).length → I' 9 j = nI (encM ((keyLM w h last b n).getD j 0))) ∧ J' = J)) := by
  have hB := hR.2.2.2.1.2
  have hl9 := hR.1
  have hlen := PLY_len (w := w) (h := h) hB.2.2.2.1
  have loop : ∀ m j (I2 : MemI), m + j = (PLY w h b).length → FI scrM I I2 → (∀ j, j < (PLY w h b).length → I2 6 j = nI (encM ((PLY w h b).getD j 0))) → (∀ i, i < (((PLY w h b).take j).filter (kyP w h last n b)).length → I2 9 i = nI (encM ((((PLY w h b).take j).filter (kyP w h last n b)).getD i 0))) → WP ΩM (d + 10) kX6_layKeys 11 [(0, .ref 0), (1, .int (nI n)), (2, .int (nI (((PLY w h b).take j).filter (kyP w h last n b)).length)), (3, .int (nI (PLY w h b).length)), (4, .int (nI j))] [] I2 J (IQ (fun x I' J' => x = nI (keyLM w h last b n).length ∧ FI scrM I I' ∧ (∀ j, j < (keyLM w h last b n).length → I' 9 j = nI (encM ((keyLM w h last b n).getD j 0))) ∧ J' = J)) := by
    intro m
    induction m with
    | zero =>
      intro j I2 hj hfr h6 h9
      have hj' : j = (PLY w h b).length := (Nat.zero_add j).symm.trans hj
      rw [hj', List.take_length] at h9
      rw [hj', List.take_length]
      refine wp_iload (pc := 11) dX6_layKeys_11 rfl ?_
      refine wp_iload_n (pc := 13) (i := 3) dX6_layKeys_13 rfl rfl ?_
      first | (refine wp_icmp_geN (pc := 14) (tgt := 49) dX6_layKeys_14 (by decide) (by first | with_reducible assumption | omega) (by first | with_reducible assumption | omega) (fun c_14 => ?_) (fun c_14 => ?_)) | (refine wp_icmp_ge (pc := 14) (tgt := 49) dX6_layKeys_14 (by decide) (fun c_14 => ?_) (fun c_14 => ?_))
      · refine wp_iload_n (pc := 49) (i := 2) dX6_layKeys_49 rfl rfl ?_
        refine wp_ireturn (pc := 50) dX6_layKeys_50 rfl ?_
        exact iq_i ⟨rfl, hfr, h9, rfl⟩
      · exact absurd (Nat.le_refl _) c_14
    | succ m ih =>
      intro j I2 hj hfr h6 h9
      have hjl : j < (PLY w h b).length := by omega
      have hR2 := RepM_fr hR hfr
      have hok := PLY_ok hB (PLY_get hjl)
      have h6j := h6 j hjl
      have hft := flt_take (P := kyP w h last n b) hjl
      have hle := flt_tl (l := PLY w h b) (P := kyP w h last n b) (j := j)
      have h0 := fun I4 => ih (j + 1) I4 (by omega)
      rw [hft] at h0
      clear ih hft
      generalize ((PLY w h b).take j).filter (kyP w h last n b) = K at h0 h9 hle ⊢
      generalize (PLY w h b).getD j 0 = x at *
      have hik := sp_X6_isKey (d := d) (j := j) (n := n) (J := J) hl9 ⟨hR2.2.2.1.1, hR2.2.2.1.2, hR2.2.2.2.1.1⟩ hB hl hok (by omega) h6j hn
      cases hv : kyP w h last n b x
      · rw [hv, if_neg Bool.false_ne_true, List.append_nil] at h0
        rw [hv] at hik
        refine wp_iload (pc := 11) dX6_layKeys_11 rfl ?_
        refine wp_iload_n (pc := 13) (i := 3) dX6_layKeys_13 rfl rfl ?_
        first | (refine wp_icmp_geN (pc := 14) (tgt := 49) dX6_layKeys_14 (by decide) (by first | with_reducible assumption | omega) (by first | with_reducible assumption | omega) (fun c_14 => ?_) (fun c_14 => ?_)) | (refine wp_icmp_ge (pc := 14) (tgt := 49) dX6_layKeys_14 (by decide) (fun c_14 => ?_) (fun c_14 => ?_))
        · exact absurd c_14 (by omega)
        · refine wp_aload_n (pc := 17) (i := 0) dX6_layKeys_17 rfl rfl (by first | with_reducible assumption | rfl) ?_
          refine wp_iload (pc := 18) dX6_layKeys_18 rfl ?_
          refine wp_iload_n (pc := 20) (i := 1) dX6_layKeys_20 rfl rfl ?_
          refine wp_cVI2 (pc := 21) (ci := 6) dX6_layKeys_21 lm_X6_157 m_X6_isKey (by first | with_reducible assumption | rfl) (by first | with_reducible assumption | rfl) (by decide) rfl (Nat.le_of_ble_eq_true rfl) hik (fun x_21 I_21 J_21 h_21 => ?_)
          obtain ⟨rfl, g1, g2, rfl⟩ := h_21
          refine wp_if_eqB (pc := 24) (tgt := 43) dX6_layKeys_24 (by decide) (fun c_24 => ?_) (fun c_24 => ?_)
          · first | (refine wp_iincN (pc := 43) (m := 1) dX6_layKeys_43 rfl rfl (by decide) ?_) | (refine wp_iinc (pc := 43) dX6_layKeys_43 rfl rfl (by decide) ?_)
            refine wp_goto (pc := 46) (tgt := 11) dX6_layKeys_46 (by decide) ?_
            exact h0 _ (hfr.trans (g1.mono (fun _ _ y => frW_M y))) (fun i hi => (g2 i (by omega)).trans (h6 i hi)) (fun i hi => (g1 9 i (by unfold frW; omega)).trans (h9 i hi))
          · exact Bool.noConfusion c_24
      · rw [hv, if_pos rfl] at h0
        rw [hv] at hik
        refine wp_iload (pc := 11) dX6_layKeys_11 rfl ?_
        refine wp_iload_n (pc := 13) (i := 3) dX6_layKeys_13 rfl rfl ?_
        first | (refine wp_icmp_geN (pc := 14) (tgt := 49) dX6_layKeys_14 (by decide) (by first | with_reducible assumption | omega) (by first | with_reducible assumption | omega) (fun c_14 => ?_) (fun c_14 => ?_)) | (refine wp_icmp_ge (pc := 14) (tgt := 49) dX6_layKeys_14 (by decide) (fun c_14 => ?_) (fun c_14 => ?_))
        · exact absurd c_14 (by omega)
        · refine wp_aload_n (pc := 17) (i := 0) dX6_layKeys_17 rfl rfl (by first | with_reducible assumption | rfl) ?_
          refine wp_iload (pc := 18) dX6_layKeys_18 rfl ?_
          refine wp_iload_n (pc := 20) (i := 1) dX6_layKeys_20 rfl rfl ?_
          refine wp_cVI2 (pc := 21) (ci := 6) dX6_layKeys_21 lm_X6_157 m_X6_isKey (by first | with_reducible assumption | rfl) (by first | with_reducible assumption | rfl) (by decide) rfl (Nat.le_of_ble_eq_true rfl) hik (fun x_21 I_21 J_21 h_21 => ?_)
          obtain ⟨rfl, g1, g2, rfl⟩ := h_21
          have h6k : I_21 6 j = nI (encM x) := (g2 j (by omega)).trans h6j
          refine wp_if_eqB (pc := 24) (tgt := 43) dX6_layKeys_24 (by decide) (fun c_24 => ?_) (fun c_24 => ?_)
          · exact Bool.noConfusion c_24
          · refine wp_aload_n (pc := 27) (i := 0) dX6_layKeys_27 rfl rfl (by first | with_reducible assumption | rfl) ?_
            refine wp_getR (pc := 28) dX6_layKeys_28 lf_X6_34 (by first | with_reducible assumption | rfl) (by first | with_reducible assumption | rfl) rfl (by first | with_reducible assumption | rfl) (by first | with_reducible assumption | rfl) ?_
            refine wp_iload_n (pc := 31) (i := 2) dX6_layKeys_31 rfl rfl ?_
            refine wp_aload_n (pc := 32) (i := 0) dX6_layKeys_32 rfl rfl (by first | with_reducible assumption | rfl) ?_
            refine wp_getR (pc := 33) dX6_layKeys_33 lf_X6_25 (by first | with_reducible assumption | rfl) (by first | with_reducible assumption | rfl) rfl (by first | with_reducible assumption | rfl) (by first | with_reducible assumption | rfl) ?_
            refine wp_iload (pc := 36) dX6_layKeys_36 rfl ?_
            refine wp_iald (pc := 38) dX6_layKeys_38 (by first | with_reducible assumption | rfl) (by first | with_reducible assumption | rfl) (by first | with_reducible assumption | omega) (by first | decide | omega) ?_
            rw [h6k]
            refine wp_iast (pc := 39) dX6_layKeys_39 (by first | with_reducible assumption | rfl) (by first | with_reducible assumption | rfl) (by first | with_reducible assumption | omega) (by first | decide | omega) ?_
            first | (refine wp_iincN (pc := 40) (m := 1) dX6_layKeys_40 rfl rfl (by decide) ?_) | (refine wp_iinc (pc := 40) dX6_layKeys_40 rfl rfl (by decide) ?_)
            first | (refine wp_iincN (pc := 43) (m := 1) dX6_layKeys_43 rfl rfl (by decide) ?_) | (refine wp_iinc (pc := 43) dX6_layKeys_43 rfl rfl (by decide) ?_)
            refine wp_goto (pc := 46) (tgt := 11) dX6_layKeys_46 (by decide) ?_
            have hs : FI scrM I_21 (uI I_21 9 K.length (nI (encM x))) := fun a i y => by
              show (if a = 9 ∧ i = K.length then _ else I_21 a i) = I_21 a i
              rw [if_neg (fun q => y (Or.inr (Or.inr (Or.inr (Or.inr (Or.inl q.1))))))]
            have h1 := h0 _ ((hfr.trans (g1.mono (fun _ _ y => frW_M y))).trans hs) (fun i hi => (g2 i (by omega)).trans (h6 i hi)) (fun i hi => by
              rw [List.length_append, List.length_singleton] at hi
              show (if 9 = 9 ∧ i = K.length then _ else I_21 9 i) = _
              by_cases e : i = K.length
              · rw [if_pos ⟨rfl, e⟩, e, List.getD_eq_getElem?_getD, List.getElem?_append_right (Nat.le_refl _), Nat.sub_self]; rfl
              · rw [if_neg (fun y => e y.2), g1 9 i (by unfold frW; omega), h9 i (by omega), List.getD_eq_getElem?_getD, List.getD_eq_getElem?_getD, List.getElem?_append_left (by omega)])
            rw [List.length_append, List.length_singleton] at h1
            exact h1
  have hli := sp_X6_list (d := d + 3) (J := J) hR.2.2.1.1 hR.2.2.2.1.1 hB (show 0 < 4 by omega)
  refine call_of_wp (by decide) (Nat.le_of_ble_eq_true rfl) ?_
  refine wp_iconst (pc := 0) (v := nI 0) dX6_layKeys_0 (by decide +kernel) ?_
  refine wp_istore_n (pc := 1) (i := 2) dX6_layKeys_1 rfl (by decide) ?_
  refine wp_aload_n (pc := 2) (i := 0) dX6_layKeys_2 rfl rfl (by first | with_reducible assumption | rfl) ?_
  refine wp_iconst (pc := 3) (v := nI 0) dX6_layKeys_3 (by decide +kernel) ?_
  refine wp_cVI1 (pc := 4) (ci := 6) dX6_layKeys_4 lm_X6_130 m_X6_list (by first | with_reducible assumption | rfl) (by first | with_reducible assumption | rfl) (by decide) rfl (Nat.le_of_ble_eq_true rfl) hli (fun x_4 I_4 J_4 h_4 => ?_)
  obtain ⟨rfl, q1, q2, rfl⟩ := h_4
  refine wp_istore_n (pc := 7) (i := 3) dX6_layKeys_7 rfl (by decide) ?_
  refine wp_iconst (pc := 8) (v := nI 0) dX6_layKeys_8 (by decide +kernel) ?_
  refine wp_istore (pc := 9) dX6_layKeys_9 (by decide) ?_
  exact loop (PLY w h b).length 0 _ rfl (LsT_fr q1) (fun j hj => by
    have := q1.1 j hj
    rwa [Nat.mul_zero, Nat.zero_add] at this) (fun i hi => absurd hi (Nat.not_lt_zero i))
theorem keyLM_len {n : Nat} (ho : b.2.2.1 < 2) : (keyLM w h last b n).length ≤ 64 := Nat.le_trans (List.length_filter_le _ _) (PLY_len ho)
theorem refA_in {x : Int32} (h1 : ¬ (x < nI 1 ∨ nI 4 < x)) {l : Nat} : refA l x = if l = 2 then -9 else -3 := by unfold refA; rw [if_neg h1]
set_option maxHeartbeats 16000000 in
theorem sp_X6_wins {x : Int32} (hR : RepM t w h last b ps f z I J) : CALL ΩM (d + 11) kX6_wins [.ref 0, .int x] I J (AM (aWinsM w h last b x) (t, (w, h, last), b, ps, f, z)) := by
  have hB := hR.2.2.2.1.2
  have hl3 := hB.2.2.2.2.1
  have f4 := hR.2.2.2.1.1.2.2
  have hi4 : inL x.toInt64 (lN 1) (lN 4) = decide (¬ (x < nI 1 ∨ nI 4 < x)) := inL_rng (by decide) (by decide)
  by_cases hx : x < nI 1 ∨ nI 4 < x
  · have e0 : refA b.2.2.2 x = -2 := if_pos hx
    have e : aWinsM w h last b x = -2 := by unfold aWinsM; rw [e0, if_neg (by decide)]
    rw [decide_eq_false (fun k => k hx)] at hi4
    rw [e]
    refine call_of_wp (by decide) (Nat.le_of_ble_eq_true rfl) ?_
    refine wp_iload_n (pc := 0) (i := 1) dX6_wins_0 rfl rfl ?_
    refine wp_i2l (pc := 1) dX6_wins_1 ?_
    refine wp_lconst (pc := 2) (v := lN 1) dX6_wins_2 (by decide +kernel) ?_
    refine wp_ldc2_w (pc := 3) (v := lN 4) dX6_wins_3 kl_X6_160 ?_
    refine wp_cSP3 (pc := 6) dX6_wins_6 lm_X6_56 m_X6_in (Nat.le_of_ble_eq_true rfl) sp_X6_in ?_
    rw [hi4]
    refine wp_if_neB (pc := 9) (tgt := 15) dX6_wins_9 (by decide) (fun c_9 => ?_) (fun c_9 => ?_)
    · exact Bool.noConfusion c_9
    · refine wp_bipush (pc := 12) (v := (-2)) dX6_wins_12 (by decide +kernel) ?_
      refine wp_ireturn (pc := 14) dX6_wins_14 rfl ?_
      exact am_i rfl hR
  · have e0 := refA_in hx (l := b.2.2.2)
    obtain ⟨n, n1, n4, rfl⟩ := rngI (by omega) (by omega) hx
    have hin : inL (lN n) (lN 1) (lN 4) = true := by rw [inL_nn (by omega) (by omega) (by omega)]; exact decide_eq_true ⟨n1, n4⟩
    by_cases hl : b.2.2.2 = 2
    · rw [if_pos hl] at e0
      have e : aWinsM w h last b (nI n) = bI (decide (0 < (keyLM w h last b n).length)) := by unfold aWinsM; rw [if_pos e0, cI_n (by omega)]
      have f49 : I 4 0 = -9 := by rw [f4, hl]; rfl
      have hlk := sp_X6_layKeys (d := d) hR hl (show n < 100 by omega)
      have hkl := keyLM_len (w := w) (h := h) (last := last) (b := b) (n := n) hB.2.2.2.1
      rw [e]
      refine call_of_wp (by decide) (Nat.le_of_ble_eq_true rfl) ?_
      refine wp_iload_n (pc := 0) (i := 1) dX6_wins_0 rfl rfl ?_
      first | (refine wp_i2lN (pc := 1) dX6_wins_1 (by first | with_reducible assumption | omega) ?_) | (refine wp_i2l (pc := 1) dX6_wins_1 ?_)
      refine wp_lconst (pc := 2) (v := lN 1) dX6_wins_2 (by decide +kernel) ?_
      refine wp_ldc2_w (pc := 3) (v := lN 4) dX6_wins_3 kl_X6_160 ?_
      refine wp_cSP3 (pc := 6) dX6_wins_6 lm_X6_56 m_X6_in (Nat.le_of_ble_eq_true rfl) sp_X6_in ?_
      rw [hin]
      refine wp_if_neB (pc := 9) (tgt := 15) dX6_wins_9 (by decide) (fun c_9 => ?_) (fun c_9 => ?_)
      · refine wp_aload_n (pc := 15) (i := 0) dX6_wins_15 rfl rfl (by first | with_reducible assumption | rfl) ?_
        refine wp_getR (pc := 16) dX6_wins_16 lf_X6_19 (by first | with_reducible assumption | rfl) (by first | with_reducible assumption | rfl) rfl (by first | with_reducible assumption | rfl) (by first | with_reducible assumption | rfl) ?_
        refine wp_iconst (pc := 19) (v := nI 0) dX6_wins_19 (by decide +kernel) ?_
        refine wp_iald (pc := 20) dX6_wins_20 (by first | with_reducible assumption | rfl) (by first | with_reducible assumption | rfl) (by first | with_reducible assumption | omega) (by first | decide | omega) ?_
        rw [f49]
        refine wp_bipush (pc := 21) (v := (-9)) dX6_wins_21 (by decide +kernel) ?_
        refine wp_icmp_eq (pc := 23) (tgt := 31) dX6_wins_23 (by decide) (fun c_23 => ?_) (fun c_23 => ?_)
        · refine wp_aload_n (pc := 31) (i := 0) dX6_wins_31 rfl rfl (by first | with_reducible assumption | rfl) ?_
          refine wp_iload_n (pc := 32) (i := 1) dX6_wins_32 rfl rfl ?_
          refine wp_cVI1 (pc := 33) (ci := 6) dX6_wins_33 lm_X6_162 m_X6_layKeys (by first | with_reducible assumption | rfl) (by first | with_reducible assumption | rfl) (by decide) rfl (Nat.le_of_ble_eq_true rfl) hlk (fun x_33 I_33 J_33 h_33 => ?_)
          obtain ⟨rfl, g1, g2, rfl⟩ := h_33
          first | (refine wp_if_leN (pc := 36) (tgt := 43) dX6_wins_36 (by decide) (by first | with_reducible assumption | omega) (fun c_36 => ?_) (fun c_36 => ?_)) | (refine wp_if_le (pc := 36) (tgt := 43) dX6_wins_36 (by decide) (fun c_36 => ?_) (fun c_36 => ?_))
          · refine wp_iconst (pc := 43) (v := nI 0) dX6_wins_43 (by decide +kernel) ?_
            refine wp_ireturn (pc := 44) dX6_wins_44 rfl ?_
            first | (have g : (keyLM w h last b n).length = 0 := c_36; exact am_i (dI_f (by omega)).symm (RepM_fr hR g1)) | (have g : 0 < (keyLM w h last b n).length := c_36; exact am_i (dI_t g).symm (RepM_fr hR g1))
          · refine wp_iconst (pc := 39) (v := nI 1) dX6_wins_39 (by decide +kernel) ?_
            refine wp_goto (pc := 40) (tgt := 44) dX6_wins_40 (by decide) ?_
            refine wp_ireturn (pc := 44) dX6_wins_44 rfl ?_
            first | (have g : (keyLM w h last b n).length = 0 := c_36; exact am_i (dI_f (by omega)).symm (RepM_fr hR g1)) | (have g : 0 < (keyLM w h last b n).length := c_36; exact am_i (dI_t g).symm (RepM_fr hR g1))
        · exact absurd rfl c_23
      · exact Bool.noConfusion c_9
    · rw [if_neg hl] at e0
      have e : aWinsM w h last b (nI n) = -3 := by unfold aWinsM; rw [e0, if_neg (by decide)]
      have hne := lsI_ne hl hl3
      rw [e]
      refine call_of_wp (by decide) (Nat.le_of_ble_eq_true rfl) ?_
      refine wp_iload_n (pc := 0) (i := 1) dX6_wins_0 rfl rfl ?_
      first | (refine wp_i2lN (pc := 1) dX6_wins_1 (by first | with_reducible assumption | omega) ?_) | (refine wp_i2l (pc := 1) dX6_wins_1 ?_)
      refine wp_lconst (pc := 2) (v := lN 1) dX6_wins_2 (by decide +kernel) ?_
      refine wp_ldc2_w (pc := 3) (v := lN 4) dX6_wins_3 kl_X6_160 ?_
      refine wp_cSP3 (pc := 6) dX6_wins_6 lm_X6_56 m_X6_in (Nat.le_of_ble_eq_true rfl) sp_X6_in ?_
      rw [hin]
      refine wp_if_neB (pc := 9) (tgt := 15) dX6_wins_9 (by decide) (fun c_9 => ?_) (fun c_9 => ?_)
      · refine wp_aload_n (pc := 15) (i := 0) dX6_wins_15 rfl rfl (by first | with_reducible assumption | rfl) ?_
        refine wp_getR (pc := 16) dX6_wins_16 lf_X6_19 (by first | with_reducible assumption | rfl) (by first | with_reducible assumption | rfl) rfl (by first | with_reducible assumption | rfl) (by first | with_reducible assumption | rfl) ?_
        refine wp_iconst (pc := 19) (v := nI 0) dX6_wins_19 (by decide +kernel) ?_
        refine wp_iald (pc := 20) dX6_wins_20 (by first | with_reducible assumption | rfl) (by first | with_reducible assumption | rfl) (by first | with_reducible assumption | omega) (by first | decide | omega) ?_
        rw [f4]
        refine wp_bipush (pc := 21) (v := (-9)) dX6_wins_21 (by decide +kernel) ?_
        refine wp_icmp_eq (pc := 23) (tgt := 31) dX6_wins_23 (by decide) (fun c_23 => ?_) (fun c_23 => ?_)
        · exact absurd c_23 hne
        · refine wp_bipush (pc := 26) (v := (-3)) dX6_wins_26 (by decide +kernel) ?_
          refine wp_goto (pc := 28) (tgt := 44) dX6_wins_28 (by decide) ?_
          refine wp_ireturn (pc := 44) dX6_wins_44 rfl ?_
          exact am_i rfl hR
      · exact Bool.noConfusion c_9
set_option maxHeartbeats 16000000 in
theorem sp_X6_keys {x : Int32} (hR : RepM t w h last b ps f z I J) : CALL ΩM (d + 11) kX6_keys [.ref 0, .int x] I J (AM (aKeysM w h last b x) (t, (w, h, last), b, ps, f, z)) := by
  have hB := hR.2.2.2.1.2
  have hl3 := hB.2.2.2.2.1
  have f4 := hR.2.2.2.1.1.2.2
  have hi4 : inL x.toInt64 (lN 1) (lN 4) = decide (¬ (x < nI 1 ∨ nI 4 < x)) := inL_rng (by decide) (by decide)
  by_cases hx : x < nI 1 ∨ nI 4 < x
  · have e0 : refA b.2.2.2 x = -2 := if_pos hx
    have e : aKeysM w h last b x = -2 := by unfold aKeysM; rw [e0, if_neg (by decide)]
    rw [decide_eq_false (fun k => k hx)] at hi4
    rw [e]
    refine call_of_wp (by decide) (Nat.le_of_ble_eq_true rfl) ?_
    refine wp_iload_n (pc := 0) (i := 1) dX6_keys_0 rfl rfl ?_
    refine wp_i2l (pc := 1) dX6_keys_1 ?_
    refine wp_lconst (pc := 2) (v := lN 1) dX6_keys_2 (by decide +kernel) ?_
    refine wp_ldc2_w (pc := 3) (v := lN 4) dX6_keys_3 kl_X6_160 ?_
    refine wp_cSP3 (pc := 6) dX6_keys_6 lm_X6_56 m_X6_in (Nat.le_of_ble_eq_true rfl) sp_X6_in ?_
    rw [hi4]
    refine wp_if_neB (pc := 9) (tgt := 15) dX6_keys_9 (by decide) (fun c_9 => ?_) (fun c_9 => ?_)
    · exact Bool.noConfusion c_9
    · refine wp_bipush (pc := 12) (v := (-2)) dX6_keys_12 (by decide +kernel) ?_
      refine wp_ireturn (pc := 14) dX6_keys_14 rfl ?_
      exact am_i rfl hR
  · have e0 := refA_in hx (l := b.2.2.2)
    obtain ⟨n, n1, n4, rfl⟩ := rngI (by omega) (by omega) hx
    have hin : inL (lN n) (lN 1) (lN 4) = true := by rw [inL_nn (by omega) (by omega) (by omega)]; exact decide_eq_true ⟨n1, n4⟩
    by_cases hl : b.2.2.2 = 2
    · rw [if_pos hl] at e0
      have e : aKeysM w h last b (nI n) = nI (keyLM w h last b n).length := by unfold aKeysM; rw [if_pos e0, cI_n (by omega)]
      have f49 : I 4 0 = -9 := by rw [f4, hl]; rfl
      have hlk := sp_X6_layKeys (d := d) hR hl (show n < 100 by omega)
      rw [e]
      refine call_of_wp (by decide) (Nat.le_of_ble_eq_true rfl) ?_
      refine wp_iload_n (pc := 0) (i := 1) dX6_keys_0 rfl rfl ?_
      first | (refine wp_i2lN (pc := 1) dX6_keys_1 (by first | with_reducible assumption | omega) ?_) | (refine wp_i2l (pc := 1) dX6_keys_1 ?_)
      refine wp_lconst (pc := 2) (v := lN 1) dX6_keys_2 (by decide +kernel) ?_
      refine wp_ldc2_w (pc := 3) (v := lN 4) dX6_keys_3 kl_X6_160 ?_
      refine wp_cSP3 (pc := 6) dX6_keys_6 lm_X6_56 m_X6_in (Nat.le_of_ble_eq_true rfl) sp_X6_in ?_
      rw [hin]
      refine wp_if_neB (pc := 9) (tgt := 15) dX6_keys_9 (by decide) (fun c_9 => ?_) (fun c_9 => ?_)
      · refine wp_aload_n (pc := 15) (i := 0) dX6_keys_15 rfl rfl (by first | with_reducible assumption | rfl) ?_
        refine wp_getR (pc := 16) dX6_keys_16 lf_X6_19 (by first | with_reducible assumption | rfl) (by first | with_reducible assumption | rfl) rfl (by first | with_reducible assumption | rfl) (by first | with_reducible assumption | rfl) ?_
        refine wp_iconst (pc := 19) (v := nI 0) dX6_keys_19 (by decide +kernel) ?_
        refine wp_iald (pc := 20) dX6_keys_20 (by first | with_reducible assumption | rfl) (by first | with_reducible assumption | rfl) (by first | with_reducible assumption | omega) (by first | decide | omega) ?_
        rw [f49]
        refine wp_bipush (pc := 21) (v := (-9)) dX6_keys_21 (by decide +kernel) ?_
        refine wp_icmp_eq (pc := 23) (tgt := 31) dX6_keys_23 (by decide) (fun c_23 => ?_) (fun c_23 => ?_)
        · refine wp_aload_n (pc := 31) (i := 0) dX6_keys_31 rfl rfl (by first | with_reducible assumption | rfl) ?_
          refine wp_iload_n (pc := 32) (i := 1) dX6_keys_32 rfl rfl ?_
          refine wp_cVI1 (pc := 33) (ci := 6) dX6_keys_33 lm_X6_162 m_X6_layKeys (by first | with_reducible assumption | rfl) (by first | with_reducible assumption | rfl) (by decide) rfl (Nat.le_of_ble_eq_true rfl) hlk (fun x_33 I_33 J_33 h_33 => ?_)
          obtain ⟨rfl, g1, g2, rfl⟩ := h_33
          refine wp_ireturn (pc := 36) dX6_keys_36 rfl ?_
          exact am_i rfl (RepM_fr hR g1)
        · exact absurd rfl c_23
      · exact Bool.noConfusion c_9
    · rw [if_neg hl] at e0
      have e : aKeysM w h last b (nI n) = -3 := by unfold aKeysM; rw [e0, if_neg (by decide)]
      have hne := lsI_ne hl hl3
      rw [e]
      refine call_of_wp (by decide) (Nat.le_of_ble_eq_true rfl) ?_
      refine wp_iload_n (pc := 0) (i := 1) dX6_keys_0 rfl rfl ?_
      first | (refine wp_i2lN (pc := 1) dX6_keys_1 (by first | with_reducible assumption | omega) ?_) | (refine wp_i2l (pc := 1) dX6_keys_1 ?_)
      refine wp_lconst (pc := 2) (v := lN 1) dX6_keys_2 (by decide +kernel) ?_
      refine wp_ldc2_w (pc := 3) (v := lN 4) dX6_keys_3 kl_X6_160 ?_
      refine wp_cSP3 (pc := 6) dX6_keys_6 lm_X6_56 m_X6_in (Nat.le_of_ble_eq_true rfl) sp_X6_in ?_
      rw [hin]
      refine wp_if_neB (pc := 9) (tgt := 15) dX6_keys_9 (by decide) (fun c_9 => ?_) (fun c_9 => ?_)
      · refine wp_aload_n (pc := 15) (i := 0) dX6_keys_15 rfl rfl (by first | with_reducible assumption | rfl) ?_
        refine wp_getR (pc := 16) dX6_keys_16 lf_X6_19 (by first | with_reducible assumption | rfl) (by first | with_reducible assumption | rfl) rfl (by first | with_reducible assumption | rfl) (by first | with_reducible assumption | rfl) ?_
        refine wp_iconst (pc := 19) (v := nI 0) dX6_keys_19 (by decide +kernel) ?_
        refine wp_iald (pc := 20) dX6_keys_20 (by first | with_reducible assumption | rfl) (by first | with_reducible assumption | rfl) (by first | with_reducible assumption | omega) (by first | decide | omega) ?_
        rw [f4]
        refine wp_bipush (pc := 21) (v := (-9)) dX6_keys_21 (by decide +kernel) ?_
        refine wp_icmp_eq (pc := 23) (tgt := 31) dX6_keys_23 (by decide) (fun c_23 => ?_) (fun c_23 => ?_)
        · exact absurd c_23 hne
        · refine wp_bipush (pc := 26) (v := (-3)) dX6_keys_26 (by decide +kernel) ?_
          refine wp_goto (pc := 28) (tgt := 36) dX6_keys_28 (by decide) ?_
          refine wp_ireturn (pc := 36) dX6_keys_36 rfl ?_
          exact am_i rfl hR
      · exact Bool.noConfusion c_9
set_option maxHeartbeats 16000000 in
theorem sp_X6_keyAt {x y : Int32} (hR : RepM t w h last b ps f z I J) : CALL ΩM (d + 11) kX6_keyAt [.ref 0, .int x, .int y] I J (AM (aKeyAtM w h last b x y) (t, (w, h, last), b, ps, f, z)) := by
  have hB := hR.2.2.2.1.2
  have hl3 := hB.2.2.2.2.1
  have f4 := hR.2.2.2.1.1.2.2
  have hi4 : inL x.toInt64 (lN 1) (lN 4) = decide (¬ (x < nI 1 ∨ nI 4 < x)) := inL_rng (by decide) (by decide)
  by_cases hx : x < nI 1 ∨ nI 4 < x
  · have e0 : refA b.2.2.2 x = -2 := if_pos hx
    have e : aKeyAtM w h last b x y = -2 := by unfold aKeyAtM; rw [e0, if_neg (by decide)]
    rw [decide_eq_false (fun k => k hx)] at hi4
    rw [e]
    refine call_of_wp (by decide) (Nat.le_of_ble_eq_true rfl) ?_
    refine wp_iload_n (pc := 0) (i := 1) dX6_keyAt_0 rfl rfl ?_
    refine wp_i2l (pc := 1) dX6_keyAt_1 ?_
    refine wp_lconst (pc := 2) (v := lN 1) dX6_keyAt_2 (by decide +kernel) ?_
    refine wp_ldc2_w (pc := 3) (v := lN 4) dX6_keyAt_3 kl_X6_160 ?_
    refine wp_cSP3 (pc := 6) dX6_keyAt_6 lm_X6_56 m_X6_in (Nat.le_of_ble_eq_true rfl) sp_X6_in ?_
    rw [hi4]
    refine wp_if_neB (pc := 9) (tgt := 15) dX6_keyAt_9 (by decide) (fun c_9 => ?_) (fun c_9 => ?_)
    · exact Bool.noConfusion c_9
    · refine wp_bipush (pc := 12) (v := (-2)) dX6_keyAt_12 (by decide +kernel) ?_
      refine wp_ireturn (pc := 14) dX6_keyAt_14 rfl ?_
      exact am_i rfl hR
  · have e0 := refA_in hx (l := b.2.2.2)
    obtain ⟨n, n1, n4, rfl⟩ := rngI (by omega) (by omega) hx
    have hin : inL (lN n) (lN 1) (lN 4) = true := by rw [inL_nn (by omega) (by omega) (by omega)]; exact decide_eq_true ⟨n1, n4⟩
    by_cases hl : b.2.2.2 = 2
    · rw [if_pos hl] at e0
      have f49 : I 4 0 = -9 := by rw [f4, hl]; rfl
      have hlk := sp_X6_layKeys (d := d) hR hl (show n < 100 by omega)
      have hkl := keyLM_len (w := w) (h := h) (last := last) (b := b) (n := n) hB.2.2.2.1
      have hmem : ∀ v, v ∈ keyLM w h last b n → v = 256 ∨ v < 256 := fun v hv => PLY_lt (List.mem_filter.mp hv).1
      have eA : aKeyAtM w h last b (nI n) y = if inB y (keyLM w h last b n).length = true then encC ((keyLM w h last b n).getD (cI y) 0) else -9 := by unfold aKeyAtM; rw [if_pos e0, cI_n (by omega)]
      generalize keyLM w h last b n = K at hlk hkl hmem eA
      have his := inL_sub (y := y) (n := K.length) (by omega)
      cases hy : inB y K.length
      · have e : aKeyAtM w h last b (nI n) y = -9 := by rw [eA, hy]; rfl
        rw [hy] at his
        rw [e]
        refine call_of_wp (by decide) (Nat.le_of_ble_eq_true rfl) ?_
        refine wp_iload_n (pc := 0) (i := 1) dX6_keyAt_0 rfl rfl ?_
        first | (refine wp_i2lN (pc := 1) dX6_keyAt_1 (by first | with_reducible assumption | omega) ?_) | (refine wp_i2l (pc := 1) dX6_keyAt_1 ?_)
        refine wp_lconst (pc := 2) (v := lN 1) dX6_keyAt_2 (by decide +kernel) ?_
        refine wp_ldc2_w (pc := 3) (v := lN 4) dX6_keyAt_3 kl_X6_160 ?_
        refine wp_cSP3 (pc := 6) dX6_keyAt_6 lm_X6_56 m_X6_in (Nat.le_of_ble_eq_true rfl) sp_X6_in ?_
        rw [hin]
        refine wp_if_neB (pc := 9) (tgt := 15) dX6_keyAt_9 (by decide) (fun c_9 => ?_) (fun c_9 => ?_)
        · refine wp_aload_n (pc := 15) (i := 0) dX6_keyAt_15 rfl rfl (by first | with_reducible assumption | rfl) ?_
          refine wp_getR (pc := 16) dX6_keyAt_16 lf_X6_19 (by first | with_reducible assumption | rfl) (by first | with_reducible assumption | rfl) rfl (by first | with_reducible assumption | rfl) (by first | with_reducible assumption | rfl) ?_
          refine wp_iconst (pc := 19) (v := nI 0) dX6_keyAt_19 (by decide +kernel) ?_
          refine wp_iald (pc := 20) dX6_keyAt_20 (by first | with_reducible assumption | rfl) (by first | with_reducible assumption | rfl) (by first | with_reducible assumption | omega) (by first | decide | omega) ?_
          rw [f49]
          refine wp_bipush (pc := 21) (v := (-9)) dX6_keyAt_21 (by decide +kernel) ?_
          refine wp_icmp_eq (pc := 23) (tgt := 29) dX6_keyAt_23 (by decide) (fun c_23 => ?_) (fun c_23 => ?_)
          · refine wp_aload_n (pc := 29) (i := 0) dX6_keyAt_29 rfl rfl (by first | with_reducible assumption | rfl) ?_
            refine wp_iload_n (pc := 30) (i := 1) dX6_keyAt_30 rfl rfl ?_
            refine wp_cVI1 (pc := 31) (ci := 6) dX6_keyAt_31 lm_X6_162 m_X6_layKeys (by first | with_reducible assumption | rfl) (by first | with_reducible assumption | rfl) (by decide) rfl (Nat.le_of_ble_eq_true rfl) hlk (fun x_31 I_31 J_31 h_31 => ?_)
            obtain ⟨rfl, g1, g2, rfl⟩ := h_31
            refine wp_istore_n (pc := 34) (i := 3) dX6_keyAt_34 rfl (by decide) ?_
            refine wp_iload_n (pc := 35) (i := 2) dX6_keyAt_35 rfl rfl ?_
            refine wp_i2l (pc := 36) dX6_keyAt_36 ?_
            refine wp_lconst (pc := 37) (v := lN 0) dX6_keyAt_37 (by decide +kernel) ?_
            refine wp_iload_n (pc := 38) (i := 3) dX6_keyAt_38 rfl rfl ?_
            refine wp_iconst (pc := 39) (v := nI 1) dX6_keyAt_39 (by decide +kernel) ?_
            refine wp_isub (pc := 40) dX6_keyAt_40 ?_
            refine wp_i2l (pc := 41) dX6_keyAt_41 ?_
            refine wp_cSP3 (pc := 42) dX6_keyAt_42 lm_X6_56 m_X6_in (Nat.le_of_ble_eq_true rfl) sp_X6_in ?_
            rw [his]
            refine wp_if_eqB (pc := 45) (tgt := 60) dX6_keyAt_45 (by decide) (fun c_45 => ?_) (fun c_45 => ?_)
            · refine wp_bipush (pc := 60) (v := (-9)) dX6_keyAt_60 (by decide +kernel) ?_
              refine wp_goto (pc := 62) (tgt := 87) dX6_keyAt_62 (by decide) ?_
              refine wp_ireturn (pc := 87) dX6_keyAt_87 rfl ?_
              exact am_i rfl (RepM_fr hR g1)
            · exact Bool.noConfusion c_45
          · exact absurd rfl c_23
        · exact Bool.noConfusion c_9
      · obtain ⟨c, hc, rfl⟩ := inB_t (by omega) hy
        have e : aKeyAtM w h last b (nI n) (nI c) = encC (K.getD c 0) := by rw [eA, hy, cI_n (by omega)]; rfl
        have hx2 := hmem _ (getD_mem hc)
        have hxl := encM_lt hx2
        have his2 : inL (lN c) (lN 0) (lN (K.length - 1)) = true := by rw [inL_nn (by omega) (by omega) (by omega)]; exact decide_eq_true ⟨Nat.zero_le _, by omega⟩
        rw [e]
        by_cases h256 : K.getD c 0 = 256
        · have e9 : encC (K.getD c 0) = -9 := by rw [h256]; rfl
          have eM : encM (K.getD c 0) = 999 := by rw [h256]; rfl
          rw [e9]
          refine call_of_wp (by decide) (Nat.le_of_ble_eq_true rfl) ?_
          refine wp_iload_n (pc := 0) (i := 1) dX6_keyAt_0 rfl rfl ?_
          first | (refine wp_i2lN (pc := 1) dX6_keyAt_1 (by first | with_reducible assumption | omega) ?_) | (refine wp_i2l (pc := 1) dX6_keyAt_1 ?_)
          refine wp_lconst (pc := 2) (v := lN 1) dX6_keyAt_2 (by decide +kernel) ?_
          refine wp_ldc2_w (pc := 3) (v := lN 4) dX6_keyAt_3 kl_X6_160 ?_
          refine wp_cSP3 (pc := 6) dX6_keyAt_6 lm_X6_56 m_X6_in (Nat.le_of_ble_eq_true rfl) sp_X6_in ?_
          rw [hin]
          refine wp_if_neB (pc := 9) (tgt := 15) dX6_keyAt_9 (by decide) (fun c_9 => ?_) (fun c_9 => ?_)
          · refine wp_aload_n (pc := 15) (i := 0) dX6_keyAt_15 rfl rfl (by first | with_reducible assumption | rfl) ?_
            refine wp_getR (pc := 16) dX6_keyAt_16 lf_X6_19 (by first | with_reducible assumption | rfl) (by first | with_reducible assumption | rfl) rfl (by first | with_reducible assumption | rfl) (by first | with_reducible assumption | rfl) ?_
            refine wp_iconst (pc := 19) (v := nI 0) dX6_keyAt_19 (by decide +kernel) ?_
            refine wp_iald (pc := 20) dX6_keyAt_20 (by first | with_reducible assumption | rfl) (by first | with_reducible assumption | rfl) (by first | with_reducible assumption | omega) (by first | decide | omega) ?_
            rw [f49]
            refine wp_bipush (pc := 21) (v := (-9)) dX6_keyAt_21 (by decide +kernel) ?_
            refine wp_icmp_eq (pc := 23) (tgt := 29) dX6_keyAt_23 (by decide) (fun c_23 => ?_) (fun c_23 => ?_)
            · refine wp_aload_n (pc := 29) (i := 0) dX6_keyAt_29 rfl rfl (by first | with_reducible assumption | rfl) ?_
              refine wp_iload_n (pc := 30) (i := 1) dX6_keyAt_30 rfl rfl ?_
              refine wp_cVI1 (pc := 31) (ci := 6) dX6_keyAt_31 lm_X6_162 m_X6_layKeys (by first | with_reducible assumption | rfl) (by first | with_reducible assumption | rfl) (by decide) rfl (Nat.le_of_ble_eq_true rfl) hlk (fun x_31 I_31 J_31 h_31 => ?_)
              obtain ⟨rfl, g1, g2, rfl⟩ := h_31
              have g3 := g2 c hc
              rw [eM] at g3
              refine wp_istore_n (pc := 34) (i := 3) dX6_keyAt_34 rfl (by decide) ?_
              refine wp_iload_n (pc := 35) (i := 2) dX6_keyAt_35 rfl rfl ?_
              first | (refine wp_i2lN (pc := 36) dX6_keyAt_36 (by first | with_reducible assumption | omega) ?_) | (refine wp_i2l (pc := 36) dX6_keyAt_36 ?_)
              refine wp_lconst (pc := 37) (v := lN 0) dX6_keyAt_37 (by decide +kernel) ?_
              refine wp_iload_n (pc := 38) (i := 3) dX6_keyAt_38 rfl rfl ?_
              refine wp_iconst (pc := 39) (v := nI 1) dX6_keyAt_39 (by decide +kernel) ?_
              first | (refine wp_isubN (pc := 40) dX6_keyAt_40 (by first | with_reducible assumption | omega) ?_) | (refine wp_isub (pc := 40) dX6_keyAt_40 ?_)
              first | (refine wp_i2lN (pc := 41) dX6_keyAt_41 (by first | with_reducible assumption | omega) ?_) | (refine wp_i2l (pc := 41) dX6_keyAt_41 ?_)
              refine wp_cSP3 (pc := 42) dX6_keyAt_42 lm_X6_56 m_X6_in (Nat.le_of_ble_eq_true rfl) sp_X6_in ?_
              rw [his2]
              refine wp_if_eqB (pc := 45) (tgt := 60) dX6_keyAt_45 (by decide) (fun c_45 => ?_) (fun c_45 => ?_)
              · exact Bool.noConfusion c_45
              · refine wp_aload_n (pc := 48) (i := 0) dX6_keyAt_48 rfl rfl (by first | with_reducible assumption | rfl) ?_
                refine wp_getR (pc := 49) dX6_keyAt_49 lf_X6_34 (by first | with_reducible assumption | rfl) (by first | with_reducible assumption | rfl) rfl (by first | with_reducible assumption | rfl) (by first | with_reducible assumption | rfl) ?_
                refine wp_iload_n (pc := 52) (i := 2) dX6_keyAt_52 rfl rfl ?_
                refine wp_iald (pc := 53) dX6_keyAt_53 (by first | with_reducible assumption | rfl) (by first | with_reducible assumption | rfl) (by first | with_reducible assumption | omega) (by first | decide | omega) ?_
                rw [g3]
                refine wp_sipush (pc := 54) (v := nI 999) dX6_keyAt_54 (by decide +kernel) ?_
                first | (refine wp_icmp_neN (pc := 57) (tgt := 65) dX6_keyAt_57 (by decide) (by first | with_reducible assumption | omega) (by first | with_reducible assumption | omega) (fun c_57 => ?_) (fun c_57 => ?_)) | (refine wp_icmp_ne (pc := 57) (tgt := 65) dX6_keyAt_57 (by decide) (fun c_57 => ?_) (fun c_57 => ?_))
                · exact absurd rfl c_57
                · refine wp_bipush (pc := 60) (v := (-9)) dX6_keyAt_60 (by decide +kernel) ?_
                  refine wp_goto (pc := 62) (tgt := 87) dX6_keyAt_62 (by decide) ?_
                  refine wp_ireturn (pc := 87) dX6_keyAt_87 rfl ?_
                  exact am_i rfl (RepM_fr hR g1)
            · exact absurd rfl c_23
          · exact Bool.noConfusion c_9
        · have hx3 : K.getD c 0 < 256 := hx2.resolve_left h256
          have eM : encM (K.getD c 0) = K.getD c 0 := if_neg h256
          have eC : encC (K.getD c 0) = nI (100 * (K.getD c 0 / 16) + K.getD c 0 % 16) := by rw [enc_ne hx3, Nat.mul_comm]
          rw [eC]
          refine call_of_wp (by decide) (Nat.le_of_ble_eq_true rfl) ?_
          refine wp_iload_n (pc := 0) (i := 1) dX6_keyAt_0 rfl rfl ?_
          first | (refine wp_i2lN (pc := 1) dX6_keyAt_1 (by first | with_reducible assumption | omega) ?_) | (refine wp_i2l (pc := 1) dX6_keyAt_1 ?_)
          refine wp_lconst (pc := 2) (v := lN 1) dX6_keyAt_2 (by decide +kernel) ?_
          refine wp_ldc2_w (pc := 3) (v := lN 4) dX6_keyAt_3 kl_X6_160 ?_
          refine wp_cSP3 (pc := 6) dX6_keyAt_6 lm_X6_56 m_X6_in (Nat.le_of_ble_eq_true rfl) sp_X6_in ?_
          rw [hin]
          refine wp_if_neB (pc := 9) (tgt := 15) dX6_keyAt_9 (by decide) (fun c_9 => ?_) (fun c_9 => ?_)
          · refine wp_aload_n (pc := 15) (i := 0) dX6_keyAt_15 rfl rfl (by first | with_reducible assumption | rfl) ?_
            refine wp_getR (pc := 16) dX6_keyAt_16 lf_X6_19 (by first | with_reducible assumption | rfl) (by first | with_reducible assumption | rfl) rfl (by first | with_reducible assumption | rfl) (by first | with_reducible assumption | rfl) ?_
            refine wp_iconst (pc := 19) (v := nI 0) dX6_keyAt_19 (by decide +kernel) ?_
            refine wp_iald (pc := 20) dX6_keyAt_20 (by first | with_reducible assumption | rfl) (by first | with_reducible assumption | rfl) (by first | with_reducible assumption | omega) (by first | decide | omega) ?_
            rw [f49]
            refine wp_bipush (pc := 21) (v := (-9)) dX6_keyAt_21 (by decide +kernel) ?_
            refine wp_icmp_eq (pc := 23) (tgt := 29) dX6_keyAt_23 (by decide) (fun c_23 => ?_) (fun c_23 => ?_)
            · refine wp_aload_n (pc := 29) (i := 0) dX6_keyAt_29 rfl rfl (by first | with_reducible assumption | rfl) ?_
              refine wp_iload_n (pc := 30) (i := 1) dX6_keyAt_30 rfl rfl ?_
              refine wp_cVI1 (pc := 31) (ci := 6) dX6_keyAt_31 lm_X6_162 m_X6_layKeys (by first | with_reducible assumption | rfl) (by first | with_reducible assumption | rfl) (by decide) rfl (Nat.le_of_ble_eq_true rfl) hlk (fun x_31 I_31 J_31 h_31 => ?_)
              obtain ⟨rfl, g1, g2, rfl⟩ := h_31
              have g3 := g2 c hc
              rw [eM] at g3
              refine wp_istore_n (pc := 34) (i := 3) dX6_keyAt_34 rfl (by decide) ?_
              refine wp_iload_n (pc := 35) (i := 2) dX6_keyAt_35 rfl rfl ?_
              first | (refine wp_i2lN (pc := 36) dX6_keyAt_36 (by first | with_reducible assumption | omega) ?_) | (refine wp_i2l (pc := 36) dX6_keyAt_36 ?_)
              refine wp_lconst (pc := 37) (v := lN 0) dX6_keyAt_37 (by decide +kernel) ?_
              refine wp_iload_n (pc := 38) (i := 3) dX6_keyAt_38 rfl rfl ?_
              refine wp_iconst (pc := 39) (v := nI 1) dX6_keyAt_39 (by decide +kernel) ?_
              first | (refine wp_isubN (pc := 40) dX6_keyAt_40 (by first | with_reducible assumption | omega) ?_) | (refine wp_isub (pc := 40) dX6_keyAt_40 ?_)
              first | (refine wp_i2lN (pc := 41) dX6_keyAt_41 (by first | with_reducible assumption | omega) ?_) | (refine wp_i2l (pc := 41) dX6_keyAt_41 ?_)
              refine wp_cSP3 (pc := 42) dX6_keyAt_42 lm_X6_56 m_X6_in (Nat.le_of_ble_eq_true rfl) sp_X6_in ?_
              rw [his2]
              refine wp_if_eqB (pc := 45) (tgt := 60) dX6_keyAt_45 (by decide) (fun c_45 => ?_) (fun c_45 => ?_)
              · exact Bool.noConfusion c_45
              · refine wp_aload_n (pc := 48) (i := 0) dX6_keyAt_48 rfl rfl (by first | with_reducible assumption | rfl) ?_
                refine wp_getR (pc := 49) dX6_keyAt_49 lf_X6_34 (by first | with_reducible assumption | rfl) (by first | with_reducible assumption | rfl) rfl (by first | with_reducible assumption | rfl) (by first | with_reducible assumption | rfl) ?_
                refine wp_iload_n (pc := 52) (i := 2) dX6_keyAt_52 rfl rfl ?_
                refine wp_iald (pc := 53) dX6_keyAt_53 (by first | with_reducible assumption | rfl) (by first | with_reducible assumption | rfl) (by first | with_reducible assumption | omega) (by first | decide | omega) ?_
                rw [g3]
                refine wp_sipush (pc := 54) (v := nI 999) dX6_keyAt_54 (by decide +kernel) ?_
                first | (refine wp_icmp_neN (pc := 57) (tgt := 65) dX6_keyAt_57 (by decide) (by first | with_reducible assumption | omega) (by first | with_reducible assumption | omega) (fun c_57 => ?_) (fun c_57 => ?_)) | (refine wp_icmp_ne (pc := 57) (tgt := 65) dX6_keyAt_57 (by decide) (fun c_57 => ?_) (fun c_57 => ?_))
                · refine wp_bipush (pc := 65) (v := nI 100) dX6_keyAt_65 (by decide +kernel) ?_
                  refine wp_aload_n (pc := 67) (i := 0) dX6_keyAt_67 rfl rfl (by first | with_reducible assumption | rfl) ?_
                  refine wp_getR (pc := 68) dX6_keyAt_68 lf_X6_34 (by first | with_reducible assumption | rfl) (by first | with_reducible assumption | rfl) rfl (by first | with_reducible assumption | rfl) (by first | with_reducible assumption | rfl) ?_
                  refine wp_iload_n (pc := 71) (i := 2) dX6_keyAt_71 rfl rfl ?_
                  refine wp_iald (pc := 72) dX6_keyAt_72 (by first | with_reducible assumption | rfl) (by first | with_reducible assumption | rfl) (by first | with_reducible assumption | omega) (by first | decide | omega) ?_
                  rw [g3]
                  refine wp_bipush (pc := 73) (v := nI 16) dX6_keyAt_73 (by decide +kernel) ?_
                  refine wp_idivN (pc := 75) dX6_keyAt_75 (by first | with_reducible assumption | omega) (by first | with_reducible assumption | omega) (by first | with_reducible assumption | omega) ?_
                  first | (refine wp_imulN (pc := 76) dX6_keyAt_76 ?_) | (refine wp_imul (pc := 76) dX6_keyAt_76 ?_)
                  refine wp_aload_n (pc := 77) (i := 0) dX6_keyAt_77 rfl rfl (by first | with_reducible assumption | rfl) ?_
                  refine wp_getR (pc := 78) dX6_keyAt_78 lf_X6_34 (by first | with_reducible assumption | rfl) (by first | with_reducible assumption | rfl) rfl (by first | with_reducible assumption | rfl) (by first | with_reducible assumption | rfl) ?_
                  refine wp_iload_n (pc := 81) (i := 2) dX6_keyAt_81 rfl rfl ?_
                  refine wp_iald (pc := 82) dX6_keyAt_82 (by first | with_reducible assumption | rfl) (by first | with_reducible assumption | rfl) (by first | with_reducible assumption | omega) (by first | decide | omega) ?_
                  rw [g3]
                  refine wp_bipush (pc := 83) (v := nI 16) dX6_keyAt_83 (by decide +kernel) ?_
                  refine wp_iremN (pc := 85) dX6_keyAt_85 (by first | with_reducible assumption | omega) (by first | with_reducible assumption | omega) (by first | with_reducible assumption | omega) ?_
                  first | (refine wp_iaddN (pc := 86) dX6_keyAt_86 ?_) | (refine wp_iadd (pc := 86) dX6_keyAt_86 ?_)
                  refine wp_ireturn (pc := 87) dX6_keyAt_87 rfl ?_
                  exact am_i rfl (RepM_fr hR g1)
                · exact absurd c_57 (by omega)
            · exact absurd rfl c_23
          · exact Bool.noConfusion c_9
    · rw [if_neg hl] at e0
      have e : aKeyAtM w h last b (nI n) y = -3 := by unfold aKeyAtM; rw [e0, if_neg (by decide)]
      have hne := lsI_ne hl hl3
      rw [e]
      refine call_of_wp (by decide) (Nat.le_of_ble_eq_true rfl) ?_
      refine wp_iload_n (pc := 0) (i := 1) dX6_keyAt_0 rfl rfl ?_
      first | (refine wp_i2lN (pc := 1) dX6_keyAt_1 (by first | with_reducible assumption | omega) ?_) | (refine wp_i2l (pc := 1) dX6_keyAt_1 ?_)
      refine wp_lconst (pc := 2) (v := lN 1) dX6_keyAt_2 (by decide +kernel) ?_
      refine wp_ldc2_w (pc := 3) (v := lN 4) dX6_keyAt_3 kl_X6_160 ?_
      refine wp_cSP3 (pc := 6) dX6_keyAt_6 lm_X6_56 m_X6_in (Nat.le_of_ble_eq_true rfl) sp_X6_in ?_
      rw [hin]
      refine wp_if_neB (pc := 9) (tgt := 15) dX6_keyAt_9 (by decide) (fun c_9 => ?_) (fun c_9 => ?_)
      · refine wp_aload_n (pc := 15) (i := 0) dX6_keyAt_15 rfl rfl (by first | with_reducible assumption | rfl) ?_
        refine wp_getR (pc := 16) dX6_keyAt_16 lf_X6_19 (by first | with_reducible assumption | rfl) (by first | with_reducible assumption | rfl) rfl (by first | with_reducible assumption | rfl) (by first | with_reducible assumption | rfl) ?_
        refine wp_iconst (pc := 19) (v := nI 0) dX6_keyAt_19 (by decide +kernel) ?_
        refine wp_iald (pc := 20) dX6_keyAt_20 (by first | with_reducible assumption | rfl) (by first | with_reducible assumption | rfl) (by first | with_reducible assumption | omega) (by first | decide | omega) ?_
        rw [f4]
        refine wp_bipush (pc := 21) (v := (-9)) dX6_keyAt_21 (by decide +kernel) ?_
        refine wp_icmp_eq (pc := 23) (tgt := 29) dX6_keyAt_23 (by decide) (fun c_23 => ?_) (fun c_23 => ?_)
        · exact absurd c_23 hne
        · refine wp_bipush (pc := 26) (v := (-3)) dX6_keyAt_26 (by decide +kernel) ?_
          refine wp_ireturn (pc := 28) dX6_keyAt_28 rfl ?_
          exact am_i rfl hR
      · exact Bool.noConfusion c_9
end MK2
