/-! THE REFERENCE'S CALLS, 7: ways -/
def frW (k a i : Nat) : Prop := (a = 6 ∧ 256 * k ≤ i) ∨ (a = 7 ∧ k ≤ i) ∨ ((a = 1 ∨ a = 2) ∧ 16 * (k + 1) ≤ i) ∨ ((a = 3 ∨ a = 4) ∧ k + 1 ≤ i)
def aWaysM (w h last : Nat) (b : Bd) (f : Nat → Option Bd) (x y : Int32) : Int32 := if inB x 2 = true then (if y < nI 1 ∨ nI 3 < y then -2 else match f (cI x) with
  | none => -3
  | some q => nI (wyM w h last q (cI y) b)) else -1
theorem frW_s {k a i : Nat} (h : frW (k + 1) a i) : frW k a i := by unfold frW at *; omega
theorem frW_M {a i : Nat} (h : frW 0 a i) : scrM a i := by unfold frW at h; unfold scrM; omega
section MW2
variable {d : Nat} {I : MemI} {J : MemJ} {t : List Nat} {w h last : Nat} {b : Bd} {ps : List Bd} {f : Nat → Option Bd} {z : Int64}
theorem LsT_W {k : Nat} {l : List Nat} {I I' : MemI} (h : LsT k l I I') : FI (frW k) I I' := fun a i y => h.2 a i (fun q => y (Or.inl ⟨q.1, q.2.1⟩)) (fun q => y (Or.inr (Or.inl ⟨q.1, by omega⟩)))
theorem FM_W {k : Nat} {I I' : MemI} (h : FM (k + 1) I I') : FI (frW k) I I' := fun a i y => h a i (fun q => y (Or.inr (Or.inr (Or.inl ⟨q.1, q.2.1⟩)))) (fun q => y (Or.inr (Or.inr (Or.inr ⟨q.1, by omega⟩))))
/-- what a search from level k needs of the memory -/
def PW (w h last k s : Nat) (c q : Bd) (I : MemI) : Prop := WH w h I ∧ I 0 2 = nI last ∧ LX (w * h) k c I ∧ RW (w * h) 12 (34 * s) q I
theorem PW_fr {k s : Nat} {c q : Bd} {I I' : MemI} (hk : k < 4) (h0 : PW w h last k s c q I) (hf : FI (frW k) I I') : PW w h last k s c q I' := by
  obtain ⟨h1, h2, h3, h4⟩ := h0
  exact ⟨WH_fr h1 (fun i => hf 0 i (by unfold frW; omega)), by rw [hf 0 2 (by unfold frW; omega)]; exact h2, LX_n h3 hk (fun a i y1 y2 y3 => hf a i (by unfold frW; omega)) (hf 3 k (by unfold frW; omega)) (hf 4 k (by unfold frW; omega)), RW_n h4 (fun i _ _ => hf 12 i (by unfold frW; omega))⟩
/-- the contract of a search -/
def WCT (d w h last k s m : Nat) (q : Bd) (K : Mth) : Prop := ∀ (I : MemI) (J : MemJ) (c : Bd), PW w h last k s c q I → Bok (w * h) c → CALL ΩM d K [.ref 0, .int (nI k), .int (nI s)] I J (IQ (fun x I' J' => x = nI (wyM w h last q m c) ∧ FI (frW k) I I' ∧ J' = J))
theorem wyM_s {m : Nat} {c q : Bd} : wyM w h last q (m + 1) c = ((PLY w h c).map (fun x => wyM w h last q m (mkB last c x))).sum := rfl
set_option maxHeartbeats 16000000 in
theorem sp_X6_oneWay {k s : Nat} {q : Bd} (hk : k ≤ 2) (hs : s < 2) (hQ : Bok (w * h) q) (hl9 : last < 10) : WCT (d + 7) w h last k s 1 q kX6_oneWay := by
  intro I J c hP hB
  have hlen := PLY_len (w := w) (h := h) hB.2.2.2.1
  have n16 := (WH_n hP.1).2
  have loop : ∀ m j (I2 : MemI), m + j = (PLY w h c).length → FI (frW k) I I2 → (∀ j, j < (PLY w h c).length → I2 6 (256 * k + j) = nI (encM ((PLY w h c).getD j 0))) → WP ΩM (d + 7) kX6_oneWay 12 [(0, .ref 0), (1, .int (nI k)), (2, .int (nI s)), (3, .int (nI (PLY w h c).length)), (4, .int (nI (((PLY w h c).take j).map (fun x => wyM w h last q 0 (mkB last c x))).sum)), (5, .int (nI j))] [] I2 J (IQ (fun x I' J' => x = nI (wyM w h last q 1 c) ∧ FI (frW k) I I' ∧ J' = J)) := by
    intro m
    induction m with
    | zero =>
      intro j I2 hj hfr h6
      have hj' : j = (PLY w h c).length := (Nat.zero_add j).symm.trans hj
      rw [hj', List.take_length]
      refine wp_iload (pc := 12) dX6_oneWay_12 rfl ?_
      refine wp_iload_n (pc := 14) (i := 3) dX6_oneWay_14 rfl rfl ?_
      first | (refine wp_icmp_geN (pc := 15) (tgt := 67) dX6_oneWay_15 (by decide) (by first | with_reducible assumption | omega) (by first | with_reducible assumption | omega) (fun c_15 => ?_) (fun c_15 => ?_)) | (refine wp_icmp_ge (pc := 15) (tgt := 67) dX6_oneWay_15 (by decide) (fun c_15 => ?_) (fun c_15 => ?_))
      · refine wp_iload (pc := 67) dX6_oneWay_67 rfl ?_
        refine wp_ireturn (pc := 69) dX6_oneWay_69 rfl ?_
        exact iq_i ⟨rfl, hfr, rfl⟩
      · exact absurd (Nat.le_refl _) c_15
    | succ m ih =>
      intro j I2 hj hfr h6
      have hjl : j < (PLY w h c).length := by omega
      have hP2 := PW_fr (by omega) hP hfr
      have hl := (PLY_mem hB.1 (PLY_get hjl)).1
      have hok := PLY_ok hB (PLY_get hjl)
      have hlg := okP_leg hok
      have hB2 := Bok_mk hB hlg.1 hlg.2 hl9
      have hmk := sp_X6_make (d := d + 3) (J := J) hP2.1 hP2.2.1 hP2.2.2.1 hB hl hok (show k < 4 by omega) (show k + 1 < 4 by omega)
      have h6j := h6 j hjl
      have h0 := fun I4 => ih (j + 1) I4 (by omega)
      rw [sum_take (l := PLY w h c) (f := fun x => wyM w h last q 0 (mkB last c x)) hjl] at h0
      have e0 : wyM w h last q 0 (mkB last c ((PLY w h c).getD j 0)) = (likB (w * h) (mkB last c ((PLY w h c).getD j 0)) q).toNat := rfl
      rw [e0] at h0
      clear ih
      generalize (PLY w h c).getD j 0 = x at *
      cases hv : likB (w * h) (mkB last c x) q
      · rw [hv] at h0
        refine wp_iload (pc := 12) dX6_oneWay_12 rfl ?_
        refine wp_iload_n (pc := 14) (i := 3) dX6_oneWay_14 rfl rfl ?_
        first | (refine wp_icmp_geN (pc := 15) (tgt := 67) dX6_oneWay_15 (by decide) (by first | with_reducible assumption | omega) (by first | with_reducible assumption | omega) (fun c_15 => ?_) (fun c_15 => ?_)) | (refine wp_icmp_ge (pc := 15) (tgt := 67) dX6_oneWay_15 (by decide) (fun c_15 => ?_) (fun c_15 => ?_))
        · exact absurd c_15 (by omega)
        · refine wp_aload_n (pc := 18) (i := 0) dX6_oneWay_18 rfl rfl (by first | with_reducible assumption | rfl) ?_
          refine wp_iload_n (pc := 19) (i := 1) dX6_oneWay_19 rfl rfl ?_
          refine wp_iload_n (pc := 20) (i := 1) dX6_oneWay_20 rfl rfl ?_
          refine wp_iconst (pc := 21) (v := nI 1) dX6_oneWay_21 (by decide +kernel) ?_
          first | (refine wp_iaddN (pc := 22) dX6_oneWay_22 ?_) | (refine wp_iadd (pc := 22) dX6_oneWay_22 ?_)
          refine wp_aload_n (pc := 23) (i := 0) dX6_oneWay_23 rfl rfl (by first | with_reducible assumption | rfl) ?_
          refine wp_getR (pc := 24) dX6_oneWay_24 lf_X6_25 (by first | with_reducible assumption | rfl) (by first | with_reducible assumption | rfl) rfl (by first | with_reducible assumption | rfl) (by first | with_reducible assumption | rfl) ?_
          refine wp_sipush (pc := 27) (v := nI 256) dX6_oneWay_27 (by decide +kernel) ?_
          refine wp_iload_n (pc := 30) (i := 1) dX6_oneWay_30 rfl rfl ?_
          first | (refine wp_imulN (pc := 31) dX6_oneWay_31 ?_) | (refine wp_imul (pc := 31) dX6_oneWay_31 ?_)
          refine wp_iload (pc := 32) dX6_oneWay_32 rfl ?_
          first | (refine wp_iaddN (pc := 34) dX6_oneWay_34 ?_) | (refine wp_iadd (pc := 34) dX6_oneWay_34 ?_)
          refine wp_iald (pc := 35) dX6_oneWay_35 (by first | with_reducible assumption | rfl) (by first | with_reducible assumption | rfl) (by first | with_reducible assumption | omega) (by first | decide | omega) ?_
          rw [h6j]
          refine wp_cVI3 (pc := 36) (ci := 6) dX6_oneWay_36 lm_X6_143 m_X6_make (by first | with_reducible assumption | rfl) (by first | with_reducible assumption | rfl) (by decide) rfl (Nat.le_of_ble_eq_true rfl) hmk (fun x_36 I_36 J_36 h_36 => ?_)
          obtain ⟨-, m2, m3, rfl⟩ := h_36
          have hP3 := PW_fr (by omega) hP2 (FM_W m3)
          have hlk := sp_X6_isLike (d := d + 6) (J := J_36) hP3.1 (LX_V n16 m2) hB2 (show k + 1 < 4 by omega) hs hP3.2.2.2 hQ
          rw [hv] at hlk
          refine wp_pop (pc := 39) dX6_oneWay_39 rfl ?_
          refine wp_iload (pc := 40) dX6_oneWay_40 rfl ?_
          refine wp_aload_n (pc := 42) (i := 0) dX6_oneWay_42 rfl rfl (by first | with_reducible assumption | rfl) ?_
          refine wp_iload_n (pc := 43) (i := 1) dX6_oneWay_43 rfl rfl ?_
          refine wp_iconst (pc := 44) (v := nI 1) dX6_oneWay_44 (by decide +kernel) ?_
          first | (refine wp_iaddN (pc := 45) dX6_oneWay_45 ?_) | (refine wp_iadd (pc := 45) dX6_oneWay_45 ?_)
          refine wp_iload_n (pc := 46) (i := 2) dX6_oneWay_46 rfl rfl ?_
          refine wp_cVP2 (pc := 47) (ci := 6) dX6_oneWay_47 lm_X6_184 m_X6_isLike (by first | with_reducible assumption | rfl) (by first | with_reducible assumption | rfl) (by decide) rfl (Nat.le_of_ble_eq_true rfl) hlk ?_
          refine wp_if_eqB (pc := 50) (tgt := 57) dX6_oneWay_50 (by decide) (fun c_50 => ?_) (fun c_50 => ?_)
          · refine wp_iconst (pc := 57) (v := nI 0) dX6_oneWay_57 (by decide +kernel) ?_
            first | (refine wp_iaddN (pc := 58) dX6_oneWay_58 ?_) | (refine wp_iadd (pc := 58) dX6_oneWay_58 ?_)
            refine wp_istore (pc := 59) dX6_oneWay_59 (by decide) ?_
            first | (refine wp_iincN (pc := 61) (m := 1) dX6_oneWay_61 rfl rfl (by decide) ?_) | (refine wp_iinc (pc := 61) dX6_oneWay_61 rfl rfl (by decide) ?_)
            refine wp_goto (pc := 64) (tgt := 12) dX6_oneWay_64 (by decide) ?_
            exact h0 _ (hfr.trans (FM_W m3)) (fun i hi => (m3 6 (256 * k + i) (by omega) (by omega)).trans (h6 i hi))
          · exact Bool.noConfusion c_50
      · rw [hv] at h0
        refine wp_iload (pc := 12) dX6_oneWay_12 rfl ?_
        refine wp_iload_n (pc := 14) (i := 3) dX6_oneWay_14 rfl rfl ?_
        first | (refine wp_icmp_geN (pc := 15) (tgt := 67) dX6_oneWay_15 (by decide) (by first | with_reducible assumption | omega) (by first | with_reducible assumption | omega) (fun c_15 => ?_) (fun c_15 => ?_)) | (refine wp_icmp_ge (pc := 15) (tgt := 67) dX6_oneWay_15 (by decide) (fun c_15 => ?_) (fun c_15 => ?_))
        · exact absurd c_15 (by omega)
        · refine wp_aload_n (pc := 18) (i := 0) dX6_oneWay_18 rfl rfl (by first | with_reducible assumption | rfl) ?_
          refine wp_iload_n (pc := 19) (i := 1) dX6_oneWay_19 rfl rfl ?_
          refine wp_iload_n (pc := 20) (i := 1) dX6_oneWay_20 rfl rfl ?_
          refine wp_iconst (pc := 21) (v := nI 1) dX6_oneWay_21 (by decide +kernel) ?_
          first | (refine wp_iaddN (pc := 22) dX6_oneWay_22 ?_) | (refine wp_iadd (pc := 22) dX6_oneWay_22 ?_)
          refine wp_aload_n (pc := 23) (i := 0) dX6_oneWay_23 rfl rfl (by first | with_reducible assumption | rfl) ?_
          refine wp_getR (pc := 24) dX6_oneWay_24 lf_X6_25 (by first | with_reducible assumption | rfl) (by first | with_reducible assumption | rfl) rfl (by first | with_reducible assumption | rfl) (by first | with_reducible assumption | rfl) ?_
          refine wp_sipush (pc := 27) (v := nI 256) dX6_oneWay_27 (by decide +kernel) ?_
          refine wp_iload_n (pc := 30) (i := 1) dX6_oneWay_30 rfl rfl ?_
          first | (refine wp_imulN (pc := 31) dX6_oneWay_31 ?_) | (refine wp_imul (pc := 31) dX6_oneWay_31 ?_)
          refine wp_iload (pc := 32) dX6_oneWay_32 rfl ?_
          first | (refine wp_iaddN (pc := 34) dX6_oneWay_34 ?_) | (refine wp_iadd (pc := 34) dX6_oneWay_34 ?_)
          refine wp_iald (pc := 35) dX6_oneWay_35 (by first | with_reducible assumption | rfl) (by first | with_reducible assumption | rfl) (by first | with_reducible assumption | omega) (by first | decide | omega) ?_
          rw [h6j]
          refine wp_cVI3 (pc := 36) (ci := 6) dX6_oneWay_36 lm_X6_143 m_X6_make (by first | with_reducible assumption | rfl) (by first | with_reducible assumption | rfl) (by decide) rfl (Nat.le_of_ble_eq_true rfl) hmk (fun x_36 I_36 J_36 h_36 => ?_)
          obtain ⟨-, m2, m3, rfl⟩ := h_36
          have hP3 := PW_fr (by omega) hP2 (FM_W m3)
          have hlk := sp_X6_isLike (d := d + 6) (J := J_36) hP3.1 (LX_V n16 m2) hB2 (show k + 1 < 4 by omega) hs hP3.2.2.2 hQ
          rw [hv] at hlk
          refine wp_pop (pc := 39) dX6_oneWay_39 rfl ?_
          refine wp_iload (pc := 40) dX6_oneWay_40 rfl ?_
          refine wp_aload_n (pc := 42) (i := 0) dX6_oneWay_42 rfl rfl (by first | with_reducible assumption | rfl) ?_
          refine wp_iload_n (pc := 43) (i := 1) dX6_oneWay_43 rfl rfl ?_
          refine wp_iconst (pc := 44) (v := nI 1) dX6_oneWay_44 (by decide +kernel) ?_
          first | (refine wp_iaddN (pc := 45) dX6_oneWay_45 ?_) | (refine wp_iadd (pc := 45) dX6_oneWay_45 ?_)
          refine wp_iload_n (pc := 46) (i := 2) dX6_oneWay_46 rfl rfl ?_
          refine wp_cVP2 (pc := 47) (ci := 6) dX6_oneWay_47 lm_X6_184 m_X6_isLike (by first | with_reducible assumption | rfl) (by first | with_reducible assumption | rfl) (by decide) rfl (Nat.le_of_ble_eq_true rfl) hlk ?_
          refine wp_if_eqB (pc := 50) (tgt := 57) dX6_oneWay_50 (by decide) (fun c_50 => ?_) (fun c_50 => ?_)
          · exact Bool.noConfusion c_50
          · refine wp_iconst (pc := 53) (v := nI 1) dX6_oneWay_53 (by decide +kernel) ?_
            refine wp_goto (pc := 54) (tgt := 58) dX6_oneWay_54 (by decide) ?_
            first | (refine wp_iaddN (pc := 58) dX6_oneWay_58 ?_) | (refine wp_iadd (pc := 58) dX6_oneWay_58 ?_)
            refine wp_istore (pc := 59) dX6_oneWay_59 (by decide) ?_
            first | (refine wp_iincN (pc := 61) (m := 1) dX6_oneWay_61 rfl rfl (by decide) ?_) | (refine wp_iinc (pc := 61) dX6_oneWay_61 rfl rfl (by decide) ?_)
            refine wp_goto (pc := 64) (tgt := 12) dX6_oneWay_64 (by decide) ?_
            exact h0 _ (hfr.trans (FM_W m3)) (fun i hi => (m3 6 (256 * k + i) (by omega) (by omega)).trans (h6 i hi))
  have hli := sp_X6_list (d := d) (J := J) hP.1 hP.2.2.1 hB (show k < 4 by omega)
  refine call_of_wp (by decide) (Nat.le_of_ble_eq_true rfl) ?_
  refine wp_aload_n (pc := 0) (i := 0) dX6_oneWay_0 rfl rfl (by first | with_reducible assumption | rfl) ?_
  refine wp_iload_n (pc := 1) (i := 1) dX6_oneWay_1 rfl rfl ?_
  refine wp_cVI1 (pc := 2) (ci := 6) dX6_oneWay_2 lm_X6_130 m_X6_list (by first | with_reducible assumption | rfl) (by first | with_reducible assumption | rfl) (by decide) rfl (Nat.le_of_ble_eq_true rfl) hli (fun x_2 I_2 J_2 h_2 => ?_)
  obtain ⟨rfl, q1, q2, rfl⟩ := h_2
  refine wp_istore_n (pc := 5) (i := 3) dX6_oneWay_5 rfl (by decide) ?_
  refine wp_iconst (pc := 6) (v := nI 0) dX6_oneWay_6 (by decide +kernel) ?_
  refine wp_istore (pc := 7) dX6_oneWay_7 (by decide) ?_
  refine wp_iconst (pc := 9) (v := nI 0) dX6_oneWay_9 (by decide +kernel) ?_
  refine wp_istore (pc := 10) dX6_oneWay_10 (by decide) ?_
  exact loop (PLY w h c).length 0 _ rfl (LsT_W q1) q1.1
set_option maxHeartbeats 16000000 in
theorem sp_X6_twoWays {k s : Nat} {q : Bd} (hk : k ≤ 1) (hs : s < 2) (hQ : Bok (w * h) q) (hl9 : last < 10) : WCT (d + 8) w h last k s 2 q kX6_twoWays := by
  intro I J c hP hB
  have hlen := PLY_len (w := w) (h := h) hB.2.2.2.1
  have n16 := (WH_n hP.1).2
  have loop : ∀ m j (I2 : MemI), m + j = (PLY w h c).length → FI (frW k) I I2 → (∀ j, j < (PLY w h c).length → I2 6 (256 * k + j) = nI (encM ((PLY w h c).getD j 0))) → WP ΩM (d + 8) kX6_twoWays 12 [(0, .ref 0), (1, .int (nI k)), (2, .int (nI s)), (3, .int (nI (PLY w h c).length)), (4, .int (nI (((PLY w h c).take j).map (fun x => wyM w h last q 1 (mkB last c x))).sum)), (5, .int (nI j))] [] I2 J (IQ (fun x I' J' => x = nI (wyM w h last q 2 c) ∧ FI (frW k) I I' ∧ J' = J)) := by
    intro m
    induction m with
    | zero =>
      intro j I2 hj hfr h6
      have hj' : j = (PLY w h c).length := (Nat.zero_add j).symm.trans hj
      rw [hj', List.take_length]
      refine wp_iload (pc := 12) dX6_twoWays_12 rfl ?_
      refine wp_iload_n (pc := 14) (i := 3) dX6_twoWays_14 rfl rfl ?_
      first | (refine wp_icmp_geN (pc := 15) (tgt := 59) dX6_twoWays_15 (by decide) (by first | with_reducible assumption | omega) (by first | with_reducible assumption | omega) (fun c_15 => ?_) (fun c_15 => ?_)) | (refine wp_icmp_ge (pc := 15) (tgt := 59) dX6_twoWays_15 (by decide) (fun c_15 => ?_) (fun c_15 => ?_))
      · refine wp_iload (pc := 59) dX6_twoWays_59 rfl ?_
        refine wp_ireturn (pc := 61) dX6_twoWays_61 rfl ?_
        exact iq_i ⟨rfl, hfr, rfl⟩
      · exact absurd (Nat.le_refl _) c_15
    | succ m ih =>
      intro j I2 hj hfr h6
      have hjl : j < (PLY w h c).length := by omega
      have hP2 := PW_fr (by omega) hP hfr
      have hl := (PLY_mem hB.1 (PLY_get hjl)).1
      have hok := PLY_ok hB (PLY_get hjl)
      have hlg := okP_leg hok
      have hB2 := Bok_mk hB hlg.1 hlg.2 hl9
      have hmk := sp_X6_make (d := d + 4) (J := J) hP2.1 hP2.2.1 hP2.2.2.1 hB hl hok (show k < 4 by omega) (show k + 1 < 4 by omega)
      have h6j := h6 j hjl
      have h0 := fun I4 => ih (j + 1) I4 (by omega)
      rw [sum_take (l := PLY w h c) (f := fun x => wyM w h last q 1 (mkB last c x)) hjl] at h0
      clear ih
      generalize (PLY w h c).getD j 0 = x at *
      refine wp_iload (pc := 12) dX6_twoWays_12 rfl ?_
      refine wp_iload_n (pc := 14) (i := 3) dX6_twoWays_14 rfl rfl ?_
      first | (refine wp_icmp_geN (pc := 15) (tgt := 59) dX6_twoWays_15 (by decide) (by first | with_reducible assumption | omega) (by first | with_reducible assumption | omega) (fun c_15 => ?_) (fun c_15 => ?_)) | (refine wp_icmp_ge (pc := 15) (tgt := 59) dX6_twoWays_15 (by decide) (fun c_15 => ?_) (fun c_15 => ?_))
      · exact absurd c_15 (by omega)
      · refine wp_aload_n (pc := 18) (i := 0) dX6_twoWays_18 rfl rfl (by first | with_reducible assumption | rfl) ?_
        refine wp_iload_n (pc := 19) (i := 1) dX6_twoWays_19 rfl rfl ?_
        refine wp_iload_n (pc := 20) (i := 1) dX6_twoWays_20 rfl rfl ?_
        refine wp_iconst (pc := 21) (v := nI 1) dX6_twoWays_21 (by decide +kernel) ?_
        first | (refine wp_iaddN (pc := 22) dX6_twoWays_22 ?_) | (refine wp_iadd (pc := 22) dX6_twoWays_22 ?_)
        refine wp_aload_n (pc := 23) (i := 0) dX6_twoWays_23 rfl rfl (by first | with_reducible assumption | rfl) ?_
        refine wp_getR (pc := 24) dX6_twoWays_24 lf_X6_25 (by first | with_reducible assumption | rfl) (by first | with_reducible assumption | rfl) rfl (by first | with_reducible assumption | rfl) (by first | with_reducible assumption | rfl) ?_
        refine wp_sipush (pc := 27) (v := nI 256) dX6_twoWays_27 (by decide +kernel) ?_
        refine wp_iload_n (pc := 30) (i := 1) dX6_twoWays_30 rfl rfl ?_
        first | (refine wp_imulN (pc := 31) dX6_twoWays_31 ?_) | (refine wp_imul (pc := 31) dX6_twoWays_31 ?_)
        refine wp_iload (pc := 32) dX6_twoWays_32 rfl ?_
        first | (refine wp_iaddN (pc := 34) dX6_twoWays_34 ?_) | (refine wp_iadd (pc := 34) dX6_twoWays_34 ?_)
        refine wp_iald (pc := 35) dX6_twoWays_35 (by first | with_reducible assumption | rfl) (by first | with_reducible assumption | rfl) (by first | with_reducible assumption | omega) (by first | decide | omega) ?_
        rw [h6j]
        refine wp_cVI3 (pc := 36) (ci := 6) dX6_twoWays_36 lm_X6_143 m_X6_make (by first | with_reducible assumption | rfl) (by first | with_reducible assumption | rfl) (by decide) rfl (Nat.le_of_ble_eq_true rfl) hmk (fun x_36 I_36 J_36 h_36 => ?_)
        obtain ⟨-, m2, m3, rfl⟩ := h_36
        have hP3 := PW_fr (by omega) hP2 (FM_W m3)
        have how := sp_X6_oneWay (d := d) (k := k + 1) (by omega) hs hQ hl9 I_36 J_36 (mkB last c x) ⟨hP3.1, hP3.2.1, m2, hP3.2.2.2⟩ hB2
        refine wp_pop (pc := 39) dX6_twoWays_39 rfl ?_
        refine wp_iload (pc := 40) dX6_twoWays_40 rfl ?_
        refine wp_aload_n (pc := 42) (i := 0) dX6_twoWays_42 rfl rfl (by first | with_reducible assumption | rfl) ?_
        refine wp_iload_n (pc := 43) (i := 1) dX6_twoWays_43 rfl rfl ?_
        refine wp_iconst (pc := 44) (v := nI 1) dX6_twoWays_44 (by decide +kernel) ?_
        first | (refine wp_iaddN (pc := 45) dX6_twoWays_45 ?_) | (refine wp_iadd (pc := 45) dX6_twoWays_45 ?_)
        refine wp_iload_n (pc := 46) (i := 2) dX6_twoWays_46 rfl rfl ?_
        refine wp_cVI2 (pc := 47) (ci := 6) dX6_twoWays_47 lm_X6_187 m_X6_oneWay (by first | with_reducible assumption | rfl) (by first | with_reducible assumption | rfl) (by decide) rfl (Nat.le_of_ble_eq_true rfl) how (fun x_47 I_47 J_47 h_47 => ?_)
        obtain ⟨rfl, m5, rfl⟩ := h_47
        first | (refine wp_iaddN (pc := 50) dX6_twoWays_50 ?_) | (refine wp_iadd (pc := 50) dX6_twoWays_50 ?_)
        refine wp_istore (pc := 51) dX6_twoWays_51 (by decide) ?_
        first | (refine wp_iincN (pc := 53) (m := 1) dX6_twoWays_53 rfl rfl (by decide) ?_) | (refine wp_iinc (pc := 53) dX6_twoWays_53 rfl rfl (by decide) ?_)
        refine wp_goto (pc := 56) (tgt := 12) dX6_twoWays_56 (by decide) ?_
        exact h0 _ ((hfr.trans (FM_W m3)).trans (m5.mono (fun _ _ y => frW_s y))) (fun i hi => (m5 6 (256 * k + i) (by unfold frW; omega)).trans ((m3 6 (256 * k + i) (by omega) (by omega)).trans (h6 i hi)))
  have hli := sp_X6_list (d := d + 1) (J := J) hP.1 hP.2.2.1 hB (show k < 4 by omega)
  refine call_of_wp (by decide) (Nat.le_of_ble_eq_true rfl) ?_
  refine wp_aload_n (pc := 0) (i := 0) dX6_twoWays_0 rfl rfl (by first | with_reducible assumption | rfl) ?_
  refine wp_iload_n (pc := 1) (i := 1) dX6_twoWays_1 rfl rfl ?_
  refine wp_cVI1 (pc := 2) (ci := 6) dX6_twoWays_2 lm_X6_130 m_X6_list (by first | with_reducible assumption | rfl) (by first | with_reducible assumption | rfl) (by decide) rfl (Nat.le_of_ble_eq_true rfl) hli (fun x_2 I_2 J_2 h_2 => ?_)
  obtain ⟨rfl, q1, q2, rfl⟩ := h_2
  refine wp_istore_n (pc := 5) (i := 3) dX6_twoWays_5 rfl (by decide) ?_
  refine wp_iconst (pc := 6) (v := nI 0) dX6_twoWays_6 (by decide +kernel) ?_
  refine wp_istore (pc := 7) dX6_twoWays_7 (by decide) ?_
  refine wp_iconst (pc := 9) (v := nI 0) dX6_twoWays_9 (by decide +kernel) ?_
  refine wp_istore (pc := 10) dX6_twoWays_10 (by decide) ?_
  exact loop (PLY w h c).length 0 _ rfl (LsT_W q1) q1.1
set_option maxHeartbeats 16000000 in
theorem sp_X6_ways {x y : Int32} (hR : RepM t w h last b ps f z I J) : CALL ΩM (d + 9) kX6_ways [.ref 0, .int x, .int y] I J (AM (aWaysM w h last b f x y) (t, (w, h, last), b, ps, f, z)) := by
  have hil : inL x.toInt64 (lN 0) (lN 1) = inB x 2 := inL_cell (n := 2) (by decide) (by decide)
  have hl9 := hR.1
  have hB := hR.2.2.2.1.2
  have n16 := (RepM_16 hR).2
  have hlen := PLY_len (w := w) (h := h) hB.2.2.2.1
  cases hx : inB x 2
  · have e : aWaysM w h last b f x y = -1 := if_neg (by rw [hx]; exact Bool.false_ne_true)
    rw [e]
    refine call_of_wp (by decide) (Nat.le_of_ble_eq_true rfl) ?_
    refine wp_iload_n (pc := 0) (i := 1) dX6_ways_0 rfl rfl ?_
    refine wp_i2l (pc := 1) dX6_ways_1 ?_
    refine wp_lconst (pc := 2) (v := lN 0) dX6_ways_2 (by decide +kernel) ?_
    refine wp_lconst (pc := 3) (v := lN 1) dX6_ways_3 (by decide +kernel) ?_
    refine wp_cSP3 (pc := 4) dX6_ways_4 lm_X6_56 m_X6_in (Nat.le_of_ble_eq_true rfl) sp_X6_in ?_
    rw [hil, hx]
    refine wp_if_neB (pc := 7) (tgt := 12) dX6_ways_7 (by decide) (fun c_7 => ?_) (fun c_7 => ?_)
    · exact Bool.noConfusion c_7
    · refine wp_iconst (pc := 10) (v := (-1)) dX6_ways_10 (by decide +kernel) ?_
      refine wp_ireturn (pc := 11) dX6_ways_11 rfl ?_
      exact am_i rfl hR
  · obtain ⟨s, hs, rfl⟩ := inB_t (by omega) hx
    have hcc := cI_n (n := s) (by omega)
    have hil2 : inL (lN s) (lN 0) (lN 1) = true := decide_eq_true ⟨(pk_lLE (by omega) (by omega)).mpr (by omega), (pk_lLE (by omega) (by omega)).mpr (by omega)⟩
    have hi3 : inL y.toInt64 (lN 1) (lN 3) = decide (¬ (y < nI 1 ∨ nI 3 < y)) := inL_rng (by decide) (by decide)
    by_cases hy : y < nI 1 ∨ nI 3 < y
    · have e : aWaysM w h last b f (nI s) y = -2 := by unfold aWaysM; rw [if_pos hx, if_pos hy]
      rw [decide_eq_false (fun k => k hy)] at hi3
      rw [e]
      refine call_of_wp (by decide) (Nat.le_of_ble_eq_true rfl) ?_
      refine wp_iload_n (pc := 0) (i := 1) dX6_ways_0 rfl rfl ?_
      first | (refine wp_i2lN (pc := 1) dX6_ways_1 (by first | with_reducible assumption | omega) ?_) | (refine wp_i2l (pc := 1) dX6_ways_1 ?_)
      refine wp_lconst (pc := 2) (v := lN 0) dX6_ways_2 (by decide +kernel) ?_
      refine wp_lconst (pc := 3) (v := lN 1) dX6_ways_3 (by decide +kernel) ?_
      refine wp_cSP3 (pc := 4) dX6_ways_4 lm_X6_56 m_X6_in (Nat.le_of_ble_eq_true rfl) sp_X6_in ?_
      rw [hil2]
      refine wp_if_neB (pc := 7) (tgt := 12) dX6_ways_7 (by decide) (fun c_7 => ?_) (fun c_7 => ?_)
      · refine wp_iload_n (pc := 12) (i := 2) dX6_ways_12 rfl rfl ?_
        refine wp_i2l (pc := 13) dX6_ways_13 ?_
        refine wp_lconst (pc := 14) (v := lN 1) dX6_ways_14 (by decide +kernel) ?_
        refine wp_ldc2_w (pc := 15) (v := lN 3) dX6_ways_15 kl_X6_190 ?_
        refine wp_cSP3 (pc := 18) dX6_ways_18 lm_X6_56 m_X6_in (Nat.le_of_ble_eq_true rfl) sp_X6_in ?_
        rw [hi3]
        refine wp_if_neB (pc := 21) (tgt := 27) dX6_ways_21 (by decide) (fun c_21 => ?_) (fun c_21 => ?_)
        · exact Bool.noConfusion c_21
        · refine wp_bipush (pc := 24) (v := (-2)) dX6_ways_24 (by decide +kernel) ?_
          refine wp_ireturn (pc := 26) dX6_ways_26 rfl ?_
          exact am_i rfl hR
      · exact Bool.noConfusion c_7
    · obtain ⟨n, n1, n3, rfl⟩ := rngI (by omega) (by omega) hy
      have hcn := cI_n (n := n) (by omega)
      have hin : inL (lN n) (lN 1) (lN 3) = true := by rw [inL_nn (by omega) (by omega) (by omega)]; exact decide_eq_true ⟨n1, n3⟩
      have hk := (hR.2.2.2.2.2.1.1 s hs).1
      cases hf : f s with
      | none =>
        have e : aWaysM w h last b f (nI s) (nI n) = -3 := by
          unfold aWaysM
          rw [if_pos hx, if_neg hy, hcc, hf]
        rw [hf] at hk
        rw [e]
        refine call_of_wp (by decide) (Nat.le_of_ble_eq_true rfl) ?_
        refine wp_iload_n (pc := 0) (i := 1) dX6_ways_0 rfl rfl ?_
        first | (refine wp_i2lN (pc := 1) dX6_ways_1 (by first | with_reducible assumption | omega) ?_) | (refine wp_i2l (pc := 1) dX6_ways_1 ?_)
        refine wp_lconst (pc := 2) (v := lN 0) dX6_ways_2 (by decide +kernel) ?_
        refine wp_lconst (pc := 3) (v := lN 1) dX6_ways_3 (by decide +kernel) ?_
        refine wp_cSP3 (pc := 4) dX6_ways_4 lm_X6_56 m_X6_in (Nat.le_of_ble_eq_true rfl) sp_X6_in ?_
        rw [hil2]
        refine wp_if_neB (pc := 7) (tgt := 12) dX6_ways_7 (by decide) (fun c_7 => ?_) (fun c_7 => ?_)
        · refine wp_iload_n (pc := 12) (i := 2) dX6_ways_12 rfl rfl ?_
          first | (refine wp_i2lN (pc := 13) dX6_ways_13 (by first | with_reducible assumption | omega) ?_) | (refine wp_i2l (pc := 13) dX6_ways_13 ?_)
          refine wp_lconst (pc := 14) (v := lN 1) dX6_ways_14 (by decide +kernel) ?_
          refine wp_ldc2_w (pc := 15) (v := lN 3) dX6_ways_15 kl_X6_190 ?_
          refine wp_cSP3 (pc := 18) dX6_ways_18 lm_X6_56 m_X6_in (Nat.le_of_ble_eq_true rfl) sp_X6_in ?_
          rw [hin]
          refine wp_if_neB (pc := 21) (tgt := 27) dX6_ways_21 (by decide) (fun c_21 => ?_) (fun c_21 => ?_)
          · refine wp_aload_n (pc := 27) (i := 0) dX6_ways_27 rfl rfl (by first | with_reducible assumption | rfl) ?_
            refine wp_getR (pc := 28) dX6_ways_28 lf_X6_40 (by first | with_reducible assumption | rfl) (by first | with_reducible assumption | rfl) rfl (by first | with_reducible assumption | rfl) (by first | with_reducible assumption | rfl) ?_
            refine wp_iload_n (pc := 31) (i := 1) dX6_ways_31 rfl rfl ?_
            refine wp_zald (pc := 32) dX6_ways_32 (by first | with_reducible assumption | rfl) (by first | with_reducible assumption | rfl) (by first | with_reducible assumption | omega) (by first | decide | omega) ?_
            rw [hk]
            refine wp_if_neB (pc := 33) (tgt := 39) dX6_ways_33 (by decide) (fun c_33 => ?_) (fun c_33 => ?_)
            · exact Bool.noConfusion c_33
            · refine wp_bipush (pc := 36) (v := (-3)) dX6_ways_36 (by decide +kernel) ?_
              refine wp_ireturn (pc := 38) dX6_ways_38 rfl ?_
              exact am_i rfl hR
          · exact Bool.noConfusion c_21
        · exact Bool.noConfusion c_7
      | some q =>
        have e : aWaysM w h last b f (nI s) (nI n) = nI (wyM w h last q n b) := by
          unfold aWaysM
          rw [if_pos hx, if_neg hy, hcc, hcn, hf]
        rw [hf] at hk
        have hrow := (hR.2.2.2.2.2.1.1 s hs).2 q hf
        have hQ := hR.2.2.2.2.2.1.2 s q hf
        have hP : PW w h last 0 s b q I := ⟨hR.2.2.1.1, hR.2.2.1.2, hR.2.2.2.1.1, hrow⟩
        rw [e]
        have h1w := sp_X6_oneWay (d := d + 1) (k := 0) (by omega) hs hQ hl9 I J b hP hB
        have h2w := sp_X6_twoWays (d := d) (k := 0) (by omega) hs hQ hl9 I J b hP hB
        by_cases c1 : n = 1
        · subst c1
          refine call_of_wp (by decide) (Nat.le_of_ble_eq_true rfl) ?_
          refine wp_iload_n (pc := 0) (i := 1) dX6_ways_0 rfl rfl ?_
          first | (refine wp_i2lN (pc := 1) dX6_ways_1 (by first | with_reducible assumption | omega) ?_) | (refine wp_i2l (pc := 1) dX6_ways_1 ?_)
          refine wp_lconst (pc := 2) (v := lN 0) dX6_ways_2 (by decide +kernel) ?_
          refine wp_lconst (pc := 3) (v := lN 1) dX6_ways_3 (by decide +kernel) ?_
          refine wp_cSP3 (pc := 4) dX6_ways_4 lm_X6_56 m_X6_in (Nat.le_of_ble_eq_true rfl) sp_X6_in ?_
          rw [hil2]
          refine wp_if_neB (pc := 7) (tgt := 12) dX6_ways_7 (by decide) (fun c_7 => ?_) (fun c_7 => ?_)
          · refine wp_iload_n (pc := 12) (i := 2) dX6_ways_12 rfl rfl ?_
            first | (refine wp_i2lN (pc := 13) dX6_ways_13 (by first | with_reducible assumption | omega) ?_) | (refine wp_i2l (pc := 13) dX6_ways_13 ?_)
            refine wp_lconst (pc := 14) (v := lN 1) dX6_ways_14 (by decide +kernel) ?_
            refine wp_ldc2_w (pc := 15) (v := lN 3) dX6_ways_15 kl_X6_190 ?_
            refine wp_cSP3 (pc := 18) dX6_ways_18 lm_X6_56 m_X6_in (Nat.le_of_ble_eq_true rfl) sp_X6_in ?_
            rw [hin]
            refine wp_if_neB (pc := 21) (tgt := 27) dX6_ways_21 (by decide) (fun c_21 => ?_) (fun c_21 => ?_)
            · refine wp_aload_n (pc := 27) (i := 0) dX6_ways_27 rfl rfl (by first | with_reducible assumption | rfl) ?_
              refine wp_getR (pc := 28) dX6_ways_28 lf_X6_40 (by first | with_reducible assumption | rfl) (by first | with_reducible assumption | rfl) rfl (by first | with_reducible assumption | rfl) (by first | with_reducible assumption | rfl) ?_
              refine wp_iload_n (pc := 31) (i := 1) dX6_ways_31 rfl rfl ?_
              refine wp_zald (pc := 32) dX6_ways_32 (by first | with_reducible assumption | rfl) (by first | with_reducible assumption | rfl) (by first | with_reducible assumption | omega) (by first | decide | omega) ?_
              rw [hk]
              refine wp_if_neB (pc := 33) (tgt := 39) dX6_ways_33 (by decide) (fun c_33 => ?_) (fun c_33 => ?_)
              · refine wp_iload_n (pc := 39) (i := 2) dX6_ways_39 rfl rfl ?_
                refine wp_iconst (pc := 40) (v := nI 3) dX6_ways_40 (by decide +kernel) ?_
                first | (refine wp_icmp_geN (pc := 41) (tgt := 65) dX6_ways_41 (by decide) (by first | with_reducible assumption | omega) (by first | with_reducible assumption | omega) (fun c_41 => ?_) (fun c_41 => ?_)) | (refine wp_icmp_ge (pc := 41) (tgt := 65) dX6_ways_41 (by decide) (fun c_41 => ?_) (fun c_41 => ?_))
                · exact absurd c_41 (by decide)
                · refine wp_iload_n (pc := 44) (i := 2) dX6_ways_44 rfl rfl ?_
                  refine wp_iconst (pc := 45) (v := nI 1) dX6_ways_45 (by decide +kernel) ?_
                  first | (refine wp_icmp_neN (pc := 46) (tgt := 58) dX6_ways_46 (by decide) (by first | with_reducible assumption | omega) (by first | with_reducible assumption | omega) (fun c_46 => ?_) (fun c_46 => ?_)) | (refine wp_icmp_ne (pc := 46) (tgt := 58) dX6_ways_46 (by decide) (fun c_46 => ?_) (fun c_46 => ?_))
                  · exact absurd rfl c_46
                  · refine wp_aload_n (pc := 49) (i := 0) dX6_ways_49 rfl rfl (by first | with_reducible assumption | rfl) ?_
                    refine wp_iconst (pc := 50) (v := nI 0) dX6_ways_50 (by decide +kernel) ?_
                    refine wp_iload_n (pc := 51) (i := 1) dX6_ways_51 rfl rfl ?_
                    refine wp_cVI2 (pc := 52) (ci := 6) dX6_ways_52 lm_X6_187 m_X6_oneWay (by first | with_reducible assumption | rfl) (by first | with_reducible assumption | rfl) (by decide) rfl (Nat.le_of_ble_eq_true rfl) h1w (fun x_52 I_52 J_52 h_52 => ?_)
                    obtain ⟨rfl, m5, rfl⟩ := h_52
                    refine wp_goto (pc := 55) (tgt := 64) dX6_ways_55 (by decide) ?_
                    refine wp_ireturn (pc := 64) dX6_ways_64 rfl ?_
                    exact am_i rfl (RepM_fr hR (m5.mono (fun _ _ y => frW_M y)))
              · exact Bool.noConfusion c_33
            · exact Bool.noConfusion c_21
          · exact Bool.noConfusion c_7
        · by_cases c2 : n = 2
          · subst c2
            refine call_of_wp (by decide) (Nat.le_of_ble_eq_true rfl) ?_
            refine wp_iload_n (pc := 0) (i := 1) dX6_ways_0 rfl rfl ?_
            first | (refine wp_i2lN (pc := 1) dX6_ways_1 (by first | with_reducible assumption | omega) ?_) | (refine wp_i2l (pc := 1) dX6_ways_1 ?_)
            refine wp_lconst (pc := 2) (v := lN 0) dX6_ways_2 (by decide +kernel) ?_
            refine wp_lconst (pc := 3) (v := lN 1) dX6_ways_3 (by decide +kernel) ?_
            refine wp_cSP3 (pc := 4) dX6_ways_4 lm_X6_56 m_X6_in (Nat.le_of_ble_eq_true rfl) sp_X6_in ?_
            rw [hil2]
            refine wp_if_neB (pc := 7) (tgt := 12) dX6_ways_7 (by decide) (fun c_7 => ?_) (fun c_7 => ?_)
            · refine wp_iload_n (pc := 12) (i := 2) dX6_ways_12 rfl rfl ?_
              first | (refine wp_i2lN (pc := 13) dX6_ways_13 (by first | with_reducible assumption | omega) ?_) | (refine wp_i2l (pc := 13) dX6_ways_13 ?_)
              refine wp_lconst (pc := 14) (v := lN 1) dX6_ways_14 (by decide +kernel) ?_
              refine wp_ldc2_w (pc := 15) (v := lN 3) dX6_ways_15 kl_X6_190 ?_
              refine wp_cSP3 (pc := 18) dX6_ways_18 lm_X6_56 m_X6_in (Nat.le_of_ble_eq_true rfl) sp_X6_in ?_
              rw [hin]
              refine wp_if_neB (pc := 21) (tgt := 27) dX6_ways_21 (by decide) (fun c_21 => ?_) (fun c_21 => ?_)
              · refine wp_aload_n (pc := 27) (i := 0) dX6_ways_27 rfl rfl (by first | with_reducible assumption | rfl) ?_
                refine wp_getR (pc := 28) dX6_ways_28 lf_X6_40 (by first | with_reducible assumption | rfl) (by first | with_reducible assumption | rfl) rfl (by first | with_reducible assumption | rfl) (by first | with_reducible assumption | rfl) ?_
                refine wp_iload_n (pc := 31) (i := 1) dX6_ways_31 rfl rfl ?_
                refine wp_zald (pc := 32) dX6_ways_32 (by first | with_reducible assumption | rfl) (by first | with_reducible assumption | rfl) (by first | with_reducible assumption | omega) (by first | decide | omega) ?_
                rw [hk]
                refine wp_if_neB (pc := 33) (tgt := 39) dX6_ways_33 (by decide) (fun c_33 => ?_) (fun c_33 => ?_)
                · refine wp_iload_n (pc := 39) (i := 2) dX6_ways_39 rfl rfl ?_
                  refine wp_iconst (pc := 40) (v := nI 3) dX6_ways_40 (by decide +kernel) ?_
                  first | (refine wp_icmp_geN (pc := 41) (tgt := 65) dX6_ways_41 (by decide) (by first | with_reducible assumption | omega) (by first | with_reducible assumption | omega) (fun c_41 => ?_) (fun c_41 => ?_)) | (refine wp_icmp_ge (pc := 41) (tgt := 65) dX6_ways_41 (by decide) (fun c_41 => ?_) (fun c_41 => ?_))
                  · exact absurd c_41 (by decide)
                  · refine wp_iload_n (pc := 44) (i := 2) dX6_ways_44 rfl rfl ?_
                    refine wp_iconst (pc := 45) (v := nI 1) dX6_ways_45 (by decide +kernel) ?_
                    first | (refine wp_icmp_neN (pc := 46) (tgt := 58) dX6_ways_46 (by decide) (by first | with_reducible assumption | omega) (by first | with_reducible assumption | omega) (fun c_46 => ?_) (fun c_46 => ?_)) | (refine wp_icmp_ne (pc := 46) (tgt := 58) dX6_ways_46 (by decide) (fun c_46 => ?_) (fun c_46 => ?_))
                    · refine wp_aload_n (pc := 58) (i := 0) dX6_ways_58 rfl rfl (by first | with_reducible assumption | rfl) ?_
                      refine wp_iconst (pc := 59) (v := nI 0) dX6_ways_59 (by decide +kernel) ?_
                      refine wp_iload_n (pc := 60) (i := 1) dX6_ways_60 rfl rfl ?_
                      refine wp_cVI2 (pc := 61) (ci := 6) dX6_ways_61 lm_X6_192 m_X6_twoWays (by first | with_reducible assumption | rfl) (by first | with_reducible assumption | rfl) (by decide) rfl (Nat.le_of_ble_eq_true rfl) h2w (fun x_61 I_61 J_61 h_61 => ?_)
                      obtain ⟨rfl, m5, rfl⟩ := h_61
                      refine wp_ireturn (pc := 64) dX6_ways_64 rfl ?_
                      exact am_i rfl (RepM_fr hR (m5.mono (fun _ _ y => frW_M y)))
                    · exact absurd c_46 (by decide)
                · exact Bool.noConfusion c_33
              · exact Bool.noConfusion c_21
            · exact Bool.noConfusion c_7
          · obtain rfl : n = 3 := by omega
            clear h1w h2w
            have loop : ∀ m j (I2 : MemI), m + j = (PLY w h b).length → FI (frW 0) I I2 → (∀ j, j < (PLY w h b).length → I2 6 (256 * 0 + j) = nI (encM ((PLY w h b).getD j 0))) → WP ΩM (d + 9) kX6_ways 77 [(0, .ref 0), (1, .int (nI s)), (2, .int (nI 3)), (3, .int (nI (PLY w h b).length)), (4, .int (nI (((PLY w h b).take j).map (fun x => wyM w h last q 2 (mkB last b x))).sum)), (5, .int (nI j))] [] I2 J (AM (nI (wyM w h last q 3 b)) (t, (w, h, last), b, ps, f, z)) := by
              intro m
              induction m with
              | zero =>
                intro j I2 hj hfr h6
                have hj' : j = (PLY w h b).length := (Nat.zero_add j).symm.trans hj
                rw [hj', List.take_length]
                refine wp_iload (pc := 77) dX6_ways_77 rfl ?_
                refine wp_iload_n (pc := 79) (i := 3) dX6_ways_79 rfl rfl ?_
                first | (refine wp_icmp_geN (pc := 80) (tgt := 114) dX6_ways_80 (by decide) (by first | with_reducible assumption | omega) (by first | with_reducible assumption | omega) (fun c_80 => ?_) (fun c_80 => ?_)) | (refine wp_icmp_ge (pc := 80) (tgt := 114) dX6_ways_80 (by decide) (fun c_80 => ?_) (fun c_80 => ?_))
                · refine wp_iload (pc := 114) dX6_ways_114 rfl ?_
                  refine wp_ireturn (pc := 116) dX6_ways_116 rfl ?_
                  exact am_i rfl (RepM_fr hR (hfr.mono (fun _ _ y => frW_M y)))
                · exact absurd (Nat.le_refl _) c_80
              | succ m ih =>
                intro j I2 hj hfr h6
                have hjl : j < (PLY w h b).length := by omega
                have hP2 := PW_fr (by omega) hP hfr
                have hl := (PLY_mem hB.1 (PLY_get hjl)).1
                have hok := PLY_ok hB (PLY_get hjl)
                have hlg := okP_leg hok
                have hB2 := Bok_mk hB hlg.1 hlg.2 hl9
                have hmk := sp_X6_make (d := d + 5) (J := J) hP2.1 hP2.2.1 hP2.2.2.1 hB hl hok (show 0 < 4 by omega) (show 1 < 4 by omega)
                have h6j := h6 j hjl
                rw [Nat.mul_zero, Nat.zero_add] at h6j
                have h0 := fun I4 => ih (j + 1) I4 (by omega)
                rw [sum_take (l := PLY w h b) (f := fun x => wyM w h last q 2 (mkB last b x)) hjl] at h0
                clear ih
                generalize (PLY w h b).getD j 0 = x at *
                refine wp_iload (pc := 77) dX6_ways_77 rfl ?_
                refine wp_iload_n (pc := 79) (i := 3) dX6_ways_79 rfl rfl ?_
                first | (refine wp_icmp_geN (pc := 80) (tgt := 114) dX6_ways_80 (by decide) (by first | with_reducible assumption | omega) (by first | with_reducible assumption | omega) (fun c_80 => ?_) (fun c_80 => ?_)) | (refine wp_icmp_ge (pc := 80) (tgt := 114) dX6_ways_80 (by decide) (fun c_80 => ?_) (fun c_80 => ?_))
                · exact absurd c_80 (by omega)
                · refine wp_aload_n (pc := 83) (i := 0) dX6_ways_83 rfl rfl (by first | with_reducible assumption | rfl) ?_
                  refine wp_iconst (pc := 84) (v := nI 0) dX6_ways_84 (by decide +kernel) ?_
                  refine wp_iconst (pc := 85) (v := nI 1) dX6_ways_85 (by decide +kernel) ?_
                  refine wp_aload_n (pc := 86) (i := 0) dX6_ways_86 rfl rfl (by first | with_reducible assumption | rfl) ?_
                  refine wp_getR (pc := 87) dX6_ways_87 lf_X6_25 (by first | with_reducible assumption | rfl) (by first | with_reducible assumption | rfl) rfl (by first | with_reducible assumption | rfl) (by first | with_reducible assumption | rfl) ?_
                  refine wp_iload (pc := 90) dX6_ways_90 rfl ?_
                  refine wp_iald (pc := 92) dX6_ways_92 (by first | with_reducible assumption | rfl) (by first | with_reducible assumption | rfl) (by first | with_reducible assumption | omega) (by first | decide | omega) ?_
                  rw [h6j]
                  refine wp_cVI3 (pc := 93) (ci := 6) dX6_ways_93 lm_X6_143 m_X6_make (by first | with_reducible assumption | rfl) (by first | with_reducible assumption | rfl) (by decide) rfl (Nat.le_of_ble_eq_true rfl) hmk (fun x_93 I_93 J_93 h_93 => ?_)
                  obtain ⟨-, m2, m3, rfl⟩ := h_93
                  have hP3 := PW_fr (by omega) hP2 (FM_W m3)
                  have how := sp_X6_twoWays (d := d) (k := 1) (by omega) hs hQ hl9 I_93 J_93 (mkB last b x) ⟨hP3.1, hP3.2.1, m2, hP3.2.2.2⟩ hB2
                  refine wp_pop (pc := 96) dX6_ways_96 rfl ?_
                  refine wp_iload (pc := 97) dX6_ways_97 rfl ?_
                  refine wp_aload_n (pc := 99) (i := 0) dX6_ways_99 rfl rfl (by first | with_reducible assumption | rfl) ?_
                  refine wp_iconst (pc := 100) (v := nI 1) dX6_ways_100 (by decide +kernel) ?_
                  refine wp_iload_n (pc := 101) (i := 1) dX6_ways_101 rfl rfl ?_
                  refine wp_cVI2 (pc := 102) (ci := 6) dX6_ways_102 lm_X6_192 m_X6_twoWays (by first | with_reducible assumption | rfl) (by first | with_reducible assumption | rfl) (by decide) rfl (Nat.le_of_ble_eq_true rfl) how (fun x_102 I_102 J_102 h_102 => ?_)
                  obtain ⟨rfl, m5, rfl⟩ := h_102
                  first | (refine wp_iaddN (pc := 105) dX6_ways_105 ?_) | (refine wp_iadd (pc := 105) dX6_ways_105 ?_)
                  refine wp_istore (pc := 106) dX6_ways_106 (by decide) ?_
                  first | (refine wp_iincN (pc := 108) (m := 1) dX6_ways_108 rfl rfl (by decide) ?_) | (refine wp_iinc (pc := 108) dX6_ways_108 rfl rfl (by decide) ?_)
                  refine wp_goto (pc := 111) (tgt := 77) dX6_ways_111 (by decide) ?_
                  exact h0 _ ((hfr.trans (FM_W m3)).trans (m5.mono (fun _ _ y => frW_s y))) (fun i hi => (m5 6 (256 * 0 + i) (by unfold frW; omega)).trans ((m3 6 (256 * 0 + i) (by omega) (by omega)).trans (h6 i hi)))
            have hli := sp_X6_list (d := d + 2) (J := J) hP.1 hP.2.2.1 hB (show 0 < 4 by omega)
            refine call_of_wp (by decide) (Nat.le_of_ble_eq_true rfl) ?_
            refine wp_iload_n (pc := 0) (i := 1) dX6_ways_0 rfl rfl ?_
            first | (refine wp_i2lN (pc := 1) dX6_ways_1 (by first | with_reducible assumption | omega) ?_) | (refine wp_i2l (pc := 1) dX6_ways_1 ?_)
            refine wp_lconst (pc := 2) (v := lN 0) dX6_ways_2 (by decide +kernel) ?_
            refine wp_lconst (pc := 3) (v := lN 1) dX6_ways_3 (by decide +kernel) ?_
            refine wp_cSP3 (pc := 4) dX6_ways_4 lm_X6_56 m_X6_in (Nat.le_of_ble_eq_true rfl) sp_X6_in ?_
            rw [hil2]
            refine wp_if_neB (pc := 7) (tgt := 12) dX6_ways_7 (by decide) (fun c_7 => ?_) (fun c_7 => ?_)
            · refine wp_iload_n (pc := 12) (i := 2) dX6_ways_12 rfl rfl ?_
              first | (refine wp_i2lN (pc := 13) dX6_ways_13 (by first | with_reducible assumption | omega) ?_) | (refine wp_i2l (pc := 13) dX6_ways_13 ?_)
              refine wp_lconst (pc := 14) (v := lN 1) dX6_ways_14 (by decide +kernel) ?_
              refine wp_ldc2_w (pc := 15) (v := lN 3) dX6_ways_15 kl_X6_190 ?_
              refine wp_cSP3 (pc := 18) dX6_ways_18 lm_X6_56 m_X6_in (Nat.le_of_ble_eq_true rfl) sp_X6_in ?_
              rw [hin]
              refine wp_if_neB (pc := 21) (tgt := 27) dX6_ways_21 (by decide) (fun c_21 => ?_) (fun c_21 => ?_)
              · refine wp_aload_n (pc := 27) (i := 0) dX6_ways_27 rfl rfl (by first | with_reducible assumption | rfl) ?_
                refine wp_getR (pc := 28) dX6_ways_28 lf_X6_40 (by first | with_reducible assumption | rfl) (by first | with_reducible assumption | rfl) rfl (by first | with_reducible assumption | rfl) (by first | with_reducible assumption | rfl) ?_
                refine wp_iload_n (pc := 31) (i := 1) dX6_ways_31 rfl rfl ?_
                refine wp_zald (pc := 32) dX6_ways_32 (by first | with_reducible assumption | rfl) (by first | with_reducible assumption | rfl) (by first | with_reducible assumption | omega) (by first | decide | omega) ?_
                rw [hk]
                refine wp_if_neB (pc := 33) (tgt := 39) dX6_ways_33 (by decide) (fun c_33 => ?_) (fun c_33 => ?_)
                · refine wp_iload_n (pc := 39) (i := 2) dX6_ways_39 rfl rfl ?_
                  refine wp_iconst (pc := 40) (v := nI 3) dX6_ways_40 (by decide +kernel) ?_
                  first | (refine wp_icmp_geN (pc := 41) (tgt := 65) dX6_ways_41 (by decide) (by first | with_reducible assumption | omega) (by first | with_reducible assumption | omega) (fun c_41 => ?_) (fun c_41 => ?_)) | (refine wp_icmp_ge (pc := 41) (tgt := 65) dX6_ways_41 (by decide) (fun c_41 => ?_) (fun c_41 => ?_))
                  · refine wp_aload_n (pc := 65) (i := 0) dX6_ways_65 rfl rfl (by first | with_reducible assumption | rfl) ?_
                    refine wp_iconst (pc := 66) (v := nI 0) dX6_ways_66 (by decide +kernel) ?_
                    refine wp_cVI1 (pc := 67) (ci := 6) dX6_ways_67 lm_X6_130 m_X6_list (by first | with_reducible assumption | rfl) (by first | with_reducible assumption | rfl) (by decide) rfl (Nat.le_of_ble_eq_true rfl) hli (fun x_67 I_67 J_67 h_67 => ?_)
                    obtain ⟨rfl, q1, q2, rfl⟩ := h_67
                    refine wp_istore_n (pc := 70) (i := 3) dX6_ways_70 rfl (by decide) ?_
                    refine wp_iconst (pc := 71) (v := nI 0) dX6_ways_71 (by decide +kernel) ?_
                    refine wp_istore (pc := 72) dX6_ways_72 (by decide) ?_
                    refine wp_iconst (pc := 74) (v := nI 0) dX6_ways_74 (by decide +kernel) ?_
                    refine wp_istore (pc := 75) dX6_ways_75 (by decide) ?_
                    exact loop (PLY w h b).length 0 _ rfl (LsT_W q1) q1.1
                  · exact absurd (Nat.le_refl 3) c_41
                · exact Bool.noConfusion c_33
              · exact Bool.noConfusion c_21
            · exact Bool.noConfusion c_7
end MW2
