/-! THE REFERENCE'S CALLS, 12: comesAt, shut -/
section MS2
variable {d : Nat} {I : MemI} {J : MemJ} {t : List Nat} {w h last : Nat} {b : Bd} {ps : List Bd} {f : Nat → Option Bd} {z : Int64}
theorem foe_iff {g : Nat → Nat} {c o : Nat} : foe g c o = true ↔ 2 ≤ g c ∧ menP g (1 - sd (g c)) o = true := by
  unfold foe
  rw [Bool.and_eq_true, decide_eq_true_iff]
set_option maxHeartbeats 16000000 in
theorem sp_X6_comesAt {x y : Int32} (hR : RepM t w h last b ps f z I J) : CALL ΩM (d + 7) kX6_comesAt [.ref 0, .int x, .int y] I J (AM (aComesAt w h b x y) (t, (w, h, last), b, ps, f, z)) := by
  have hwh := RepM_16 hR
  have hW := hR.2.2.1.1
  cases hx : inB x (w * h)
  · have e : aComesAt w h b x y = -1 := if_neg (by rw [hx]; exact Bool.false_ne_true)
    rw [e]
    refine call_of_wp (by decide) (Nat.le_of_ble_eq_true rfl) ?_
    refine wp_aload_n (pc := 0) (i := 0) dX6_comesAt_0 rfl rfl (by first | with_reducible assumption | rfl) ?_
    refine wp_iload_n (pc := 1) (i := 1) dX6_comesAt_1 rfl rfl ?_
    refine wp_cVP1 (pc := 2) (ci := 6) dX6_comesAt_2 lm_X6_94 m_X6_isCell (by first | with_reducible assumption | rfl) (by first | with_reducible assumption | rfl) (by decide) rfl (Nat.le_of_ble_eq_true rfl) (sp_X6_isCell (d := d + 5) hW) ?_
    rw [hx]
    refine wp_if_eqB (pc := 5) (tgt := 16) dX6_comesAt_5 (by decide) (fun c_5 => ?_) (fun c_5 => ?_)
    · refine wp_iconst (pc := 16) (v := (-1)) dX6_comesAt_16 (by decide +kernel) ?_
      refine wp_ireturn (pc := 17) dX6_comesAt_17 rfl ?_
      exact am_i rfl hR
    · exact Bool.noConfusion c_5
  · cases hy : inB y (w * h)
    · have e : aComesAt w h b x y = -1 := if_neg (by rw [hx, hy]; exact Bool.false_ne_true)
      rw [e]
      refine call_of_wp (by decide) (Nat.le_of_ble_eq_true rfl) ?_
      refine wp_aload_n (pc := 0) (i := 0) dX6_comesAt_0 rfl rfl (by first | with_reducible assumption | rfl) ?_
      refine wp_iload_n (pc := 1) (i := 1) dX6_comesAt_1 rfl rfl ?_
      refine wp_cVP1 (pc := 2) (ci := 6) dX6_comesAt_2 lm_X6_94 m_X6_isCell (by first | with_reducible assumption | rfl) (by first | with_reducible assumption | rfl) (by decide) rfl (Nat.le_of_ble_eq_true rfl) (sp_X6_isCell (d := d + 5) hW) ?_
      rw [hx]
      refine wp_if_eqB (pc := 5) (tgt := 16) dX6_comesAt_5 (by decide) (fun c_5 => ?_) (fun c_5 => ?_)
      · exact Bool.noConfusion c_5
      · refine wp_aload_n (pc := 8) (i := 0) dX6_comesAt_8 rfl rfl (by first | with_reducible assumption | rfl) ?_
        refine wp_iload_n (pc := 9) (i := 2) dX6_comesAt_9 rfl rfl ?_
        refine wp_cVP1 (pc := 10) (ci := 6) dX6_comesAt_10 lm_X6_94 m_X6_isCell (by first | with_reducible assumption | rfl) (by first | with_reducible assumption | rfl) (by decide) rfl (Nat.le_of_ble_eq_true rfl) (sp_X6_isCell (d := d + 5) hW) ?_
        rw [hy]
        refine wp_if_neB (pc := 13) (tgt := 18) dX6_comesAt_13 (by decide) (fun c_13 => ?_) (fun c_13 => ?_)
        · exact Bool.noConfusion c_13
        · refine wp_iconst (pc := 16) (v := (-1)) dX6_comesAt_16 (by decide +kernel) ?_
          refine wp_ireturn (pc := 17) dX6_comesAt_17 rfl ?_
          exact am_i rfl hR
    · obtain ⟨c, hc, rfl⟩ := inB_t (by omega) hx
      obtain ⟨o, ho, rfl⟩ := inB_t (by omega) hy
      have eA : aComesAt w h b (nI c) (nI o) = if 2 ≤ b.1 c ∧ menP b.1 (1 - sd (b.1 c)) o = true then bI (ccB w h b.1 (fun i => decide (i = c)) (fun i => decide (i = o))) else -3 := by
        unfold aComesAt
        rw [if_pos (by rw [hx, hy]; rfl), cI_n (by omega), cI_n (by omega)]
      have hfo := sp_X6_areFoes (d := d + 5) hR hc ho
      cases hv : foe b.1 c o
      · have e : aComesAt w h b (nI c) (nI o) = -3 := by rw [eA, if_neg (fun k => by rw [foe_iff.mpr k] at hv; cases hv)]
        rw [hv] at hfo
        rw [e]
        refine call_of_wp (by decide) (Nat.le_of_ble_eq_true rfl) ?_
        refine wp_aload_n (pc := 0) (i := 0) dX6_comesAt_0 rfl rfl (by first | with_reducible assumption | rfl) ?_
        refine wp_iload_n (pc := 1) (i := 1) dX6_comesAt_1 rfl rfl ?_
        refine wp_cVP1 (pc := 2) (ci := 6) dX6_comesAt_2 lm_X6_94 m_X6_isCell (by first | with_reducible assumption | rfl) (by first | with_reducible assumption | rfl) (by decide) rfl (Nat.le_of_ble_eq_true rfl) (sp_X6_isCell (d := d + 5) hW) ?_
        rw [hx]
        refine wp_if_eqB (pc := 5) (tgt := 16) dX6_comesAt_5 (by decide) (fun c_5 => ?_) (fun c_5 => ?_)
        · exact Bool.noConfusion c_5
        · refine wp_aload_n (pc := 8) (i := 0) dX6_comesAt_8 rfl rfl (by first | with_reducible assumption | rfl) ?_
          refine wp_iload_n (pc := 9) (i := 2) dX6_comesAt_9 rfl rfl ?_
          refine wp_cVP1 (pc := 10) (ci := 6) dX6_comesAt_10 lm_X6_94 m_X6_isCell (by first | with_reducible assumption | rfl) (by first | with_reducible assumption | rfl) (by decide) rfl (Nat.le_of_ble_eq_true rfl) (sp_X6_isCell (d := d + 5) hW) ?_
          rw [hy]
          refine wp_if_neB (pc := 13) (tgt := 18) dX6_comesAt_13 (by decide) (fun c_13 => ?_) (fun c_13 => ?_)
          · refine wp_aload_n (pc := 18) (i := 0) dX6_comesAt_18 rfl rfl (by first | with_reducible assumption | rfl) ?_
            refine wp_iload_n (pc := 19) (i := 1) dX6_comesAt_19 rfl rfl ?_
            refine wp_iload_n (pc := 20) (i := 2) dX6_comesAt_20 rfl rfl ?_
            refine wp_cVP2 (pc := 21) (ci := 6) dX6_comesAt_21 lm_X6_178 m_X6_areFoes (by first | with_reducible assumption | rfl) (by first | with_reducible assumption | rfl) (by decide) rfl (Nat.le_of_ble_eq_true rfl) hfo ?_
            refine wp_if_neB (pc := 24) (tgt := 32) dX6_comesAt_24 (by decide) (fun c_24 => ?_) (fun c_24 => ?_)
            · exact Bool.noConfusion c_24
            · refine wp_bipush (pc := 27) (v := (-3)) dX6_comesAt_27 (by decide +kernel) ?_
              refine wp_goto (pc := 29) (tgt := 46) dX6_comesAt_29 (by decide) ?_
              refine wp_ireturn (pc := 46) dX6_comesAt_46 rfl ?_
              exact am_i rfl hR
          · exact Bool.noConfusion c_13
      · have e : aComesAt w h b (nI c) (nI o) = bI (ccM w h b.1 c o) := by rw [eA, if_pos (foe_iff.mp hv), ccB_one hc ho]
        have hcc := sp_X6_canComeAt (d := d) hR hc ho hv
        rw [hv] at hfo
        rw [e]
        generalize ccM w h b.1 c o = v at hcc ⊢
        refine call_of_wp (by decide) (Nat.le_of_ble_eq_true rfl) ?_
        refine wp_aload_n (pc := 0) (i := 0) dX6_comesAt_0 rfl rfl (by first | with_reducible assumption | rfl) ?_
        refine wp_iload_n (pc := 1) (i := 1) dX6_comesAt_1 rfl rfl ?_
        refine wp_cVP1 (pc := 2) (ci := 6) dX6_comesAt_2 lm_X6_94 m_X6_isCell (by first | with_reducible assumption | rfl) (by first | with_reducible assumption | rfl) (by decide) rfl (Nat.le_of_ble_eq_true rfl) (sp_X6_isCell (d := d + 5) hW) ?_
        rw [hx]
        refine wp_if_eqB (pc := 5) (tgt := 16) dX6_comesAt_5 (by decide) (fun c_5 => ?_) (fun c_5 => ?_)
        · exact Bool.noConfusion c_5
        · refine wp_aload_n (pc := 8) (i := 0) dX6_comesAt_8 rfl rfl (by first | with_reducible assumption | rfl) ?_
          refine wp_iload_n (pc := 9) (i := 2) dX6_comesAt_9 rfl rfl ?_
          refine wp_cVP1 (pc := 10) (ci := 6) dX6_comesAt_10 lm_X6_94 m_X6_isCell (by first | with_reducible assumption | rfl) (by first | with_reducible assumption | rfl) (by decide) rfl (Nat.le_of_ble_eq_true rfl) (sp_X6_isCell (d := d + 5) hW) ?_
          rw [hy]
          refine wp_if_neB (pc := 13) (tgt := 18) dX6_comesAt_13 (by decide) (fun c_13 => ?_) (fun c_13 => ?_)
          · refine wp_aload_n (pc := 18) (i := 0) dX6_comesAt_18 rfl rfl (by first | with_reducible assumption | rfl) ?_
            refine wp_iload_n (pc := 19) (i := 1) dX6_comesAt_19 rfl rfl ?_
            refine wp_iload_n (pc := 20) (i := 2) dX6_comesAt_20 rfl rfl ?_
            refine wp_cVP2 (pc := 21) (ci := 6) dX6_comesAt_21 lm_X6_178 m_X6_areFoes (by first | with_reducible assumption | rfl) (by first | with_reducible assumption | rfl) (by decide) rfl (Nat.le_of_ble_eq_true rfl) hfo ?_
            refine wp_if_neB (pc := 24) (tgt := 32) dX6_comesAt_24 (by decide) (fun c_24 => ?_) (fun c_24 => ?_)
            · refine wp_aload_n (pc := 32) (i := 0) dX6_comesAt_32 rfl rfl (by first | with_reducible assumption | rfl) ?_
              refine wp_iload_n (pc := 33) (i := 1) dX6_comesAt_33 rfl rfl ?_
              refine wp_iload_n (pc := 34) (i := 2) dX6_comesAt_34 rfl rfl ?_
              refine wp_cVP2 (pc := 35) (ci := 6) dX6_comesAt_35 lm_X6_181 m_X6_canComeAt (by first | with_reducible assumption | rfl) (by first | with_reducible assumption | rfl) (by decide) rfl (Nat.le_of_ble_eq_true rfl) hcc ?_
              refine wp_if_eqB (pc := 38) (tgt := 45) dX6_comesAt_38 (by decide) (fun c_38 => ?_) (fun c_38 => ?_)
              · refine wp_iconst (pc := 45) (v := nI 0) dX6_comesAt_45 (by decide +kernel) ?_
                refine wp_ireturn (pc := 46) dX6_comesAt_46 rfl ?_
                first | (have g : v = true := c_38; exact am_i (by rw [g]; rfl) hR) | (have g : v = false := c_38; exact am_i (by rw [g]; rfl) hR)
              · refine wp_iconst (pc := 41) (v := nI 1) dX6_comesAt_41 (by decide +kernel) ?_
                refine wp_goto (pc := 42) (tgt := 46) dX6_comesAt_42 (by decide) ?_
                refine wp_ireturn (pc := 46) dX6_comesAt_46 rfl ?_
                first | (have g : v = true := c_38; exact am_i (by rw [g]; rfl) hR) | (have g : v = false := c_38; exact am_i (by rw [g]; rfl) hR)
            · exact Bool.noConfusion c_24
          · exact Bool.noConfusion c_13
noncomputable def shP (w h : Nat) (g : Nat → Nat) (c o : Nat) : Bool := foe g c o && ccM w h g c o
noncomputable def shQ (w h : Nat) (g : Nat → Nat) (c : Nat) : Bool := anK (shP w h g c) (w * h)
theorem anK_no {q : Nat → Bool} {n : Nat} (h : ∀ i, i < n → q i = false) : anK q n = false := by
  rw [Bool.eq_false_iff]
  intro k
  obtain ⟨i, hi, h2⟩ := (anK_iff _).mp k
  rw [h i hi] at h2; cases h2
set_option maxHeartbeats 16000000 in
theorem sp_X6_shut (hR : RepM t w h last b ps f z I J) : CALL ΩM (d + 7) kX6_shut [.ref 0] I J (AM (aShut w h b) (t, (w, h, last), b, ps, f, z)) := by
  have hW := hR.2.2.1.1
  have n16 := (WH_n hW).2
  have e0 := hW.2.1
  have e1 := hW.2.2
  have eA : aShut w h b = bI (!anK (shQ w h b.1) (w * h)) := by
    unfold aShut
    rw [shut_iff]
    rfl
  rw [eA]
  have outer : ∀ m c, m + c = w * h → (∀ i, i < c → shQ w h b.1 i = false) → WP ΩM (d + 7) kX6_shut 2 [(0, .ref 0), (1, .int (nI c))] [] I J (AM (bI (!anK (shQ w h b.1) (w * h))) (t, (w, h, last), b, ps, f, z)) := by
    intro m
    induction m with
    | zero =>
      intro c hc hall
      have hc' : c = w * h := (Nat.zero_add c).symm.trans hc
      rw [hc'] at hall
      rw [anK_no hall, hc']
      refine wp_iload_n (pc := 2) (i := 1) dX6_shut_2 rfl rfl ?_
      refine wp_aload_n (pc := 3) (i := 0) dX6_shut_3 rfl rfl (by first | with_reducible assumption | rfl) ?_
      refine wp_getI (pc := 4) dX6_shut_4 lf_X6_47 (by first | with_reducible assumption | rfl) (by first | with_reducible assumption | rfl) rfl ?_
      rw [e0]
      refine wp_aload_n (pc := 7) (i := 0) dX6_shut_7 rfl rfl (by first | with_reducible assumption | rfl) ?_
      refine wp_getI (pc := 8) dX6_shut_8 lf_X6_51 (by first | with_reducible assumption | rfl) (by first | with_reducible assumption | rfl) rfl ?_
      rw [e1]
      first | (refine wp_imulN (pc := 11) dX6_shut_11 ?_) | (refine wp_imul (pc := 11) dX6_shut_11 ?_)
      first | (refine wp_icmp_geN (pc := 12) (tgt := 62) dX6_shut_12 (by decide) (by first | with_reducible assumption | omega) (by first | with_reducible assumption | omega) (fun c_12 => ?_) (fun c_12 => ?_)) | (refine wp_icmp_ge (pc := 12) (tgt := 62) dX6_shut_12 (by decide) (fun c_12 => ?_) (fun c_12 => ?_))
      · refine wp_iconst (pc := 62) (v := nI 1) dX6_shut_62 (by decide +kernel) ?_
        refine wp_ireturn (pc := 63) dX6_shut_63 rfl ?_
        exact am_i rfl hR
      · exact absurd (Nat.le_refl _) c_12
    | succ m ih =>
      intro c hc hall
      have hcn : c < w * h := by omega
      have inner : ∀ m2 o, m2 + o = w * h → (∀ j, j < o → shP w h b.1 c j = false) → WP ΩM (d + 7) kX6_shut 17 [(0, .ref 0), (1, .int (nI c)), (2, .int (nI o))] [] I J (AM (bI (!anK (shQ w h b.1) (w * h))) (t, (w, h, last), b, ps, f, z)) := by
        intro m2
        induction m2 with
        | zero =>
          intro o ho hal2
          have ho' : o = w * h := (Nat.zero_add o).symm.trans ho
          rw [ho'] at hal2
          have h0 := ih (c + 1) (by omega) (fun i hi => by
            rcases Nat.lt_succ_iff_lt_or_eq.mp hi with k | k
            · exact hall i k
            · rw [k]; exact anK_no hal2)
          clear ih
          rw [ho']
          refine wp_iload_n (pc := 17) (i := 2) dX6_shut_17 rfl rfl ?_
          refine wp_aload_n (pc := 18) (i := 0) dX6_shut_18 rfl rfl (by first | with_reducible assumption | rfl) ?_
          refine wp_getI (pc := 19) dX6_shut_19 lf_X6_47 (by first | with_reducible assumption | rfl) (by first | with_reducible assumption | rfl) rfl ?_
          rw [e0]
          refine wp_aload_n (pc := 22) (i := 0) dX6_shut_22 rfl rfl (by first | with_reducible assumption | rfl) ?_
          refine wp_getI (pc := 23) dX6_shut_23 lf_X6_51 (by first | with_reducible assumption | rfl) (by first | with_reducible assumption | rfl) rfl ?_
          rw [e1]
          first | (refine wp_imulN (pc := 26) dX6_shut_26 ?_) | (refine wp_imul (pc := 26) dX6_shut_26 ?_)
          first | (refine wp_icmp_geN (pc := 27) (tgt := 56) dX6_shut_27 (by decide) (by first | with_reducible assumption | omega) (by first | with_reducible assumption | omega) (fun c_27 => ?_) (fun c_27 => ?_)) | (refine wp_icmp_ge (pc := 27) (tgt := 56) dX6_shut_27 (by decide) (fun c_27 => ?_) (fun c_27 => ?_))
          · first | (refine wp_iincN (pc := 56) (m := 1) dX6_shut_56 rfl rfl (by decide) ?_) | (refine wp_iinc (pc := 56) dX6_shut_56 rfl rfl (by decide) ?_)
            refine wp_goto (pc := 59) (tgt := 2) dX6_shut_59 (by decide) ?_
            refine wp_drop 2 ?_
            exact h0
          · exact absurd (Nat.le_refl _) c_27
        | succ m2 ih2 =>
          intro o ho hal2
          have hon : o < w * h := by omega
          have hfo := sp_X6_areFoes (d := d + 5) hR hcn hon
          have h0 := fun (hv : shP w h b.1 c o = false) => ih2 (o + 1) (by omega) (fun j hj => by
            rcases Nat.lt_succ_iff_lt_or_eq.mp hj with k | k
            · exact hal2 j k
            · rw [k]; exact hv)
          clear ih ih2
          cases hv : foe b.1 c o
          · have h1 := h0 (by unfold shP; rw [hv]; rfl)
            rw [hv] at hfo
            refine wp_iload_n (pc := 17) (i := 2) dX6_shut_17 rfl rfl ?_
            refine wp_aload_n (pc := 18) (i := 0) dX6_shut_18 rfl rfl (by first | with_reducible assumption | rfl) ?_
            refine wp_getI (pc := 19) dX6_shut_19 lf_X6_47 (by first | with_reducible assumption | rfl) (by first | with_reducible assumption | rfl) rfl ?_
            rw [e0]
            refine wp_aload_n (pc := 22) (i := 0) dX6_shut_22 rfl rfl (by first | with_reducible assumption | rfl) ?_
            refine wp_getI (pc := 23) dX6_shut_23 lf_X6_51 (by first | with_reducible assumption | rfl) (by first | with_reducible assumption | rfl) rfl ?_
            rw [e1]
            first | (refine wp_imulN (pc := 26) dX6_shut_26 ?_) | (refine wp_imul (pc := 26) dX6_shut_26 ?_)
            first | (refine wp_icmp_geN (pc := 27) (tgt := 56) dX6_shut_27 (by decide) (by first | with_reducible assumption | omega) (by first | with_reducible assumption | omega) (fun c_27 => ?_) (fun c_27 => ?_)) | (refine wp_icmp_ge (pc := 27) (tgt := 56) dX6_shut_27 (by decide) (fun c_27 => ?_) (fun c_27 => ?_))
            · exact absurd c_27 (by omega)
            · refine wp_aload_n (pc := 30) (i := 0) dX6_shut_30 rfl rfl (by first | with_reducible assumption | rfl) ?_
              refine wp_iload_n (pc := 31) (i := 1) dX6_shut_31 rfl rfl ?_
              refine wp_iload_n (pc := 32) (i := 2) dX6_shut_32 rfl rfl ?_
              refine wp_cVP2 (pc := 33) (ci := 6) dX6_shut_33 lm_X6_178 m_X6_areFoes (by first | with_reducible assumption | rfl) (by first | with_reducible assumption | rfl) (by decide) rfl (Nat.le_of_ble_eq_true rfl) hfo ?_
              refine wp_if_eqB (pc := 36) (tgt := 50) dX6_shut_36 (by decide) (fun c_36 => ?_) (fun c_36 => ?_)
              · first | (refine wp_iincN (pc := 50) (m := 1) dX6_shut_50 rfl rfl (by decide) ?_) | (refine wp_iinc (pc := 50) dX6_shut_50 rfl rfl (by decide) ?_)
                refine wp_goto (pc := 53) (tgt := 17) dX6_shut_53 (by decide) ?_
                exact h1
              · exact Bool.noConfusion c_36
          · have hcc := sp_X6_canComeAt (d := d) hR hcn hon hv
            rw [hv] at hfo
            cases hm : ccM w h b.1 c o
            · have h1 := h0 (by unfold shP; rw [hm, Bool.and_false])
              rw [hm] at hcc
              refine wp_iload_n (pc := 17) (i := 2) dX6_shut_17 rfl rfl ?_
              refine wp_aload_n (pc := 18) (i := 0) dX6_shut_18 rfl rfl (by first | with_reducible assumption | rfl) ?_
              refine wp_getI (pc := 19) dX6_shut_19 lf_X6_47 (by first | with_reducible assumption | rfl) (by first | with_reducible assumption | rfl) rfl ?_
              rw [e0]
              refine wp_aload_n (pc := 22) (i := 0) dX6_shut_22 rfl rfl (by first | with_reducible assumption | rfl) ?_
              refine wp_getI (pc := 23) dX6_shut_23 lf_X6_51 (by first | with_reducible assumption | rfl) (by first | with_reducible assumption | rfl) rfl ?_
              rw [e1]
              first | (refine wp_imulN (pc := 26) dX6_shut_26 ?_) | (refine wp_imul (pc := 26) dX6_shut_26 ?_)
              first | (refine wp_icmp_geN (pc := 27) (tgt := 56) dX6_shut_27 (by decide) (by first | with_reducible assumption | omega) (by first | with_reducible assumption | omega) (fun c_27 => ?_) (fun c_27 => ?_)) | (refine wp_icmp_ge (pc := 27) (tgt := 56) dX6_shut_27 (by decide) (fun c_27 => ?_) (fun c_27 => ?_))
              · exact absurd c_27 (by omega)
              · refine wp_aload_n (pc := 30) (i := 0) dX6_shut_30 rfl rfl (by first | with_reducible assumption | rfl) ?_
                refine wp_iload_n (pc := 31) (i := 1) dX6_shut_31 rfl rfl ?_
                refine wp_iload_n (pc := 32) (i := 2) dX6_shut_32 rfl rfl ?_
                refine wp_cVP2 (pc := 33) (ci := 6) dX6_shut_33 lm_X6_178 m_X6_areFoes (by first | with_reducible assumption | rfl) (by first | with_reducible assumption | rfl) (by decide) rfl (Nat.le_of_ble_eq_true rfl) hfo ?_
                refine wp_if_eqB (pc := 36) (tgt := 50) dX6_shut_36 (by decide) (fun c_36 => ?_) (fun c_36 => ?_)
                · exact Bool.noConfusion c_36
                · refine wp_aload_n (pc := 39) (i := 0) dX6_shut_39 rfl rfl (by first | with_reducible assumption | rfl) ?_
                  refine wp_iload_n (pc := 40) (i := 1) dX6_shut_40 rfl rfl ?_
                  refine wp_iload_n (pc := 41) (i := 2) dX6_shut_41 rfl rfl ?_
                  refine wp_cVP2 (pc := 42) (ci := 6) dX6_shut_42 lm_X6_181 m_X6_canComeAt (by first | with_reducible assumption | rfl) (by first | with_reducible assumption | rfl) (by decide) rfl (Nat.le_of_ble_eq_true rfl) hcc ?_
                  refine wp_if_eqB (pc := 45) (tgt := 50) dX6_shut_45 (by decide) (fun c_45 => ?_) (fun c_45 => ?_)
                  · first | (refine wp_iincN (pc := 50) (m := 1) dX6_shut_50 rfl rfl (by decide) ?_) | (refine wp_iinc (pc := 50) dX6_shut_50 rfl rfl (by decide) ?_)
                    refine wp_goto (pc := 53) (tgt := 17) dX6_shut_53 (by decide) ?_
                    exact h1
                  · exact Bool.noConfusion c_45
            · have hq : anK (shQ w h b.1) (w * h) = true := (anK_iff _).mpr ⟨c, hcn, (anK_iff _).mpr ⟨o, hon, by unfold shP; rw [hv, hm]; rfl⟩⟩
              rw [hm] at hcc
              rw [hq]
              refine wp_iload_n (pc := 17) (i := 2) dX6_shut_17 rfl rfl ?_
              refine wp_aload_n (pc := 18) (i := 0) dX6_shut_18 rfl rfl (by first | with_reducible assumption | rfl) ?_
              refine wp_getI (pc := 19) dX6_shut_19 lf_X6_47 (by first | with_reducible assumption | rfl) (by first | with_reducible assumption | rfl) rfl ?_
              rw [e0]
              refine wp_aload_n (pc := 22) (i := 0) dX6_shut_22 rfl rfl (by first | with_reducible assumption | rfl) ?_
              refine wp_getI (pc := 23) dX6_shut_23 lf_X6_51 (by first | with_reducible assumption | rfl) (by first | with_reducible assumption | rfl) rfl ?_
              rw [e1]
              first | (refine wp_imulN (pc := 26) dX6_shut_26 ?_) | (refine wp_imul (pc := 26) dX6_shut_26 ?_)
              first | (refine wp_icmp_geN (pc := 27) (tgt := 56) dX6_shut_27 (by decide) (by first | with_reducible assumption | omega) (by first | with_reducible assumption | omega) (fun c_27 => ?_) (fun c_27 => ?_)) | (refine wp_icmp_ge (pc := 27) (tgt := 56) dX6_shut_27 (by decide) (fun c_27 => ?_) (fun c_27 => ?_))
              · exact absurd c_27 (by omega)
              · refine wp_aload_n (pc := 30) (i := 0) dX6_shut_30 rfl rfl (by first | with_reducible assumption | rfl) ?_
                refine wp_iload_n (pc := 31) (i := 1) dX6_shut_31 rfl rfl ?_
                refine wp_iload_n (pc := 32) (i := 2) dX6_shut_32 rfl rfl ?_
                refine wp_cVP2 (pc := 33) (ci := 6) dX6_shut_33 lm_X6_178 m_X6_areFoes (by first | with_reducible assumption | rfl) (by first | with_reducible assumption | rfl) (by decide) rfl (Nat.le_of_ble_eq_true rfl) hfo ?_
                refine wp_if_eqB (pc := 36) (tgt := 50) dX6_shut_36 (by decide) (fun c_36 => ?_) (fun c_36 => ?_)
                · exact Bool.noConfusion c_36
                · refine wp_aload_n (pc := 39) (i := 0) dX6_shut_39 rfl rfl (by first | with_reducible assumption | rfl) ?_
                  refine wp_iload_n (pc := 40) (i := 1) dX6_shut_40 rfl rfl ?_
                  refine wp_iload_n (pc := 41) (i := 2) dX6_shut_41 rfl rfl ?_
                  refine wp_cVP2 (pc := 42) (ci := 6) dX6_shut_42 lm_X6_181 m_X6_canComeAt (by first | with_reducible assumption | rfl) (by first | with_reducible assumption | rfl) (by decide) rfl (Nat.le_of_ble_eq_true rfl) hcc ?_
                  refine wp_if_eqB (pc := 45) (tgt := 50) dX6_shut_45 (by decide) (fun c_45 => ?_) (fun c_45 => ?_)
                  · exact Bool.noConfusion c_45
                  · refine wp_iconst (pc := 48) (v := nI 0) dX6_shut_48 (by decide +kernel) ?_
                    refine wp_ireturn (pc := 49) dX6_shut_49 rfl ?_
                    exact am_i rfl hR
      have h00 := inner (w * h) 0 rfl (fun j hj => absurd hj (Nat.not_lt_zero j))
      clear inner ih
      refine wp_iload_n (pc := 2) (i := 1) dX6_shut_2 rfl rfl ?_
      refine wp_aload_n (pc := 3) (i := 0) dX6_shut_3 rfl rfl (by first | with_reducible assumption | rfl) ?_
      refine wp_getI (pc := 4) dX6_shut_4 lf_X6_47 (by first | with_reducible assumption | rfl) (by first | with_reducible assumption | rfl) rfl ?_
      rw [e0]
      refine wp_aload_n (pc := 7) (i := 0) dX6_shut_7 rfl rfl (by first | with_reducible assumption | rfl) ?_
      refine wp_getI (pc := 8) dX6_shut_8 lf_X6_51 (by first | with_reducible assumption | rfl) (by first | with_reducible assumption | rfl) rfl ?_
      rw [e1]
      first | (refine wp_imulN (pc := 11) dX6_shut_11 ?_) | (refine wp_imul (pc := 11) dX6_shut_11 ?_)
      first | (refine wp_icmp_geN (pc := 12) (tgt := 62) dX6_shut_12 (by decide) (by first | with_reducible assumption | omega) (by first | with_reducible assumption | omega) (fun c_12 => ?_) (fun c_12 => ?_)) | (refine wp_icmp_ge (pc := 12) (tgt := 62) dX6_shut_12 (by decide) (fun c_12 => ?_) (fun c_12 => ?_))
      · exact absurd c_12 (by omega)
      · refine wp_iconst (pc := 15) (v := nI 0) dX6_shut_15 (by decide +kernel) ?_
        refine wp_istore_n (pc := 16) (i := 2) dX6_shut_16 rfl (by decide) ?_
        exact h00
  have h00 := outer (w * h) 0 rfl (fun j hj => absurd hj (Nat.not_lt_zero j))
  refine call_of_wp (by decide) (Nat.le_of_ble_eq_true rfl) ?_
  refine wp_iconst (pc := 0) (v := nI 0) dX6_shut_0 (by decide +kernel) ?_
  refine wp_istore_n (pc := 1) (i := 1) dX6_shut_1 rfl (by decide) ?_
  exact h00
end MS2
