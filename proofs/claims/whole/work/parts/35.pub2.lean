/-! THE CLASS'S CALLS, 2 -/
def aCell (n : Nat) (b : Bd) (x : Int32) : Int32 := if inB x n = true then nI (asc (b.1 (cI x))) else -1
def aGone (n : Nat) (b : Bd) (x : Int32) : Int32 := if inB x n = true then (if ded b.1 (cI x) = true then nI (b.2.1 (cI x)) else -3) else -1
def aAims (w h : Nat) (b : Bd) (x : Int32) : Int32 := if inB x (w * h) = true then nI (mset (aimP w h (b.1 (cI x)) (ful b.1) (cI x))) else -1
def aCan (w h : Nat) (b : Bd) (x : Int32) : Int32 := if inB x (w * h) = true then nI (mset (reaP w h b.1 (cI x))) else -1
def mvOk (w h : Nat) (b : Bd) (x y : Int32) : Bool := decide (b.2.2.2 = 2) && plP w h b (16 * cI x + cI y)
def aMove (w h : Nat) (b : Bd) (x y : Int32) : Int32 := if (inB x (w * h) && inB y (w * h)) = true then (if mvOk w h b x y = true then nI (asc (b.1 (cI y))) else -3) else -1
def sMove (x y : Int32) (s : Sg) : Sg := if (inB x (s.2.1.1 * s.2.1.2.1) && inB y (s.2.1.1 * s.2.1.2.1)) = true ∧ mvOk s.2.1.1 s.2.1.2.1 s.2.2.1 x y = true then (s.1, s.2.1, mkB s.2.1.2.2 s.2.2.1 (16 * cI x + cI y), psh s.2.2.2.1 s.2.2.1, s.2.2.2.2) else s
def aPass (w h : Nat) (b : Bd) : Int32 := if PLY w h b = [256] then nI (1 - b.2.2.1) else -3
def sPass (s : Sg) : Sg := if PLY s.2.1.1 s.2.1.2.1 s.2.2.1 = [256] then (s.1, s.2.1, mkB s.2.1.2.2 s.2.2.1 256, psh s.2.2.2.1 s.2.2.1, s.2.2.2.2) else s
def aUndo (ps : List Bd) : Int32 := if ps = [] then -3 else nI (ps.length - 1)
def sUndo (s : Sg) : Sg := match s.2.2.2.1.getLast? with
  | none => s
  | some c => (s.1, s.2.1, c, s.2.2.2.1.dropLast, s.2.2.2.2)
section PU2
variable {d : Nat} {I : MemI} {J : MemJ} {t : List Nat} {w h last : Nat} {b : Bd} {ps : List Bd} {f : Nat → Option Bd} {z : Int64}
theorem isP12 : isP 12 := ⟨by decide, by decide⟩
theorem isP9 : isP 9 := ⟨by decide, by decide⟩
theorem RepC_16 (hR : RepC t w h last b ps f z I J) : w * h ≤ 16 := wh16 hR.2.2.1.1.2.1 hR.2.2.1.1.2.2.2
set_option maxHeartbeats 16000000 in
theorem sp_X5_cell {x : Int32} (hR : RepC t w h last b ps f z I J) : CALL ΩC (d + 5) kX5_cell [.ref 0, .int x] I J (AQ (aCell (w * h) b x) (t, (w, h, last), b, ps, f, z)) := by
  have hwh := RepC_16 hR
  have hF := hR.2.2.1
  have hb := hR.2.2.2.1.1
  have hB := hR.2.2.2.1.2
  cases hx : inB x (w * h)
  · have e : aCell (w * h) b x = -1 := if_neg (by rw [hx]; exact Bool.false_ne_true)
    rw [e]
    refine call_of_wp (by decide) (Nat.le_of_ble_eq_true rfl) ?_
    refine wp_aload_n (pc := 0) (i := 0) dX5_cell_0 rfl rfl (by first | with_reducible assumption | rfl) ?_
    refine wp_iload_n (pc := 1) (i := 1) dX5_cell_1 rfl rfl ?_
    refine wp_cVP1 (pc := 2) (ci := 5) dX5_cell_2 lm_X5_105 m_X5_isCell (by first | with_reducible assumption | rfl) (by first | with_reducible assumption | rfl) (by decide) rfl (Nat.le_of_ble_eq_true rfl) (sp_X5_isCell hF) ?_
    rw [hx]
    refine wp_if_eqB (pc := 5) (tgt := 22) dX5_cell_5 (by decide) (fun c_5 => ?_) (fun c_5 => ?_)
    · refine wp_iconst (pc := 22) (v := (-1)) dX5_cell_22 (by decide +kernel) ?_
      refine wp_ireturn (pc := 23) dX5_cell_23 rfl ?_
      exact aq_i rfl hR
    · exact Bool.noConfusion c_5
  · obtain ⟨c, hc, rfl⟩ := inB_t (by omega) hx
    have e : aCell (w * h) b (nI c) = nI (asc (b.1 c)) := by unfold aCell; rw [if_pos hx, cI_n (by omega)]
    have hsc := hB.1 c (by omega)
    rw [e]
    refine call_of_wp (by decide) (Nat.le_of_ble_eq_true rfl) ?_
    refine wp_aload_n (pc := 0) (i := 0) dX5_cell_0 rfl rfl (by first | with_reducible assumption | rfl) ?_
    refine wp_iload_n (pc := 1) (i := 1) dX5_cell_1 rfl rfl ?_
    refine wp_cVP1 (pc := 2) (ci := 5) dX5_cell_2 lm_X5_105 m_X5_isCell (by first | with_reducible assumption | rfl) (by first | with_reducible assumption | rfl) (by decide) rfl (Nat.le_of_ble_eq_true rfl) (sp_X5_isCell hF) ?_
    rw [hx]
    refine wp_if_eqB (pc := 5) (tgt := 22) dX5_cell_5 (by decide) (fun c_5 => ?_) (fun c_5 => ?_)
    · exact Bool.noConfusion c_5
    · refine wp_aload_n (pc := 8) (i := 0) dX5_cell_8 rfl rfl (by first | with_reducible assumption | rfl) ?_
      refine wp_getR (pc := 9) dX5_cell_9 lf_X5_32 (by first | with_reducible assumption | rfl) (by first | with_reducible assumption | rfl) rfl (by first | with_reducible assumption | rfl) (by first | with_reducible assumption | rfl) ?_
      refine wp_iload_n (pc := 12) (i := 1) dX5_cell_12 rfl rfl ?_
      refine wp_cVP1 (pc := 13) (ci := 2) dX5_cell_13 lm_X5_109 m_X2_sign (by first | with_reducible assumption | rfl) (by first | with_reducible assumption | rfl) (by decide) rfl (Nat.le_of_ble_eq_true rfl) (sp_X2_sign isP12 hb hB.1 (by omega)) ?_
      refine wp_cSP1 (pc := 16) dX5_cell_16 lm_X5_112 m_X5_letter (Nat.le_of_ble_eq_true rfl) (sp_X5_letter (by first | with_reducible assumption | omega)) ?_
      refine wp_goto (pc := 19) (tgt := 23) dX5_cell_19 (by decide) ?_
      refine wp_ireturn (pc := 23) dX5_cell_23 rfl ?_
      exact aq_i rfl hR
set_option maxHeartbeats 16000000 in
theorem sp_X5_gone {x : Int32} (hR : RepC t w h last b ps f z I J) : CALL ΩC (d + 2) kX5_gone [.ref 0, .int x] I J (AQ (aGone (w * h) b x) (t, (w, h, last), b, ps, f, z)) := by
  have hwh := RepC_16 hR
  have hF := hR.2.2.1
  have hb := hR.2.2.2.1.1
  have hB := hR.2.2.2.1.2
  have e7 : I 12 7 = nI (mset (ded b.1)) := hb.1 7 (by omega) (by omega)
  have hm := mset_lt (ded b.1)
  cases hx : inB x (w * h)
  · have e : aGone (w * h) b x = -1 := if_neg (by rw [hx]; exact Bool.false_ne_true)
    rw [e]
    refine call_of_wp (by decide) (Nat.le_of_ble_eq_true rfl) ?_
    refine wp_aload_n (pc := 0) (i := 0) dX5_gone_0 rfl rfl (by first | with_reducible assumption | rfl) ?_
    refine wp_iload_n (pc := 1) (i := 1) dX5_gone_1 rfl rfl ?_
    refine wp_cVP1 (pc := 2) (ci := 5) dX5_gone_2 lm_X5_105 m_X5_isCell (by first | with_reducible assumption | rfl) (by first | with_reducible assumption | rfl) (by decide) rfl (Nat.le_of_ble_eq_true rfl) (sp_X5_isCell hF) ?_
    rw [hx]
    refine wp_if_neB (pc := 5) (tgt := 10) dX5_gone_5 (by decide) (fun c_5 => ?_) (fun c_5 => ?_)
    · exact Bool.noConfusion c_5
    · refine wp_iconst (pc := 8) (v := (-1)) dX5_gone_8 (by decide +kernel) ?_
      refine wp_ireturn (pc := 9) dX5_gone_9 rfl ?_
      exact aq_i rfl hR
  · obtain ⟨c, hc, rfl⟩ := inB_t (by omega) hx
    have e : aGone (w * h) b (nI c) = if ded b.1 c = true then nI (b.2.1 c) else -3 := by unfold aGone; rw [if_pos hx, cI_n (by omega)]
    have hbit := mset_bit' (ded b.1) (show c < 16 by omega)
    rw [e]
    refine call_of_wp (by decide) (Nat.le_of_ble_eq_true rfl) ?_
    refine wp_aload_n (pc := 0) (i := 0) dX5_gone_0 rfl rfl (by first | with_reducible assumption | rfl) ?_
    refine wp_iload_n (pc := 1) (i := 1) dX5_gone_1 rfl rfl ?_
    refine wp_cVP1 (pc := 2) (ci := 5) dX5_gone_2 lm_X5_105 m_X5_isCell (by first | with_reducible assumption | rfl) (by first | with_reducible assumption | rfl) (by decide) rfl (Nat.le_of_ble_eq_true rfl) (sp_X5_isCell hF) ?_
    rw [hx]
    refine wp_if_neB (pc := 5) (tgt := 10) dX5_gone_5 (by decide) (fun c_5 => ?_) (fun c_5 => ?_)
    · refine wp_aload_n (pc := 10) (i := 0) dX5_gone_10 rfl rfl (by first | with_reducible assumption | rfl) ?_
      refine wp_getR (pc := 11) dX5_gone_11 lf_X5_32 (by first | with_reducible assumption | rfl) (by first | with_reducible assumption | rfl) rfl (by first | with_reducible assumption | rfl) (by first | with_reducible assumption | rfl) ?_
      refine wp_getI (pc := 14) dX5_gone_14 lf_X5_115 (by first | with_reducible assumption | rfl) (by first | with_reducible assumption | rfl) rfl ?_
      rw [e7]
      refine wp_iload_n (pc := 17) (i := 1) dX5_gone_17 rfl rfl ?_
      refine wp_cSP2 (pc := 18) dX5_gone_18 lm_X5_118 m_X5_has (Nat.le_of_ble_eq_true rfl) (sp_X5_has (by first | with_reducible assumption | omega) (by first | with_reducible assumption | omega)) ?_
      rw [hbit]
      refine wp_if_eqB (pc := 21) (tgt := 35) dX5_gone_21 (by decide) (fun c_21 => ?_) (fun c_21 => ?_)
      · refine wp_bipush (pc := 35) (v := (-3)) dX5_gone_35 (by decide +kernel) ?_
        refine wp_ireturn (pc := 37) dX5_gone_37 rfl ?_
        first | (have g : ded b.1 c = true := c_21; exact aq_i (by rw [if_pos g]) hR) | (have g : ded b.1 c = false := c_21; exact aq_i (by rw [if_neg (by rw [g]; exact Bool.false_ne_true)]) hR)
      · refine wp_aload_n (pc := 24) (i := 0) dX5_gone_24 rfl rfl (by first | with_reducible assumption | rfl) ?_
        refine wp_getR (pc := 25) dX5_gone_25 lf_X5_32 (by first | with_reducible assumption | rfl) (by first | with_reducible assumption | rfl) rfl (by first | with_reducible assumption | rfl) (by first | with_reducible assumption | rfl) ?_
        refine wp_iload_n (pc := 28) (i := 1) dX5_gone_28 rfl rfl ?_
        refine wp_cVP1 (pc := 29) (ci := 2) dX5_gone_29 lm_X5_122 m_X2_lying (by first | with_reducible assumption | rfl) (by first | with_reducible assumption | rfl) (by decide) rfl (Nat.le_of_ble_eq_true rfl) (sp_X2_lying isP12 hb hB.2.1 (by omega)) ?_
        refine wp_goto (pc := 32) (tgt := 37) dX5_gone_32 (by decide) ?_
        refine wp_ireturn (pc := 37) dX5_gone_37 rfl ?_
        first | (have g : ded b.1 c = true := c_21; exact aq_i (by rw [if_pos g]) hR) | (have g : ded b.1 c = false := c_21; exact aq_i (by rw [if_neg (by rw [g]; exact Bool.false_ne_true)]) hR)
    · exact Bool.noConfusion c_5
set_option maxHeartbeats 16000000 in
theorem sp_X5_aims {x : Int32} (hR : RepC t w h last b ps f z I J) : CALL ΩC (d + 3) kX5_aims [.ref 0, .int x] I J (AQ (aAims w h b x) (t, (w, h, last), b, ps, f, z)) := by
  have hwh := RepC_16 hR
  have hF := hR.2.2.1
  have hb := hR.2.2.2.1.1
  have hB := hR.2.2.2.1.2
  cases hx : inB x (w * h)
  · have e : aAims w h b x = -1 := if_neg (by rw [hx]; exact Bool.false_ne_true)
    rw [e]
    refine call_of_wp (by decide) (Nat.le_of_ble_eq_true rfl) ?_
    refine wp_aload_n (pc := 0) (i := 0) dX5_aims_0 rfl rfl (by first | with_reducible assumption | rfl) ?_
    refine wp_iload_n (pc := 1) (i := 1) dX5_aims_1 rfl rfl ?_
    refine wp_cVP1 (pc := 2) (ci := 5) dX5_aims_2 lm_X5_105 m_X5_isCell (by first | with_reducible assumption | rfl) (by first | with_reducible assumption | rfl) (by decide) rfl (Nat.le_of_ble_eq_true rfl) (sp_X5_isCell hF) ?_
    rw [hx]
    refine wp_if_eqB (pc := 5) (tgt := 34) dX5_aims_5 (by decide) (fun c_5 => ?_) (fun c_5 => ?_)
    · refine wp_iconst (pc := 34) (v := (-1)) dX5_aims_34 (by decide +kernel) ?_
      refine wp_ireturn (pc := 35) dX5_aims_35 rfl ?_
      exact aq_i rfl hR
    · exact Bool.noConfusion c_5
  · obtain ⟨c, hc, rfl⟩ := inB_t (by omega) hx
    have e : aAims w h b (nI c) = nI (mset (aimP w h (b.1 c) (ful b.1) c)) := by unfold aAims; rw [if_pos hx, cI_n (by omega)]
    have hsc := hB.1 c (by omega)
    rw [e]
    refine call_of_wp (by decide) (Nat.le_of_ble_eq_true rfl) ?_
    refine wp_aload_n (pc := 0) (i := 0) dX5_aims_0 rfl rfl (by first | with_reducible assumption | rfl) ?_
    refine wp_iload_n (pc := 1) (i := 1) dX5_aims_1 rfl rfl ?_
    refine wp_cVP1 (pc := 2) (ci := 5) dX5_aims_2 lm_X5_105 m_X5_isCell (by first | with_reducible assumption | rfl) (by first | with_reducible assumption | rfl) (by decide) rfl (Nat.le_of_ble_eq_true rfl) (sp_X5_isCell hF) ?_
    rw [hx]
    refine wp_if_eqB (pc := 5) (tgt := 34) dX5_aims_5 (by decide) (fun c_5 => ?_) (fun c_5 => ?_)
    · exact Bool.noConfusion c_5
    · refine wp_aload_n (pc := 8) (i := 0) dX5_aims_8 rfl rfl (by first | with_reducible assumption | rfl) ?_
      refine wp_getR (pc := 9) dX5_aims_9 lf_X5_19 (by first | with_reducible assumption | rfl) (by first | with_reducible assumption | rfl) rfl (by first | with_reducible assumption | rfl) (by first | with_reducible assumption | rfl) ?_
      refine wp_aload_n (pc := 12) (i := 0) dX5_aims_12 rfl rfl (by first | with_reducible assumption | rfl) ?_
      refine wp_getR (pc := 13) dX5_aims_13 lf_X5_32 (by first | with_reducible assumption | rfl) (by first | with_reducible assumption | rfl) rfl (by first | with_reducible assumption | rfl) (by first | with_reducible assumption | rfl) ?_
      refine wp_iload_n (pc := 16) (i := 1) dX5_aims_16 rfl rfl ?_
      refine wp_cVP1 (pc := 17) (ci := 2) dX5_aims_17 lm_X5_109 m_X2_sign (by first | with_reducible assumption | rfl) (by first | with_reducible assumption | rfl) (by decide) rfl (Nat.le_of_ble_eq_true rfl) (sp_X2_sign isP12 hb hB.1 (by omega)) ?_
      refine wp_iload_n (pc := 20) (i := 1) dX5_aims_20 rfl rfl ?_
      refine wp_aload_n (pc := 21) (i := 0) dX5_aims_21 rfl rfl (by first | with_reducible assumption | rfl) ?_
      refine wp_getR (pc := 22) dX5_aims_22 lf_X5_32 (by first | with_reducible assumption | rfl) (by first | with_reducible assumption | rfl) rfl (by first | with_reducible assumption | rfl) (by first | with_reducible assumption | rfl) ?_
      refine wp_cVP0 (pc := 25) (ci := 2) dX5_aims_25 lm_X5_125 m_X2_full (by first | with_reducible assumption | rfl) (by first | with_reducible assumption | rfl) (by decide) rfl (Nat.le_of_ble_eq_true rfl) (sp_X2_full isP12 hb) ?_
      refine wp_cVP3 (pc := 28) (ci := 0) dX5_aims_28 lm_X5_128 m_X0_aimed (by first | with_reducible assumption | rfl) (by first | with_reducible assumption | rfl) (by decide) rfl (Nat.le_of_ble_eq_true rfl) (sp_X0_aimed hF hsc hc) ?_
      refine wp_goto (pc := 31) (tgt := 35) dX5_aims_31 (by decide) ?_
      refine wp_ireturn (pc := 35) dX5_aims_35 rfl ?_
      exact aq_i rfl hR
set_option maxHeartbeats 16000000 in
theorem sp_X5_can {x : Int32} (hR : RepC t w h last b ps f z I J) : CALL ΩC (d + 4) kX5_can [.ref 0, .int x] I J (AQ (aCan w h b x) (t, (w, h, last), b, ps, f, z)) := by
  have hwh := RepC_16 hR
  have hF := hR.2.2.1
  have hb := hR.2.2.2.1.1
  have hB := hR.2.2.2.1.2
  cases hx : inB x (w * h)
  · have e : aCan w h b x = -1 := if_neg (by rw [hx]; exact Bool.false_ne_true)
    rw [e]
    refine call_of_wp (by decide) (Nat.le_of_ble_eq_true rfl) ?_
    refine wp_aload_n (pc := 0) (i := 0) dX5_can_0 rfl rfl (by first | with_reducible assumption | rfl) ?_
    refine wp_iload_n (pc := 1) (i := 1) dX5_can_1 rfl rfl ?_
    refine wp_cVP1 (pc := 2) (ci := 5) dX5_can_2 lm_X5_105 m_X5_isCell (by first | with_reducible assumption | rfl) (by first | with_reducible assumption | rfl) (by decide) rfl (Nat.le_of_ble_eq_true rfl) (sp_X5_isCell hF) ?_
    rw [hx]
    refine wp_if_eqB (pc := 5) (tgt := 23) dX5_can_5 (by decide) (fun c_5 => ?_) (fun c_5 => ?_)
    · refine wp_iconst (pc := 23) (v := (-1)) dX5_can_23 (by decide +kernel) ?_
      refine wp_ireturn (pc := 24) dX5_can_24 rfl ?_
      exact aq_i rfl hR
    · exact Bool.noConfusion c_5
  · obtain ⟨c, hc, rfl⟩ := inB_t (by omega) hx
    have e : aCan w h b (nI c) = nI (mset (reaP w h b.1 c)) := by unfold aCan; rw [if_pos hx, cI_n (by omega)]
    rw [e]
    refine call_of_wp (by decide) (Nat.le_of_ble_eq_true rfl) ?_
    refine wp_aload_n (pc := 0) (i := 0) dX5_can_0 rfl rfl (by first | with_reducible assumption | rfl) ?_
    refine wp_iload_n (pc := 1) (i := 1) dX5_can_1 rfl rfl ?_
    refine wp_cVP1 (pc := 2) (ci := 5) dX5_can_2 lm_X5_105 m_X5_isCell (by first | with_reducible assumption | rfl) (by first | with_reducible assumption | rfl) (by decide) rfl (Nat.le_of_ble_eq_true rfl) (sp_X5_isCell hF) ?_
    rw [hx]
    refine wp_if_eqB (pc := 5) (tgt := 23) dX5_can_5 (by decide) (fun c_5 => ?_) (fun c_5 => ?_)
    · exact Bool.noConfusion c_5
    · refine wp_aload_n (pc := 8) (i := 0) dX5_can_8 rfl rfl (by first | with_reducible assumption | rfl) ?_
      refine wp_getR (pc := 9) dX5_can_9 lf_X5_32 (by first | with_reducible assumption | rfl) (by first | with_reducible assumption | rfl) rfl (by first | with_reducible assumption | rfl) (by first | with_reducible assumption | rfl) ?_
      refine wp_aload_n (pc := 12) (i := 0) dX5_can_12 rfl rfl (by first | with_reducible assumption | rfl) ?_
      refine wp_getR (pc := 13) dX5_can_13 lf_X5_19 (by first | with_reducible assumption | rfl) (by first | with_reducible assumption | rfl) rfl (by first | with_reducible assumption | rfl) (by first | with_reducible assumption | rfl) ?_
      refine wp_iload_n (pc := 16) (i := 1) dX5_can_16 rfl rfl ?_
      refine wp_cVP2 (pc := 17) (ci := 2) dX5_can_17 lm_X5_132 m_X2_reach (by first | with_reducible assumption | rfl) (by first | with_reducible assumption | rfl) (by decide) rfl (Nat.le_of_ble_eq_true rfl) (sp_X2_reach isP12 hF hb hB.1 hc) ?_
      refine wp_goto (pc := 20) (tgt := 24) dX5_can_20 (by decide) ?_
      refine wp_ireturn (pc := 24) dX5_can_24 rfl ?_
      exact aq_i rfl hR
theorem fr_ls {l : List Nat} : FR scrC I (lsM 12 l I) J J := FR.ls (Or.inr (Or.inr ⟨rfl, rfl⟩)) (fun i => Or.inr (Or.inl (by decide)))
set_option maxHeartbeats 16000000 in
theorem sp_X5_plies (hR : RepC t w h last b ps f z I J) : CALL ΩC (d + 5) kX5_plies [.ref 0] I J (AQ (nI (PLY w h b).length) (t, (w, h, last), b, ps, f, z)) := by
  have hF := hR.2.2.1
  have hb := hR.2.2.2.1.1
  have hB := hR.2.2.2.1.2
  have hlist := sp_X2_list (d := d) isP12 hF hb hB.1 hB.2.2.2.2.2 hB.2.2.2.1 hB.2.2.2.2.1
  refine call_of_wp (by decide) (Nat.le_of_ble_eq_true rfl) ?_
  refine wp_aload_n (pc := 0) (i := 0) dX5_plies_0 rfl rfl (by first | with_reducible assumption | rfl) ?_
  refine wp_getR (pc := 1) dX5_plies_1 lf_X5_32 (by first | with_reducible assumption | rfl) (by first | with_reducible assumption | rfl) rfl (by first | with_reducible assumption | rfl) (by first | with_reducible assumption | rfl) ?_
  refine wp_aload_n (pc := 4) (i := 0) dX5_plies_4 rfl rfl (by first | with_reducible assumption | rfl) ?_
  refine wp_getR (pc := 5) dX5_plies_5 lf_X5_19 (by first | with_reducible assumption | rfl) (by first | with_reducible assumption | rfl) rfl (by first | with_reducible assumption | rfl) (by first | with_reducible assumption | rfl) ?_
  refine wp_cVI1 (pc := 8) (ci := 2) dX5_plies_8 lm_X5_136 m_X2_list (by first | with_reducible assumption | rfl) (by first | with_reducible assumption | rfl) (by decide) rfl (Nat.le_of_ble_eq_true rfl) hlist (fun x_8 I_8 J_8 h_8 => ?_)
  obtain ⟨rfl, rfl, rfl⟩ := h_8
  refine wp_ireturn (pc := 11) dX5_plies_11 rfl ?_
  exact aq_i rfl (RepC_fr hR fr_ls)
/-- the picture with another board and another row -/
theorem RepC_bd {b' : Bd} {ps' : List Bd} {I' : MemI} {J' : MemJ} (hR : RepC t w h last b ps f z I J) (hf : FR (fun a _ => a = 12 ∨ (19 ≤ a ∧ a ≤ 24)) I I' J J') (hb : PL 12 b' I' J') (hB : Bok (w * h) b') (hP : PT ps' I' J') (hPB : ∀ c, c ∈ ps' → Bok (w * h) c) : RepC t w h last b' ps' f z I' J' := by
  obtain ⟨h1, h2, h3, ⟨h4, h5⟩, ⟨h6, h7⟩, ⟨h8, h9⟩, h10, k, h11, h12⟩ := hR
  exact ⟨h1, TX_n h2 (fun a i x y => hf.1 a i (by omega)), Fld_fr h3 hf (fun a i x y => by omega), ⟨hb, hB⟩, ⟨hP, hPB⟩, ⟨SL_n h8 (fun a i x y => hf.1 a i (by omega)) (fun a i x y => hf.2 a i (by omega)), h9⟩, by rw [hf.2 0 7 (by omega)]; exact h10, k, PL_fr h11 hf (fun i x y => by omega), h12⟩
theorem psh_mem {ps : List Bd} {b c : Bd} (h : c ∈ psh ps b) : c ∈ ps ∨ c = b := by
  unfold psh at h
  rw [List.mem_append, List.mem_singleton] at h
  rcases h with h | h
  · split at h
    · exact Or.inl h
    · exact Or.inl (List.mem_of_mem_tail h)
  · exact Or.inr h
/-- a PLY made after the place was put into the row -/
theorem RepC_ply {x : Nat} {I1 : MemI} {J1 : MemJ} (hR : RepC t w h last b ps f z I J) (hx : legX b x) (hn : x = 256 ∨ x % 16 < w * h) (hP : PT (psh ps b) I1 J1) (hI : ∀ a i, (a < 19 ∨ 24 < a) → I1 a i = I a i) (hJ : ∀ a i, (a < 19 ∨ 24 < a) → J1 a i = J a i) : RepC t w h last (mkB last b x) (psh ps b) f z (wI 12 (mkB last b x) I1) (wJ 12 (mkB last b x) J1) := by
  refine RepC_bd hR ⟨fun a i y => ?_, fun a i y => ?_⟩ PL_w (Bok_mk hR.2.2.2.1.2 hx hn hR.1) (PT_n hP (fun a i x y => wI_n (by omega)) (fun a i x y => wJ_n (by omega))) (fun c hc => ?_)
  · rw [wI_n (by omega)]; exact hI a i (by omega)
  · rw [wJ_n (by omega)]; exact hJ a i (by omega)
  · rcases psh_mem hc with y | y
    · exact hR.2.2.2.2.1.2 c y
    · rw [y]; exact hR.2.2.2.1.2
set_option maxHeartbeats 16000000 in
theorem sp_X5_move {x y : Int32} (hR : RepC t w h last b ps f z I J) : CALL ΩC (d + 5) kX5_move [.ref 0, .int x, .int y] I J (AQ (aMove w h b x y) (sMove x y (t, (w, h, last), b, ps, f, z))) := by
  have hwh := RepC_16 hR
  have hF := hR.2.2.1
  have hb := hR.2.2.2.1.1
  have hB := hR.2.2.2.1.2
  have hP := hR.2.2.2.2.1.1
  have hl9 := hR.1
  have hlast : I 3 7 = nI last := hF.2.2.2.1
  cases hx : inB x (w * h)
  · have e : aMove w h b x y = -1 := if_neg (by rw [hx]; exact Bool.false_ne_true)
    have e2 : sMove x y (t, (w, h, last), b, ps, f, z) = (t, (w, h, last), b, ps, f, z) := if_neg (by show ¬ ((inB x (w * h) && inB y (w * h)) = true ∧ _); rw [hx]; exact fun k => Bool.false_ne_true k.1)
    rw [e, e2]
    refine call_of_wp (by decide) (Nat.le_of_ble_eq_true rfl) ?_
    refine wp_aload_n (pc := 0) (i := 0) dX5_move_0 rfl rfl (by first | with_reducible assumption | rfl) ?_
    refine wp_iload_n (pc := 1) (i := 1) dX5_move_1 rfl rfl ?_
    refine wp_cVP1 (pc := 2) (ci := 5) dX5_move_2 lm_X5_105 m_X5_isCell (by first | with_reducible assumption | rfl) (by first | with_reducible assumption | rfl) (by decide) rfl (Nat.le_of_ble_eq_true rfl) (sp_X5_isCell hF) ?_
    rw [hx]
    refine wp_if_eqB (pc := 5) (tgt := 16) dX5_move_5 (by decide) (fun c_5 => ?_) (fun c_5 => ?_)
    · refine wp_iconst (pc := 16) (v := (-1)) dX5_move_16 (by decide +kernel) ?_
      refine wp_ireturn (pc := 17) dX5_move_17 rfl ?_
      exact aq_i rfl hR
    · exact Bool.noConfusion c_5
  · cases hy : inB y (w * h)
    · have e : aMove w h b x y = -1 := if_neg (by rw [hx, hy]; exact Bool.false_ne_true)
      have e2 : sMove x y (t, (w, h, last), b, ps, f, z) = (t, (w, h, last), b, ps, f, z) := if_neg (by show ¬ ((inB x (w * h) && inB y (w * h)) = true ∧ _); rw [hx, hy]; exact fun k => Bool.false_ne_true k.1)
      rw [e, e2]
      refine call_of_wp (by decide) (Nat.le_of_ble_eq_true rfl) ?_
      refine wp_aload_n (pc := 0) (i := 0) dX5_move_0 rfl rfl (by first | with_reducible assumption | rfl) ?_
      refine wp_iload_n (pc := 1) (i := 1) dX5_move_1 rfl rfl ?_
      refine wp_cVP1 (pc := 2) (ci := 5) dX5_move_2 lm_X5_105 m_X5_isCell (by first | with_reducible assumption | rfl) (by first | with_reducible assumption | rfl) (by decide) rfl (Nat.le_of_ble_eq_true rfl) (sp_X5_isCell hF) ?_
      rw [hx]
      refine wp_if_eqB (pc := 5) (tgt := 16) dX5_move_5 (by decide) (fun c_5 => ?_) (fun c_5 => ?_)
      · exact Bool.noConfusion c_5
      · refine wp_aload_n (pc := 8) (i := 0) dX5_move_8 rfl rfl (by first | with_reducible assumption | rfl) ?_
        refine wp_iload_n (pc := 9) (i := 2) dX5_move_9 rfl rfl ?_
        refine wp_cVP1 (pc := 10) (ci := 5) dX5_move_10 lm_X5_105 m_X5_isCell (by first | with_reducible assumption | rfl) (by first | with_reducible assumption | rfl) (by decide) rfl (Nat.le_of_ble_eq_true rfl) (sp_X5_isCell hF) ?_
        rw [hy]
        refine wp_if_neB (pc := 13) (tgt := 18) dX5_move_13 (by decide) (fun c_13 => ?_) (fun c_13 => ?_)
        · exact Bool.noConfusion c_13
        · refine wp_iconst (pc := 16) (v := (-1)) dX5_move_16 (by decide +kernel) ?_
          refine wp_ireturn (pc := 17) dX5_move_17 rfl ?_
          exact aq_i rfl hR
    · obtain ⟨c, hc, rfl⟩ := inB_t (by omega) hx
      obtain ⟨c2, hc2, rfl⟩ := inB_t (by omega) hy
      have k1 := cI_n (n := c) (by omega)
      have k2 := cI_n (n := c2) (by omega)
      have d1 : (c * 100 + c2) / 100 = c := by omega
      have d2 : (c * 100 + c2) % 100 = c2 := by omega
      have eM : mayB w h b (c * 100 + c2) = (decide (b.2.2.2 = 2) && plP w h b (16 * c + c2)) := by
        unfold mayB
        rw [d1, d2]
        congr 1
        exact decide_eq_decide.mpr ⟨fun q => q.2.2, fun q => ⟨hc, hc2, q⟩⟩
      have eO : mvOk w h b (nI c) (nI c2) = (decide (b.2.2.2 = 2) && plP w h b (16 * c + c2)) := by unfold mvOk; rw [k1, k2]
      cases hm : (decide (b.2.2.2 = 2) && plP w h b (16 * c + c2))
      · have e : aMove w h b (nI c) (nI c2) = -3 := by unfold aMove; rw [hx, hy, eO, hm]; rfl
        have e2 : sMove (nI c) (nI c2) (t, (w, h, last), b, ps, f, z) = (t, (w, h, last), b, ps, f, z) := if_neg (by show ¬ (_ ∧ mvOk w h b (nI c) (nI c2) = true); rw [eO, hm]; exact fun k => Bool.false_ne_true k.2)
        rw [hm] at eM
        rw [e, e2]
        refine call_of_wp (by decide) (Nat.le_of_ble_eq_true rfl) ?_
        refine wp_aload_n (pc := 0) (i := 0) dX5_move_0 rfl rfl (by first | with_reducible assumption | rfl) ?_
        refine wp_iload_n (pc := 1) (i := 1) dX5_move_1 rfl rfl ?_
        refine wp_cVP1 (pc := 2) (ci := 5) dX5_move_2 lm_X5_105 m_X5_isCell (by first | with_reducible assumption | rfl) (by first | with_reducible assumption | rfl) (by decide) rfl (Nat.le_of_ble_eq_true rfl) (sp_X5_isCell hF) ?_
        rw [hx]
        refine wp_if_eqB (pc := 5) (tgt := 16) dX5_move_5 (by decide) (fun c_5 => ?_) (fun c_5 => ?_)
        · exact Bool.noConfusion c_5
        · refine wp_aload_n (pc := 8) (i := 0) dX5_move_8 rfl rfl (by first | with_reducible assumption | rfl) ?_
          refine wp_iload_n (pc := 9) (i := 2) dX5_move_9 rfl rfl ?_
          refine wp_cVP1 (pc := 10) (ci := 5) dX5_move_10 lm_X5_105 m_X5_isCell (by first | with_reducible assumption | rfl) (by first | with_reducible assumption | rfl) (by decide) rfl (Nat.le_of_ble_eq_true rfl) (sp_X5_isCell hF) ?_
          rw [hy]
          refine wp_if_neB (pc := 13) (tgt := 18) dX5_move_13 (by decide) (fun c_13 => ?_) (fun c_13 => ?_)
          · refine wp_iload_n (pc := 18) (i := 1) dX5_move_18 rfl rfl ?_
            refine wp_bipush (pc := 19) (v := nI 100) dX5_move_19 (by decide +kernel) ?_
            first | (refine wp_imulN (pc := 21) dX5_move_21 ?_) | (refine wp_imul (pc := 21) dX5_move_21 ?_)
            refine wp_iload_n (pc := 22) (i := 2) dX5_move_22 rfl rfl ?_
            first | (refine wp_iaddN (pc := 23) dX5_move_23 ?_) | (refine wp_iadd (pc := 23) dX5_move_23 ?_)
            refine wp_istore_n (pc := 24) (i := 3) dX5_move_24 rfl (by decide) ?_
            refine wp_aload_n (pc := 25) (i := 0) dX5_move_25 rfl rfl (by first | with_reducible assumption | rfl) ?_
            refine wp_aload_n (pc := 26) (i := 0) dX5_move_26 rfl rfl (by first | with_reducible assumption | rfl) ?_
            refine wp_getR (pc := 27) dX5_move_27 lf_X5_32 (by first | with_reducible assumption | rfl) (by first | with_reducible assumption | rfl) rfl (by first | with_reducible assumption | rfl) (by first | with_reducible assumption | rfl) ?_
            refine wp_iload_n (pc := 30) (i := 3) dX5_move_30 rfl rfl ?_
            refine wp_cVP2 (pc := 31) (ci := 5) dX5_move_31 lm_X5_140 m_X5_may (by first | with_reducible assumption | rfl) (by first | with_reducible assumption | rfl) (by decide) rfl (Nat.le_of_ble_eq_true rfl) (sp_X5_may isP12 hF hb hB (by omega)) ?_
            rw [eM]
            refine wp_if_neB (pc := 34) (tgt := 40) dX5_move_34 (by decide) (fun c_34 => ?_) (fun c_34 => ?_)
            · exact Bool.noConfusion c_34
            · refine wp_bipush (pc := 37) (v := (-3)) dX5_move_37 (by decide +kernel) ?_
              refine wp_ireturn (pc := 39) dX5_move_39 rfl ?_
              exact aq_i rfl hR
          · exact Bool.noConfusion c_13
      · have e : aMove w h b (nI c) (nI c2) = nI (asc (b.1 c2)) := by unfold aMove; rw [hx, hy, eO, hm, k2]; rfl
        have e2 : sMove (nI c) (nI c2) (t, (w, h, last), b, ps, f, z) = (t, (w, h, last), mkB last b (16 * c + c2), psh ps b, f, z) := by
          have : sMove (nI c) (nI c2) (t, (w, h, last), b, ps, f, z) = (t, (w, h, last), mkB last b (16 * cI (nI c) + cI (nI c2)), psh ps b, f, z) := if_pos (by show ((inB (nI c) (w * h) && inB (nI c2) (w * h)) = true ∧ mvOk w h b (nI c) (nI c2) = true); rw [hx, hy, eO, hm]; exact ⟨rfl, rfl⟩)
          rw [this, k1, k2]
        rw [hm] at eM
        rw [Bool.and_eq_true] at hm
        have hleg := plP_leg hB.1 (x := 16 * c + c2) (by omega) hm.2
        have hsc := hB.1 c2 (by omega)
        have eE : encC (16 * c + c2) = nI (c * 100 + c2) := by
          rw [enc_ne (by omega)]
          congr 1
          omega
        rw [e, e2]
        refine call_of_wp (by decide) (Nat.le_of_ble_eq_true rfl) ?_
        refine wp_aload_n (pc := 0) (i := 0) dX5_move_0 rfl rfl (by first | with_reducible assumption | rfl) ?_
        refine wp_iload_n (pc := 1) (i := 1) dX5_move_1 rfl rfl ?_
        refine wp_cVP1 (pc := 2) (ci := 5) dX5_move_2 lm_X5_105 m_X5_isCell (by first | with_reducible assumption | rfl) (by first | with_reducible assumption | rfl) (by decide) rfl (Nat.le_of_ble_eq_true rfl) (sp_X5_isCell hF) ?_
        rw [hx]
        refine wp_if_eqB (pc := 5) (tgt := 16) dX5_move_5 (by decide) (fun c_5 => ?_) (fun c_5 => ?_)
        · exact Bool.noConfusion c_5
        · refine wp_aload_n (pc := 8) (i := 0) dX5_move_8 rfl rfl (by first | with_reducible assumption | rfl) ?_
          refine wp_iload_n (pc := 9) (i := 2) dX5_move_9 rfl rfl ?_
          refine wp_cVP1 (pc := 10) (ci := 5) dX5_move_10 lm_X5_105 m_X5_isCell (by first | with_reducible assumption | rfl) (by first | with_reducible assumption | rfl) (by decide) rfl (Nat.le_of_ble_eq_true rfl) (sp_X5_isCell hF) ?_
          rw [hy]
          refine wp_if_neB (pc := 13) (tgt := 18) dX5_move_13 (by decide) (fun c_13 => ?_) (fun c_13 => ?_)
          · refine wp_iload_n (pc := 18) (i := 1) dX5_move_18 rfl rfl ?_
            refine wp_bipush (pc := 19) (v := nI 100) dX5_move_19 (by decide +kernel) ?_
            first | (refine wp_imulN (pc := 21) dX5_move_21 ?_) | (refine wp_imul (pc := 21) dX5_move_21 ?_)
            refine wp_iload_n (pc := 22) (i := 2) dX5_move_22 rfl rfl ?_
            first | (refine wp_iaddN (pc := 23) dX5_move_23 ?_) | (refine wp_iadd (pc := 23) dX5_move_23 ?_)
            refine wp_istore_n (pc := 24) (i := 3) dX5_move_24 rfl (by decide) ?_
            refine wp_aload_n (pc := 25) (i := 0) dX5_move_25 rfl rfl (by first | with_reducible assumption | rfl) ?_
            refine wp_aload_n (pc := 26) (i := 0) dX5_move_26 rfl rfl (by first | with_reducible assumption | rfl) ?_
            refine wp_getR (pc := 27) dX5_move_27 lf_X5_32 (by first | with_reducible assumption | rfl) (by first | with_reducible assumption | rfl) rfl (by first | with_reducible assumption | rfl) (by first | with_reducible assumption | rfl) ?_
            refine wp_iload_n (pc := 30) (i := 3) dX5_move_30 rfl rfl ?_
            refine wp_cVP2 (pc := 31) (ci := 5) dX5_move_31 lm_X5_140 m_X5_may (by first | with_reducible assumption | rfl) (by first | with_reducible assumption | rfl) (by decide) rfl (Nat.le_of_ble_eq_true rfl) (sp_X5_may isP12 hF hb hB (by omega)) ?_
            rw [eM]
            refine wp_if_neB (pc := 34) (tgt := 40) dX5_move_34 (by decide) (fun c_34 => ?_) (fun c_34 => ?_)
            · refine wp_aload_n (pc := 40) (i := 0) dX5_move_40 rfl rfl (by first | with_reducible assumption | rfl) ?_
              refine wp_getR (pc := 41) dX5_move_41 lf_X5_32 (by first | with_reducible assumption | rfl) (by first | with_reducible assumption | rfl) rfl (by first | with_reducible assumption | rfl) (by first | with_reducible assumption | rfl) ?_
              refine wp_iload_n (pc := 44) (i := 2) dX5_move_44 rfl rfl ?_
              refine wp_cVP1 (pc := 45) (ci := 2) dX5_move_45 lm_X5_109 m_X2_sign (by first | with_reducible assumption | rfl) (by first | with_reducible assumption | rfl) (by decide) rfl (Nat.le_of_ble_eq_true rfl) (sp_X2_sign isP12 hb hB.1 (by omega)) ?_
              refine wp_istore (pc := 48) dX5_move_48 (by decide) ?_
              refine wp_aload_n (pc := 50) (i := 0) dX5_move_50 rfl rfl (by first | with_reducible assumption | rfl) ?_
              refine wp_getR (pc := 51) dX5_move_51 lf_X5_41 (by first | with_reducible assumption | rfl) (by first | with_reducible assumption | rfl) rfl (by first | with_reducible assumption | rfl) (by first | with_reducible assumption | rfl) ?_
              refine wp_aload_n (pc := 54) (i := 0) dX5_move_54 rfl rfl (by first | with_reducible assumption | rfl) ?_
              refine wp_getR (pc := 55) dX5_move_55 lf_X5_32 (by first | with_reducible assumption | rfl) (by first | with_reducible assumption | rfl) rfl (by first | with_reducible assumption | rfl) (by first | with_reducible assumption | rfl) ?_
              refine wp_cVV1 (pc := 58) (ci := 1) dX5_move_58 lm_X5_144 m_X1_add (by first | with_reducible assumption | rfl) (by first | with_reducible assumption | rfl) (by decide) rfl (Nat.le_of_ble_eq_true rfl) (sp_X1_add hP isP12 hb) (fun I_58 J_58 h_58 => ?_)
              obtain ⟨g1, g2, g3⟩ := h_58
              have hb2 : PL 12 b I_58 J_58 := ⟨fun i x y => by rw [g2 12 i (by omega)]; exact hb.1 i x y, fun i x y => by rw [g3 12 i (by omega)]; exact hb.2 i x y⟩
              have hlast2 : I_58 3 7 = nI last := by rw [g2 3 7 (by omega)]; exact hlast
              refine wp_aload_n (pc := 61) (i := 0) dX5_move_61 rfl rfl (by first | with_reducible assumption | rfl) ?_
              refine wp_getR (pc := 62) dX5_move_62 lf_X5_32 (by first | with_reducible assumption | rfl) (by first | with_reducible assumption | rfl) rfl (by first | with_reducible assumption | rfl) (by first | with_reducible assumption | rfl) ?_
              refine wp_iload_n (pc := 65) (i := 3) dX5_move_65 rfl rfl ?_
              refine wp_aload_n (pc := 66) (i := 0) dX5_move_66 rfl rfl (by first | with_reducible assumption | rfl) ?_
              refine wp_getR (pc := 67) dX5_move_67 lf_X5_19 (by first | with_reducible assumption | rfl) (by first | with_reducible assumption | rfl) rfl (by first | with_reducible assumption | rfl) (by first | with_reducible assumption | rfl) ?_
              refine wp_getI (pc := 70) dX5_move_70 lf_X5_146 (by first | with_reducible assumption | rfl) (by first | with_reducible assumption | rfl) rfl ?_
              rw [hlast2, ← eE]
              refine wp_cVV2 (pc := 73) (ci := 2) dX5_move_73 lm_X5_148 m_X2_make (by first | with_reducible assumption | rfl) (by first | with_reducible assumption | rfl) (by decide) rfl (Nat.le_of_ble_eq_true rfl) (sp_X2_make isP12 hb2 hB.1 hB.2.1 hB.2.2.1 hB.2.2.2.1 hleg.1 hl9) (fun I_73 J_73 h_73 => ?_)
              obtain ⟨rfl, rfl⟩ := h_73
              refine wp_iload (pc := 76) dX5_move_76 rfl ?_
              refine wp_cSP1 (pc := 78) dX5_move_78 lm_X5_112 m_X5_letter (Nat.le_of_ble_eq_true rfl) (sp_X5_letter (by first | with_reducible assumption | omega)) ?_
              refine wp_ireturn (pc := 81) dX5_move_81 rfl ?_
              exact aq_i rfl (RepC_ply hR hleg.1 (Or.inr hleg.2) g1 g2 g3)
            · exact Bool.noConfusion c_34
          · exact Bool.noConfusion c_13
theorem PLY_p (hwh : w * h ≤ 16) (hs : ∀ c, c < 16 → b.1 c < 12) : PLY w h b = [256] ↔ (PLY w h b).length = 1 ∧ (PLY w h b).getD 0 0 = 256 := by
  constructor
  · intro e; rw [e]; exact ⟨rfl, rfl⟩
  · rintro ⟨e1, e2⟩
    obtain ⟨a, ha⟩ := List.length_eq_one_iff.mp e1
    rw [ha] at e2 ⊢
    have : a = 256 := e2
    rw [this]
theorem enc_pass {x : Nat} (hx : x = 256 ∨ x < 256) : encC x = -9 ↔ x = 256 := by
  constructor
  · intro e
    rcases hx with y | y
    · exact y
    · rw [enc_ne y] at e
      have : x / 16 < 16 := by omega
      exact absurd (by rw [e]; decide) (nI_pos (n := x / 16 * 100 + x % 16) (by omega))
  · rintro rfl; rfl
theorem PLY_lt {x : Nat} (hx : x ∈ PLY w h b) : x = 256 ∨ x < 256 := by
  unfold PLY at hx
  split at hx
  · cases hx
  · split at hx
    · rw [List.mem_singleton] at hx; exact Or.inl hx
    · unfold plL at hx
      rw [List.mem_filter, List.mem_range] at hx
      exact Or.inr hx.1
theorem lsM_5 {p k : Nat} {l : List Nat} (hk : k < l.length) : lsM p l I (p + 5) k = encC (l.getD k 0) := by
  have e1 : ¬ (p + 5 = p ∧ k = 2) := by omega
  unfold lsM
  rw [if_neg e1, if_pos ⟨rfl, hk⟩]
set_option maxHeartbeats 16000000 in
theorem sp_X5_pass (hR : RepC t w h last b ps f z I J) : CALL ΩC (d + 5) kX5_pass [.ref 0] I J (AQ (aPass w h b) (sPass (t, (w, h, last), b, ps, f, z))) := by
  have hwh := RepC_16 hR
  have hF := hR.2.2.1
  have hb := hR.2.2.2.1.1
  have hB := hR.2.2.2.1.2
  have hl9 := hR.1
  have hlen := PLY_len (w := w) (h := h) hB.2.2.2.1
  have hlist := sp_X2_list (d := d) isP12 hF hb hB.1 hB.2.2.2.2.2 hB.2.2.2.1 hB.2.2.2.2.1
  have hR2 : RepC t w h last b ps f z (lsM 12 (PLY w h b) I) J := RepC_fr hR fr_ls
  have hF2 := hR2.2.2.1
  have hb2 := hR2.2.2.2.1.1
  have hP2 := hR2.2.2.2.2.1.1
  have hlast : lsM 12 (PLY w h b) I 3 7 = nI last := hF2.2.2.2.1
  by_cases h1 : (PLY w h b).length = 1
  · have hg := PLY_get (w := w) (h := h) (b := b) (k := 0) (by omega)
    have hply := sp_X2_ply (d := d + 3) (J := J) (PLY w h b) isP12 (lsM_2 (I := I)) hlen (fun k hk => lsM_5 hk) (k := 0) (by omega)
    by_cases h2 : (PLY w h b).getD 0 0 = 256
    · have e0 := (PLY_p (b := b) hwh hB.1).mpr ⟨h1, h2⟩
      have e : aPass w h b = nI (1 - b.2.2.1) := if_pos e0
      have e2 : sPass (t, (w, h, last), b, ps, f, z) = (t, (w, h, last), mkB last b 256, psh ps b, f, z) := if_pos e0
      have hleg : legX b 256 := Or.inl rfl
      have e9 : ∀ I1, wI 12 (mkB last b 256) I1 12 9 = nI (1 - b.2.2.1) := fun I1 => by
        rw [(PL_w (p := 12) (b := mkB last b 256) (I := I1) (J := J)).1 9 (by omega) (by omega)]
        rfl
      rw [h2] at hply
      rw [e, e2]
      refine call_of_wp (by decide) (Nat.le_of_ble_eq_true rfl) ?_
      refine wp_aload_n (pc := 0) (i := 0) dX5_pass_0 rfl rfl (by first | with_reducible assumption | rfl) ?_
      refine wp_getR (pc := 1) dX5_pass_1 lf_X5_32 (by first | with_reducible assumption | rfl) (by first | with_reducible assumption | rfl) rfl (by first | with_reducible assumption | rfl) (by first | with_reducible assumption | rfl) ?_
      refine wp_aload_n (pc := 4) (i := 0) dX5_pass_4 rfl rfl (by first | with_reducible assumption | rfl) ?_
      refine wp_getR (pc := 5) dX5_pass_5 lf_X5_19 (by first | with_reducible assumption | rfl) (by first | with_reducible assumption | rfl) rfl (by first | with_reducible assumption | rfl) (by first | with_reducible assumption | rfl) ?_
      refine wp_cVI1 (pc := 8) (ci := 2) dX5_pass_8 lm_X5_136 m_X2_list (by first | with_reducible assumption | rfl) (by first | with_reducible assumption | rfl) (by decide) rfl (Nat.le_of_ble_eq_true rfl) hlist (fun x_8 I_8 J_8 h_8 => ?_)
      obtain ⟨rfl, rfl, rfl⟩ := h_8
      rw [h1]
      refine wp_iconst (pc := 11) (v := nI 1) dX5_pass_11 (by decide +kernel) ?_
      first | (refine wp_icmp_neN (pc := 12) (tgt := 28) dX5_pass_12 (by decide) (by first | with_reducible assumption | omega) (by first | with_reducible assumption | omega) (fun c_12 => ?_) (fun c_12 => ?_)) | (refine wp_icmp_ne (pc := 12) (tgt := 28) dX5_pass_12 (by decide) (fun c_12 => ?_) (fun c_12 => ?_))
      · exact absurd rfl c_12
      · refine wp_aload_n (pc := 15) (i := 0) dX5_pass_15 rfl rfl (by first | with_reducible assumption | rfl) ?_
        refine wp_getR (pc := 16) dX5_pass_16 lf_X5_32 (by first | with_reducible assumption | rfl) (by first | with_reducible assumption | rfl) rfl (by first | with_reducible assumption | rfl) (by first | with_reducible assumption | rfl) ?_
        refine wp_iconst (pc := 19) (v := nI 0) dX5_pass_19 (by decide +kernel) ?_
        refine wp_cVP1 (pc := 20) (ci := 2) dX5_pass_20 lm_X5_151 m_X2_ply (by first | with_reducible assumption | rfl) (by first | with_reducible assumption | rfl) (by decide) rfl (Nat.le_of_ble_eq_true rfl) hply ?_
        rw [show encC 256 = -9 from rfl]
        refine wp_bipush (pc := 23) (v := (-9)) dX5_pass_23 (by decide +kernel) ?_
        refine wp_icmp_eq (pc := 25) (tgt := 31) dX5_pass_25 (by decide) (fun c_25 => ?_) (fun c_25 => ?_)
        · refine wp_aload_n (pc := 31) (i := 0) dX5_pass_31 rfl rfl (by first | with_reducible assumption | rfl) ?_
          refine wp_getR (pc := 32) dX5_pass_32 lf_X5_41 (by first | with_reducible assumption | rfl) (by first | with_reducible assumption | rfl) rfl (by first | with_reducible assumption | rfl) (by first | with_reducible assumption | rfl) ?_
          refine wp_aload_n (pc := 35) (i := 0) dX5_pass_35 rfl rfl (by first | with_reducible assumption | rfl) ?_
          refine wp_getR (pc := 36) dX5_pass_36 lf_X5_32 (by first | with_reducible assumption | rfl) (by first | with_reducible assumption | rfl) rfl (by first | with_reducible assumption | rfl) (by first | with_reducible assumption | rfl) ?_
          refine wp_cVV1 (pc := 39) (ci := 1) dX5_pass_39 lm_X5_144 m_X1_add (by first | with_reducible assumption | rfl) (by first | with_reducible assumption | rfl) (by decide) rfl (Nat.le_of_ble_eq_true rfl) (sp_X1_add hP2 isP12 hb2) (fun I_39 J_39 h_39 => ?_)
          obtain ⟨g1, g2, g3⟩ := h_39
          have hb3 : PL 12 b I_39 J_39 := ⟨fun i x y => by rw [g2 12 i (by omega)]; exact hb2.1 i x y, fun i x y => by rw [g3 12 i (by omega)]; exact hb2.2 i x y⟩
          have hlast2 : I_39 3 7 = nI last := by rw [g2 3 7 (by omega)]; exact hlast
          refine wp_aload_n (pc := 42) (i := 0) dX5_pass_42 rfl rfl (by first | with_reducible assumption | rfl) ?_
          refine wp_getR (pc := 43) dX5_pass_43 lf_X5_32 (by first | with_reducible assumption | rfl) (by first | with_reducible assumption | rfl) rfl (by first | with_reducible assumption | rfl) (by first | with_reducible assumption | rfl) ?_
          refine wp_bipush (pc := 46) (v := (-9)) dX5_pass_46 (by decide +kernel) ?_
          refine wp_aload_n (pc := 48) (i := 0) dX5_pass_48 rfl rfl (by first | with_reducible assumption | rfl) ?_
          refine wp_getR (pc := 49) dX5_pass_49 lf_X5_19 (by first | with_reducible assumption | rfl) (by first | with_reducible assumption | rfl) rfl (by first | with_reducible assumption | rfl) (by first | with_reducible assumption | rfl) ?_
          refine wp_getI (pc := 52) dX5_pass_52 lf_X5_146 (by first | with_reducible assumption | rfl) (by first | with_reducible assumption | rfl) rfl ?_
          rw [hlast2, show (-9 : Int32) = encC 256 from rfl]
          refine wp_cVV2 (pc := 55) (ci := 2) dX5_pass_55 lm_X5_148 m_X2_make (by first | with_reducible assumption | rfl) (by first | with_reducible assumption | rfl) (by decide) rfl (Nat.le_of_ble_eq_true rfl) (sp_X2_make isP12 hb3 hB.1 hB.2.1 hB.2.2.1 hB.2.2.2.1 hleg hl9) (fun I_55 J_55 h_55 => ?_)
          obtain ⟨rfl, rfl⟩ := h_55
          refine wp_aload_n (pc := 58) (i := 0) dX5_pass_58 rfl rfl (by first | with_reducible assumption | rfl) ?_
          refine wp_getR (pc := 59) dX5_pass_59 lf_X5_32 (by first | with_reducible assumption | rfl) (by first | with_reducible assumption | rfl) rfl (by first | with_reducible assumption | rfl) (by first | with_reducible assumption | rfl) ?_
          refine wp_getI (pc := 62) dX5_pass_62 lf_X5_100 (by first | with_reducible assumption | rfl) (by first | with_reducible assumption | rfl) rfl ?_
          rw [e9]
          refine wp_ireturn (pc := 65) dX5_pass_65 rfl ?_
          exact aq_i rfl (RepC_ply hR2 hleg (Or.inl rfl) g1 g2 g3)
        · exact absurd rfl c_25
    · have e0 : ¬ PLY w h b = [256] := fun y => h2 ((PLY_p (b := b) hwh hB.1).mp y).2
      have e : aPass w h b = -3 := if_neg e0
      have e2 : sPass (t, (w, h, last), b, ps, f, z) = (t, (w, h, last), b, ps, f, z) := if_neg e0
      have hne : ¬ encC ((PLY w h b).getD 0 0) = -9 := fun y => h2 ((enc_pass (PLY_lt hg)).mp y)
      rw [e, e2]
      refine call_of_wp (by decide) (Nat.le_of_ble_eq_true rfl) ?_
      refine wp_aload_n (pc := 0) (i := 0) dX5_pass_0 rfl rfl (by first | with_reducible assumption | rfl) ?_
      refine wp_getR (pc := 1) dX5_pass_1 lf_X5_32 (by first | with_reducible assumption | rfl) (by first | with_reducible assumption | rfl) rfl (by first | with_reducible assumption | rfl) (by first | with_reducible assumption | rfl) ?_
      refine wp_aload_n (pc := 4) (i := 0) dX5_pass_4 rfl rfl (by first | with_reducible assumption | rfl) ?_
      refine wp_getR (pc := 5) dX5_pass_5 lf_X5_19 (by first | with_reducible assumption | rfl) (by first | with_reducible assumption | rfl) rfl (by first | with_reducible assumption | rfl) (by first | with_reducible assumption | rfl) ?_
      refine wp_cVI1 (pc := 8) (ci := 2) dX5_pass_8 lm_X5_136 m_X2_list (by first | with_reducible assumption | rfl) (by first | with_reducible assumption | rfl) (by decide) rfl (Nat.le_of_ble_eq_true rfl) hlist (fun x_8 I_8 J_8 h_8 => ?_)
      obtain ⟨rfl, rfl, rfl⟩ := h_8
      rw [h1]
      refine wp_iconst (pc := 11) (v := nI 1) dX5_pass_11 (by decide +kernel) ?_
      first | (refine wp_icmp_neN (pc := 12) (tgt := 28) dX5_pass_12 (by decide) (by first | with_reducible assumption | omega) (by first | with_reducible assumption | omega) (fun c_12 => ?_) (fun c_12 => ?_)) | (refine wp_icmp_ne (pc := 12) (tgt := 28) dX5_pass_12 (by decide) (fun c_12 => ?_) (fun c_12 => ?_))
      · exact absurd rfl c_12
      · refine wp_aload_n (pc := 15) (i := 0) dX5_pass_15 rfl rfl (by first | with_reducible assumption | rfl) ?_
        refine wp_getR (pc := 16) dX5_pass_16 lf_X5_32 (by first | with_reducible assumption | rfl) (by first | with_reducible assumption | rfl) rfl (by first | with_reducible assumption | rfl) (by first | with_reducible assumption | rfl) ?_
        refine wp_iconst (pc := 19) (v := nI 0) dX5_pass_19 (by decide +kernel) ?_
        refine wp_cVP1 (pc := 20) (ci := 2) dX5_pass_20 lm_X5_151 m_X2_ply (by first | with_reducible assumption | rfl) (by first | with_reducible assumption | rfl) (by decide) rfl (Nat.le_of_ble_eq_true rfl) hply ?_
        refine wp_bipush (pc := 23) (v := (-9)) dX5_pass_23 (by decide +kernel) ?_
        refine wp_icmp_eq (pc := 25) (tgt := 31) dX5_pass_25 (by decide) (fun c_25 => ?_) (fun c_25 => ?_)
        · exact absurd c_25 hne
        · refine wp_bipush (pc := 28) (v := (-3)) dX5_pass_28 (by decide +kernel) ?_
          refine wp_ireturn (pc := 30) dX5_pass_30 rfl ?_
          exact aq_i rfl hR2
  · have e0 : ¬ PLY w h b = [256] := fun y => h1 ((PLY_p (b := b) hwh hB.1).mp y).1
    have e : aPass w h b = -3 := if_neg e0
    have e2 : sPass (t, (w, h, last), b, ps, f, z) = (t, (w, h, last), b, ps, f, z) := if_neg e0
    rw [e, e2]
    refine call_of_wp (by decide) (Nat.le_of_ble_eq_true rfl) ?_
    refine wp_aload_n (pc := 0) (i := 0) dX5_pass_0 rfl rfl (by first | with_reducible assumption | rfl) ?_
    refine wp_getR (pc := 1) dX5_pass_1 lf_X5_32 (by first | with_reducible assumption | rfl) (by first | with_reducible assumption | rfl) rfl (by first | with_reducible assumption | rfl) (by first | with_reducible assumption | rfl) ?_
    refine wp_aload_n (pc := 4) (i := 0) dX5_pass_4 rfl rfl (by first | with_reducible assumption | rfl) ?_
    refine wp_getR (pc := 5) dX5_pass_5 lf_X5_19 (by first | with_reducible assumption | rfl) (by first | with_reducible assumption | rfl) rfl (by first | with_reducible assumption | rfl) (by first | with_reducible assumption | rfl) ?_
    refine wp_cVI1 (pc := 8) (ci := 2) dX5_pass_8 lm_X5_136 m_X2_list (by first | with_reducible assumption | rfl) (by first | with_reducible assumption | rfl) (by decide) rfl (Nat.le_of_ble_eq_true rfl) hlist (fun x_8 I_8 J_8 h_8 => ?_)
    obtain ⟨rfl, rfl, rfl⟩ := h_8
    refine wp_iconst (pc := 11) (v := nI 1) dX5_pass_11 (by decide +kernel) ?_
    first | (refine wp_icmp_neN (pc := 12) (tgt := 28) dX5_pass_12 (by decide) (by first | with_reducible assumption | omega) (by first | with_reducible assumption | omega) (fun c_12 => ?_) (fun c_12 => ?_)) | (refine wp_icmp_ne (pc := 12) (tgt := 28) dX5_pass_12 (by decide) (fun c_12 => ?_) (fun c_12 => ?_))
    · refine wp_bipush (pc := 28) (v := (-3)) dX5_pass_28 (by decide +kernel) ?_
      refine wp_ireturn (pc := 30) dX5_pass_30 rfl ?_
      exact aq_i rfl hR2
    · exact absurd c_12 h1
set_option maxHeartbeats 16000000 in
theorem sp_X5_undo (hR : RepC t w h last b ps f z I J) : CALL ΩC (d + 5) kX5_undo [.ref 0] I J (AQ (aUndo ps) (sUndo (t, (w, h, last), b, ps, f, z))) := by
  have hb := hR.2.2.2.1.1
  have hB := hR.2.2.2.1.2
  have hP := hR.2.2.2.2.1.1
  have hL := PT_len hP
  rcases List.eq_nil_or_concat ps with h0 | ⟨qs, c, h0⟩
  · subst h0
    have hL0 : I 19 2 = nI 0 := hL.1
    have e2 : sUndo (t, (w, h, last), b, [], f, z) = (t, (w, h, last), b, [], f, z) := rfl
    have e : aUndo [] = -3 := rfl
    rw [e, e2]
    refine call_of_wp (by decide) (Nat.le_of_ble_eq_true rfl) ?_
    refine wp_aload_n (pc := 0) (i := 0) dX5_undo_0 rfl rfl (by first | with_reducible assumption | rfl) ?_
    refine wp_getR (pc := 1) dX5_undo_1 lf_X5_41 (by first | with_reducible assumption | rfl) (by first | with_reducible assumption | rfl) rfl (by first | with_reducible assumption | rfl) (by first | with_reducible assumption | rfl) ?_
    refine wp_getI (pc := 4) dX5_undo_4 lf_X5_154 (by first | with_reducible assumption | rfl) (by first | with_reducible assumption | rfl) rfl ?_
    rw [hL0]
    refine wp_iconst (pc := 7) (v := nI 1) dX5_undo_7 (by decide +kernel) ?_
    first | (refine wp_icmp_geN (pc := 8) (tgt := 14) dX5_undo_8 (by decide) (by first | with_reducible assumption | omega) (by first | with_reducible assumption | omega) (fun c_8 => ?_) (fun c_8 => ?_)) | (refine wp_icmp_ge (pc := 8) (tgt := 14) dX5_undo_8 (by decide) (fun c_8 => ?_) (fun c_8 => ?_))
    · exact absurd c_8 (by decide)
    · refine wp_bipush (pc := 11) (v := (-3)) dX5_undo_11 (by decide +kernel) ?_
      refine wp_ireturn (pc := 13) dX5_undo_13 rfl ?_
      exact aq_i rfl hR
  · rw [List.concat_eq_append] at h0
    subst h0
    have hlen : (qs ++ [c]).length = qs.length + 1 := by rw [List.length_append, List.length_singleton]
    have hL0 : I 19 2 = nI (qs.length + 1) := by rw [hL.1, hlen]
    have h16 : qs.length + 1 ≤ 16 := by rw [← hlen]; exact hL.2
    have e2 : sUndo (t, (w, h, last), b, qs ++ [c], f, z) = (t, (w, h, last), c, qs, f, z) := by
      unfold sUndo
      show (match (qs ++ [c]).getLast? with | none => _ | some c' => _) = _
      rw [List.getLast?_append, List.getLast?_singleton]
      show (t, (w, h, last), c, (qs ++ [c]).dropLast, f, z) = _
      rw [List.dropLast_concat]
    have e : aUndo (qs ++ [c]) = nI qs.length := by
      unfold aUndo
      rw [if_neg (by simp), hlen]
      rfl
    have hBc : Bok (w * h) c := hR.2.2.2.2.1.2 c (by simp)
    rw [e, e2]
    refine call_of_wp (by decide) (Nat.le_of_ble_eq_true rfl) ?_
    refine wp_aload_n (pc := 0) (i := 0) dX5_undo_0 rfl rfl (by first | with_reducible assumption | rfl) ?_
    refine wp_getR (pc := 1) dX5_undo_1 lf_X5_41 (by first | with_reducible assumption | rfl) (by first | with_reducible assumption | rfl) rfl (by first | with_reducible assumption | rfl) (by first | with_reducible assumption | rfl) ?_
    refine wp_getI (pc := 4) dX5_undo_4 lf_X5_154 (by first | with_reducible assumption | rfl) (by first | with_reducible assumption | rfl) rfl ?_
    rw [hL0]
    refine wp_iconst (pc := 7) (v := nI 1) dX5_undo_7 (by decide +kernel) ?_
    first | (refine wp_icmp_geN (pc := 8) (tgt := 14) dX5_undo_8 (by decide) (by first | with_reducible assumption | omega) (by first | with_reducible assumption | omega) (fun c_8 => ?_) (fun c_8 => ?_)) | (refine wp_icmp_ge (pc := 8) (tgt := 14) dX5_undo_8 (by decide) (fun c_8 => ?_) (fun c_8 => ?_))
    · refine wp_aload_n (pc := 14) (i := 0) dX5_undo_14 rfl rfl (by first | with_reducible assumption | rfl) ?_
      refine wp_getR (pc := 15) dX5_undo_15 lf_X5_41 (by first | with_reducible assumption | rfl) (by first | with_reducible assumption | rfl) rfl (by first | with_reducible assumption | rfl) (by first | with_reducible assumption | rfl) ?_
      refine wp_aload_n (pc := 18) (i := 0) dX5_undo_18 rfl rfl (by first | with_reducible assumption | rfl) ?_
      refine wp_getR (pc := 19) dX5_undo_19 lf_X5_32 (by first | with_reducible assumption | rfl) (by first | with_reducible assumption | rfl) rfl (by first | with_reducible assumption | rfl) (by first | with_reducible assumption | rfl) ?_
      refine wp_cVV1 (pc := 22) (ci := 1) dX5_undo_22 lm_X5_157 m_X1_takeLast (by first | with_reducible assumption | rfl) (by first | with_reducible assumption | rfl) (by decide) rfl (Nat.le_of_ble_eq_true rfl) (sp_X1_takeLast hP hBc.2.2.2.1 hBc.2.2.2.2.1 hBc.1 isP12 hb hB.1) (fun I_22 J_22 h_22 => ?_)
      obtain ⟨g1, rfl, rfl⟩ := h_22
      have hL1 := (PT_len g1).1
      refine wp_aload_n (pc := 25) (i := 0) dX5_undo_25 rfl rfl (by first | with_reducible assumption | rfl) ?_
      refine wp_getR (pc := 26) dX5_undo_26 lf_X5_41 (by first | with_reducible assumption | rfl) (by first | with_reducible assumption | rfl) rfl (by first | with_reducible assumption | rfl) (by first | with_reducible assumption | rfl) ?_
      refine wp_getI (pc := 29) dX5_undo_29 lf_X5_154 (by first | with_reducible assumption | rfl) (by first | with_reducible assumption | rfl) rfl ?_
      rw [hL1]
      refine wp_ireturn (pc := 32) dX5_undo_32 rfl ?_
      refine aq_i rfl (RepC_bd hR ⟨fun a i y => ?_, fun a i y => wJ_n (by omega)⟩ PL_w hBc g1 (fun c2 hc2 => hR.2.2.2.2.1.2 c2 (List.mem_append_left _ hc2)))
      have y1 : ¬ a = 12 := by omega
      have y2 : ¬ a = 19 := by omega
      simp [wI, uI, y1, y2]
    · exact absurd (show 1 ≤ qs.length + 1 by omega) c_8
end PU2
