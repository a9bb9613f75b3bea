/-! THE REFERENCE'S CALLS, 3: pass, undo, keep, again -/
section MC2
variable {d : Nat} {I : MemI} {J : MemJ} {t : List Nat} {w h last : Nat} {b : Bd} {ps : List Bd} {f : Nat → Option Bd} {z : Int64}
theorem PLY_256 (hB : Bok (w * h) b) : PLY w h b = [256] ↔ b.2.2.2 = 2 ∧ (PLY w h b).getD 0 0 = 256 := by
  constructor
  · intro e
    have : (256 : Nat) ∈ PLY w h b := by rw [e]; exact List.mem_singleton.mpr rfl
    exact ⟨(PLY_mem hB.1 this).1, by rw [e]; rfl⟩
  · rintro ⟨e1, e2⟩
    unfold PLY at e2 ⊢
    rw [if_neg (fun y => y e1)] at e2 ⊢
    by_cases hn : plL w h b 256 = []
    · rw [if_pos hn]
    · rw [if_neg hn] at e2
      have hl : 0 < (plL w h b 256).length := List.length_pos_iff.mpr hn
      have := plL_lt (getD_mem hl)
      omega
theorem PLY_pos (hB : Bok (w * h) b) (hl : b.2.2.2 = 2) : 0 < (PLY w h b).length := by
  unfold PLY
  rw [if_neg (fun y => y hl)]
  split
  · decide
  · rename_i hn
    exact List.length_pos_iff.mpr hn
theorem encM_9 {x : Nat} (hx : x = 256 ∨ x < 256) : encM x = 999 ↔ x = 256 := by
  unfold encM
  split <;> omega
set_option maxHeartbeats 16000000 in
theorem sp_X6_pass (hR : RepM t w h last b ps f z I J) : CALL ΩM (d + 7) kX6_pass [.ref 0] I J (AM (aPass w h b) (sPass (t, (w, h, last), b, ps, f, z))) := by
  have hB := hR.2.2.2.1.2
  have hli := sp_X6_list (d := d) (J := J) hR.2.2.1.1 hR.2.2.2.1.1 hB (k := 0) (by decide)
  have hl3 := hB.2.2.2.2.1
  by_cases hl : b.2.2.2 = 2
  · have hpos := PLY_pos (w := w) (h := h) hB hl
    have hx := PLY_lt (PLY_get hpos)
    by_cases h0 : (PLY w h b).getD 0 0 = 256
    · have e0 := (PLY_256 hB).mpr ⟨hl, h0⟩
      have e : aPass w h b = nI (1 - b.2.2.1) := if_pos e0
      have e2 : sPass (t, (w, h, last), b, ps, f, z) = (t, (w, h, last), mkB last b 256, psh ps b, f, z) := if_pos e0
      have hok : okP (w * h) b 256 := Or.inl rfl
      rw [e, e2]
      refine call_of_wp (by decide) (Nat.le_of_ble_eq_true rfl) ?_
      refine wp_aload_n (pc := 0) (i := 0) dX6_pass_0 rfl rfl (by first | with_reducible assumption | rfl) ?_
      refine wp_iconst (pc := 1) (v := nI 0) dX6_pass_1 (by decide +kernel) ?_
      refine wp_cVI1 (pc := 2) (ci := 6) dX6_pass_2 lm_X6_130 m_X6_list (by first | with_reducible assumption | rfl) (by first | with_reducible assumption | rfl) (by decide) rfl (Nat.le_of_ble_eq_true rfl) hli (fun x_2 I_2 J_2 h_2 => ?_)
      obtain ⟨rfl, q1, q2, rfl⟩ := h_2
      have hR2 := RepM_fr hR (LsT_fr q1)
      have f4 : I_2 4 0 = -9 := by rw [hR2.2.2.2.1.1.2.2, hl]; rfl
      have f6 : I_2 6 0 = nI 999 := by
        have := q1.1 0 hpos
        rw [h0] at this
        exact this
      obtain ⟨nx, p1, p2, p3, p4, p5⟩ := hR2.2.2.2.2.1.1
      have hkp := sp_X6_keepPly (d := d + 6) (J := J_2) hR2.2.2.2.1.1 p2 p3 p1 p4
      refine wp_pop (pc := 5) dX6_pass_5 rfl ?_
      refine wp_aload_n (pc := 6) (i := 0) dX6_pass_6 rfl rfl (by first | with_reducible assumption | rfl) ?_
      refine wp_getR (pc := 7) dX6_pass_7 lf_X6_19 (by first | with_reducible assumption | rfl) (by first | with_reducible assumption | rfl) rfl (by first | with_reducible assumption | rfl) (by first | with_reducible assumption | rfl) ?_
      refine wp_iconst (pc := 10) (v := nI 0) dX6_pass_10 (by decide +kernel) ?_
      refine wp_iald (pc := 11) dX6_pass_11 (by first | with_reducible assumption | rfl) (by first | with_reducible assumption | rfl) (by first | with_reducible assumption | omega) (by first | decide | omega) ?_
      rw [f4]
      refine wp_bipush (pc := 12) (v := (-9)) dX6_pass_12 (by decide +kernel) ?_
      refine wp_icmp_ne (pc := 14) (tgt := 29) dX6_pass_14 (by decide) (fun c_14 => ?_) (fun c_14 => ?_)
      · exact absurd rfl c_14
      · refine wp_aload_n (pc := 17) (i := 0) dX6_pass_17 rfl rfl (by first | with_reducible assumption | rfl) ?_
        refine wp_getR (pc := 18) dX6_pass_18 lf_X6_25 (by first | with_reducible assumption | rfl) (by first | with_reducible assumption | rfl) rfl (by first | with_reducible assumption | rfl) (by first | with_reducible assumption | rfl) ?_
        refine wp_iconst (pc := 21) (v := nI 0) dX6_pass_21 (by decide +kernel) ?_
        refine wp_iald (pc := 22) dX6_pass_22 (by first | with_reducible assumption | rfl) (by first | with_reducible assumption | rfl) (by first | with_reducible assumption | omega) (by first | decide | omega) ?_
        rw [f6]
        refine wp_sipush (pc := 23) (v := nI 999) dX6_pass_23 (by decide +kernel) ?_
        first | (refine wp_icmp_eqN (pc := 26) (tgt := 32) dX6_pass_26 (by decide) (by first | with_reducible assumption | omega) (by first | with_reducible assumption | omega) (fun c_26 => ?_) (fun c_26 => ?_)) | (refine wp_icmp_eq (pc := 26) (tgt := 32) dX6_pass_26 (by decide) (fun c_26 => ?_) (fun c_26 => ?_))
        · refine wp_aload_n (pc := 32) (i := 0) dX6_pass_32 rfl rfl (by first | with_reducible assumption | rfl) ?_
          refine wp_cVV0 (pc := 33) (ci := 6) dX6_pass_33 lm_X6_140 m_X6_keepPly (by first | with_reducible assumption | rfl) (by first | with_reducible assumption | rfl) (by decide) rfl (Nat.le_of_ble_eq_true rfl) hkp (fun I_33 J_33 h_33 => ?_)
          obtain ⟨g1, g2, g3, g4, rfl⟩ := h_33
          have hPm := PM_psh p2 p3 p4 p5 g1 g2 g3 g4
          have hfr1 : ∀ a i, ¬ a = 8 → ¬ (a = 0 ∧ (i = 11 ∨ i = 12)) → I_33 a i = I_2 a i := fun a i y1 y2 => g4 a i (fun q => y1 q.1) y2
          have hW := hR2.2.2.1.1
          have hL1 : LX (w * h) 0 b I_33 := LX_n hR2.2.2.2.1.1 (by decide) (fun a i y1 _ _ => hfr1 a i (by omega) (by omega)) (hfr1 3 0 (by decide) (by omega)) (hfr1 4 0 (by decide) (by omega))
          have hW1 : WH w h I_33 := ⟨hW.1, by rw [hfr1 0 0 (by decide) (by omega)]; exact hW.2.1, by rw [hfr1 0 1 (by decide) (by omega)]; exact hW.2.2⟩
          have hla1 : I_33 0 2 = nI last := by rw [hfr1 0 2 (by decide) (by omega)]; exact hR2.2.2.1.2
          have hmk := sp_X6_make (d := d + 3) (J := J_33) hW1 hla1 hL1 hB hl hok (show 0 < 4 by decide) (show 0 < 4 by decide)
          refine wp_aload_n (pc := 36) (i := 0) dX6_pass_36 rfl rfl (by first | with_reducible assumption | rfl) ?_
          refine wp_iconst (pc := 37) (v := nI 0) dX6_pass_37 (by decide +kernel) ?_
          refine wp_iconst (pc := 38) (v := nI 0) dX6_pass_38 (by decide +kernel) ?_
          refine wp_sipush (pc := 39) (v := nI 999) dX6_pass_39 (by decide +kernel) ?_
          refine wp_cVI3 (pc := 42) (ci := 6) dX6_pass_42 lm_X6_143 m_X6_make (by first | with_reducible assumption | rfl) (by first | with_reducible assumption | rfl) (by decide) rfl (Nat.le_of_ble_eq_true rfl) hmk (fun x_42 I_42 J_42 h_42 => ?_)
          obtain ⟨m1, m2, m3, rfl⟩ := h_42
          have m9 : I_42 3 0 = nI (1 - b.2.2.1) := m2.2.1
          refine wp_pop (pc := 45) dX6_pass_45 rfl ?_
          refine wp_aload_n (pc := 46) (i := 0) dX6_pass_46 rfl rfl (by first | with_reducible assumption | rfl) ?_
          refine wp_getR (pc := 47) dX6_pass_47 lf_X6_16 (by first | with_reducible assumption | rfl) (by first | with_reducible assumption | rfl) rfl (by first | with_reducible assumption | rfl) (by first | with_reducible assumption | rfl) ?_
          refine wp_iconst (pc := 50) (v := nI 0) dX6_pass_50 (by decide +kernel) ?_
          refine wp_iald (pc := 51) dX6_pass_51 (by first | with_reducible assumption | rfl) (by first | with_reducible assumption | rfl) (by first | with_reducible assumption | omega) (by first | decide | omega) ?_
          rw [m9]
          refine wp_ireturn (pc := 52) dX6_pass_52 rfl ?_
          exact am_i rfl (RepM_ply hR2 hl hok hPm hfr1 m2 m3)
        · exact absurd rfl c_26
    · have e0 : ¬ PLY w h b = [256] := fun y => h0 ((PLY_256 hB).mp y).2
      have e : aPass w h b = -3 := if_neg e0
      have e2 : sPass (t, (w, h, last), b, ps, f, z) = (t, (w, h, last), b, ps, f, z) := if_neg e0
      have hne : ¬ encM ((PLY w h b).getD 0 0) = 999 := fun y => h0 ((encM_9 hx).mp y)
      have hlt : encM ((PLY w h b).getD 0 0) < 1000 := by unfold encM; split <;> omega
      rw [e, e2]
      refine call_of_wp (by decide) (Nat.le_of_ble_eq_true rfl) ?_
      refine wp_aload_n (pc := 0) (i := 0) dX6_pass_0 rfl rfl (by first | with_reducible assumption | rfl) ?_
      refine wp_iconst (pc := 1) (v := nI 0) dX6_pass_1 (by decide +kernel) ?_
      refine wp_cVI1 (pc := 2) (ci := 6) dX6_pass_2 lm_X6_130 m_X6_list (by first | with_reducible assumption | rfl) (by first | with_reducible assumption | rfl) (by decide) rfl (Nat.le_of_ble_eq_true rfl) hli (fun x_2 I_2 J_2 h_2 => ?_)
      obtain ⟨rfl, q1, q2, rfl⟩ := h_2
      have hR2 := RepM_fr hR (LsT_fr q1)
      have f4 : I_2 4 0 = -9 := by rw [hR2.2.2.2.1.1.2.2, hl]; rfl
      have f6 : I_2 6 0 = nI (encM ((PLY w h b).getD 0 0)) := q1.1 0 hpos
      refine wp_pop (pc := 5) dX6_pass_5 rfl ?_
      refine wp_aload_n (pc := 6) (i := 0) dX6_pass_6 rfl rfl (by first | with_reducible assumption | rfl) ?_
      refine wp_getR (pc := 7) dX6_pass_7 lf_X6_19 (by first | with_reducible assumption | rfl) (by first | with_reducible assumption | rfl) rfl (by first | with_reducible assumption | rfl) (by first | with_reducible assumption | rfl) ?_
      refine wp_iconst (pc := 10) (v := nI 0) dX6_pass_10 (by decide +kernel) ?_
      refine wp_iald (pc := 11) dX6_pass_11 (by first | with_reducible assumption | rfl) (by first | with_reducible assumption | rfl) (by first | with_reducible assumption | omega) (by first | decide | omega) ?_
      rw [f4]
      refine wp_bipush (pc := 12) (v := (-9)) dX6_pass_12 (by decide +kernel) ?_
      refine wp_icmp_ne (pc := 14) (tgt := 29) dX6_pass_14 (by decide) (fun c_14 => ?_) (fun c_14 => ?_)
      · exact absurd rfl c_14
      · refine wp_aload_n (pc := 17) (i := 0) dX6_pass_17 rfl rfl (by first | with_reducible assumption | rfl) ?_
        refine wp_getR (pc := 18) dX6_pass_18 lf_X6_25 (by first | with_reducible assumption | rfl) (by first | with_reducible assumption | rfl) rfl (by first | with_reducible assumption | rfl) (by first | with_reducible assumption | rfl) ?_
        refine wp_iconst (pc := 21) (v := nI 0) dX6_pass_21 (by decide +kernel) ?_
        refine wp_iald (pc := 22) dX6_pass_22 (by first | with_reducible assumption | rfl) (by first | with_reducible assumption | rfl) (by first | with_reducible assumption | omega) (by first | decide | omega) ?_
        rw [f6]
        refine wp_sipush (pc := 23) (v := nI 999) dX6_pass_23 (by decide +kernel) ?_
        first | (refine wp_icmp_eqN (pc := 26) (tgt := 32) dX6_pass_26 (by decide) (by first | with_reducible assumption | omega) (by first | with_reducible assumption | omega) (fun c_26 => ?_) (fun c_26 => ?_)) | (refine wp_icmp_eq (pc := 26) (tgt := 32) dX6_pass_26 (by decide) (fun c_26 => ?_) (fun c_26 => ?_))
        · exact absurd c_26 hne
        · refine wp_bipush (pc := 29) (v := (-3)) dX6_pass_29 (by decide +kernel) ?_
          refine wp_ireturn (pc := 31) dX6_pass_31 rfl ?_
          exact am_i rfl hR2
  · have e0 : ¬ PLY w h b = [256] := fun y => hl ((PLY_256 hB).mp y).1
    have e : aPass w h b = -3 := if_neg e0
    have e2 : sPass (t, (w, h, last), b, ps, f, z) = (t, (w, h, last), b, ps, f, z) := if_neg e0
    have hne := lsI_ne hl hl3
    rw [e, e2]
    refine call_of_wp (by decide) (Nat.le_of_ble_eq_true rfl) ?_
    refine wp_aload_n (pc := 0) (i := 0) dX6_pass_0 rfl rfl (by first | with_reducible assumption | rfl) ?_
    refine wp_iconst (pc := 1) (v := nI 0) dX6_pass_1 (by decide +kernel) ?_
    refine wp_cVI1 (pc := 2) (ci := 6) dX6_pass_2 lm_X6_130 m_X6_list (by first | with_reducible assumption | rfl) (by first | with_reducible assumption | rfl) (by decide) rfl (Nat.le_of_ble_eq_true rfl) hli (fun x_2 I_2 J_2 h_2 => ?_)
    obtain ⟨rfl, q1, q2, rfl⟩ := h_2
    have hR2 := RepM_fr hR (LsT_fr q1)
    have f4 : I_2 4 0 = lsI b.2.2.2 := hR2.2.2.2.1.1.2.2
    refine wp_pop (pc := 5) dX6_pass_5 rfl ?_
    refine wp_aload_n (pc := 6) (i := 0) dX6_pass_6 rfl rfl (by first | with_reducible assumption | rfl) ?_
    refine wp_getR (pc := 7) dX6_pass_7 lf_X6_19 (by first | with_reducible assumption | rfl) (by first | with_reducible assumption | rfl) rfl (by first | with_reducible assumption | rfl) (by first | with_reducible assumption | rfl) ?_
    refine wp_iconst (pc := 10) (v := nI 0) dX6_pass_10 (by decide +kernel) ?_
    refine wp_iald (pc := 11) dX6_pass_11 (by first | with_reducible assumption | rfl) (by first | with_reducible assumption | rfl) (by first | with_reducible assumption | omega) (by first | decide | omega) ?_
    rw [f4]
    refine wp_bipush (pc := 12) (v := (-9)) dX6_pass_12 (by decide +kernel) ?_
    refine wp_icmp_ne (pc := 14) (tgt := 29) dX6_pass_14 (by decide) (fun c_14 => ?_) (fun c_14 => ?_)
    · refine wp_bipush (pc := 29) (v := (-3)) dX6_pass_29 (by decide +kernel) ?_
      refine wp_ireturn (pc := 31) dX6_pass_31 rfl ?_
      exact am_i rfl hR2
    · exact absurd c_14 hne
set_option maxHeartbeats 16000000 in
theorem sp_X6_undo (hR : RepM t w h last b ps f z I J) : CALL ΩM d kX6_undo [.ref 0] I J (AM (aUndo ps) (sUndo (t, (w, h, last), b, ps, f, z))) := by
  obtain ⟨nx, p1, p2, p3, p4, p5⟩ := hR.2.2.2.2.1.1
  rcases List.eq_nil_or_concat ps with h0 | ⟨qs, c, h0⟩
  · subst h0
    have e2 : sUndo (t, (w, h, last), b, [], f, z) = (t, (w, h, last), b, [], f, z) := rfl
    have e : aUndo [] = -3 := rfl
    have p1' : I 0 11 = nI 0 := p1
    rw [e, e2]
    refine call_of_wp (by decide) (Nat.le_of_ble_eq_true rfl) ?_
    refine wp_aload_n (pc := 0) (i := 0) dX6_undo_0 rfl rfl (by first | with_reducible assumption | rfl) ?_
    refine wp_getI (pc := 1) dX6_undo_1 lf_X6_91 (by first | with_reducible assumption | rfl) (by first | with_reducible assumption | rfl) rfl ?_
    rw [p1']
    refine wp_if_neN (pc := 4) (tgt := 10) dX6_undo_4 (by decide) (by first | with_reducible assumption | omega) (fun c_4 => ?_) (fun c_4 => ?_)
    · exact absurd rfl c_4
    · refine wp_bipush (pc := 7) (v := (-3)) dX6_undo_7 (by decide +kernel) ?_
      refine wp_ireturn (pc := 9) dX6_undo_9 rfl ?_
      exact am_i rfl hR
  · rw [List.concat_eq_append] at h0
    subst h0
    have hlen : (qs ++ [c]).length = qs.length + 1 := by rw [List.length_append, List.length_singleton]
    rw [hlen] at p1 p4 p5
    have e2 : sUndo (t, (w, h, last), b, qs ++ [c], f, z) = (t, (w, h, last), c, qs, f, z) := by
      unfold sUndo
      show (match (qs ++ [c]).getLast? with | none => _ | some c' => _) = _
      rw [List.getLast?_append, List.getLast?_singleton]
      show (t, (w, h, last), c, (qs ++ [c]).dropLast, f, z) = _
      rw [List.dropLast_concat]
    have e : aUndo (qs ++ [c]) = nI qs.length := by
      unfold aUndo
      rw [if_neg (by simp), hlen]
      rfl
    rw [e, e2]
    obtain ⟨n1, hn1⟩ : ∃ n1, n1 = (nx + 15) % 16 := ⟨_, rfl⟩
    have hn16 : n1 < 16 := by omega
    have hrow : RW (w * h) 8 (34 * n1) c I := by
      have := p5 qs.length c (by rw [List.getElem?_append_right (Nat.le_refl _), Nat.sub_self]; rfl)
      rwa [show (nx + 16 - (qs.length + 1) + qs.length) % 16 = n1 by omega] at this
    obtain ⟨k1, k2, ⟨k3, k4⟩, ⟨k5, k6⟩, ⟨k7, k8⟩, ⟨k9, k10⟩, k11⟩ := hR
    have hBc : Bok (w * h) c := k8 c (by simp)
    have loop : ∀ k j (I2 : MemI), k + j = 16 → CP3 (w * h) j c (uI (uI I 0 11 (nI qs.length)) 0 12 (nI n1)) I2 → WP ΩM d kX6_undo 36 [(0, .ref 0), (1, .int (nI j))] [] I2 J (AM (nI qs.length) (t, (w, h, last), c, qs, f, z)) := by
      intro k
      induction k with
      | zero =>
        intro j I2 hj hcp
        have hj' : j = 16 := (Nat.zero_add j).symm.trans hj
        subst hj'
        have o1 : ∀ a i, ¬ a = 1 → ¬ a = 2 → ¬ (a = 0 ∧ (i = 11 ∨ i = 12)) → I2 a i = I a i := fun a i y1 y2 y3 => by
          rw [hcp.2 a i (fun y => y.1.elim y1 y2)]
          show (if a = 0 ∧ i = 12 then _ else (if a = 0 ∧ i = 11 then _ else I a i)) = I a i
          rw [if_neg (fun y => y3 ⟨y.1, Or.inr y.2⟩), if_neg (fun y => y3 ⟨y.1, Or.inl y.2⟩)]
        have f12 : I2 0 12 = nI n1 := by rw [hcp.2 0 12 (by omega)]; rfl
        have f11 : I2 0 11 = nI qs.length := by rw [hcp.2 0 11 (by omega)]; rfl
        have f32 : I2 8 (34 * n1 + 32) = nI c.2.2.1 := by rw [o1 8 _ (by decide) (by decide) (by omega)]; exact hrow.2.1
        have f33 : ∀ v, uI I2 3 0 v 8 (34 * n1 + 33) = lsI c.2.2.2 := fun v => by
          show I2 8 (34 * n1 + 33) = _
          rw [o1 8 _ (by decide) (by decide) (by omega)]; exact hrow.2.2
        have g12 : ∀ v, uI I2 3 0 v 0 12 = nI n1 := fun v => f12
        have g11 : ∀ v v', uI (uI I2 3 0 v) 4 0 v' 0 11 = nI qs.length := fun v v' => f11
        have e3 : ∀ a i, ¬ a = 1 → ¬ a = 2 → ¬ a = 3 → ¬ a = 4 → ¬ (a = 0 ∧ (i = 11 ∨ i = 12)) → uI (uI I2 3 0 (nI c.2.2.1)) 4 0 (lsI c.2.2.2) a i = I a i := fun a i y1 y2 y3 y4 y5 => by
          show (if a = 4 ∧ i = 0 then _ else (if a = 3 ∧ i = 0 then _ else I2 a i)) = I a i
          rw [if_neg (fun y => y4 y.1), if_neg (fun y => y3 y.1)]
          exact o1 a i y1 y2 y5
        have hfin : RM (t, (w, h, last), c, qs, f, z) (uI (uI I2 3 0 (nI c.2.2.1)) 4 0 (lsI c.2.2.2)) J := by
          refine ⟨k1, TM_n k2 (e3 0 8 (by decide) (by decide) (by decide) (by decide) (by omega)) (fun i => e3 5 i (by decide) (by decide) (by decide) (by decide) (by omega)), ⟨⟨k3.1, ?_, ?_⟩, ?_⟩, ⟨LX_0 hcp rfl rfl, hBc⟩, ⟨⟨n1, f11, f12, hn16, by show qs.length ≤ 16; omega, fun j q hj => ?_⟩, fun q hq => k8 q (List.mem_append_left _ hq)⟩, ⟨KM_n k9 (fun i => e3 11 i (by decide) (by decide) (by decide) (by decide) (by omega)) (fun i => e3 12 i (by decide) (by decide) (by decide) (by decide) (by omega)), k10⟩, k11⟩
          · rw [e3 0 0 (by decide) (by decide) (by decide) (by decide) (by omega)]; exact k3.2.1
          · rw [e3 0 1 (by decide) (by decide) (by decide) (by decide) (by omega)]; exact k3.2.2
          · rw [e3 0 2 (by decide) (by decide) (by decide) (by decide) (by omega)]; exact k4
          · have hj' : qs[j]? = some q := hj
            have hjl : j < qs.length := by
              rcases Nat.lt_or_ge j qs.length with y | y
              · exact y
              · rw [List.getElem?_eq_none y] at hj'; cases hj'
            have := p5 j q (by rw [List.getElem?_append_left hjl]; exact hj')
            have hp : (nx + 16 - (qs.length + 1) + j) % 16 = (n1 + 16 - qs.length + j) % 16 := by omega
            rw [hp] at this
            exact RW_n this (fun i _ _ => e3 8 i (by decide) (by decide) (by decide) (by decide) (by omega))
        refine wp_iload_n (pc := 36) (i := 1) dX6_undo_36 rfl rfl ?_
        refine wp_bipush (pc := 37) (v := nI 16) dX6_undo_37 (by decide +kernel) ?_
        first | (refine wp_icmp_geN (pc := 39) (tgt := 91) dX6_undo_39 (by decide) (by first | with_reducible assumption | omega) (by first | with_reducible assumption | omega) (fun c_39 => ?_) (fun c_39 => ?_)) | (refine wp_icmp_ge (pc := 39) (tgt := 91) dX6_undo_39 (by decide) (fun c_39 => ?_) (fun c_39 => ?_))
        · refine wp_aload_n (pc := 91) (i := 0) dX6_undo_91 rfl rfl (by first | with_reducible assumption | rfl) ?_
          refine wp_getR (pc := 92) dX6_undo_92 lf_X6_16 (by first | with_reducible assumption | rfl) (by first | with_reducible assumption | rfl) rfl (by first | with_reducible assumption | rfl) (by first | with_reducible assumption | rfl) ?_
          refine wp_iconst (pc := 95) (v := nI 0) dX6_undo_95 (by decide +kernel) ?_
          refine wp_aload_n (pc := 96) (i := 0) dX6_undo_96 rfl rfl (by first | with_reducible assumption | rfl) ?_
          refine wp_getR (pc := 97) dX6_undo_97 lf_X6_31 (by first | with_reducible assumption | rfl) (by first | with_reducible assumption | rfl) rfl (by first | with_reducible assumption | rfl) (by first | with_reducible assumption | rfl) ?_
          refine wp_bipush (pc := 100) (v := nI 34) dX6_undo_100 (by decide +kernel) ?_
          refine wp_aload_n (pc := 102) (i := 0) dX6_undo_102 rfl rfl (by first | with_reducible assumption | rfl) ?_
          refine wp_getI (pc := 103) dX6_undo_103 lf_X6_133 (by first | with_reducible assumption | rfl) (by first | with_reducible assumption | rfl) rfl ?_
          rw [f12]
          first | (refine wp_imulN (pc := 106) dX6_undo_106 ?_) | (refine wp_imul (pc := 106) dX6_undo_106 ?_)
          refine wp_bipush (pc := 107) (v := nI 32) dX6_undo_107 (by decide +kernel) ?_
          first | (refine wp_iaddN (pc := 109) dX6_undo_109 ?_) | (refine wp_iadd (pc := 109) dX6_undo_109 ?_)
          refine wp_iald (pc := 110) dX6_undo_110 (by first | with_reducible assumption | rfl) (by first | with_reducible assumption | rfl) (by first | with_reducible assumption | omega) (by first | decide | omega) ?_
          rw [f32]
          refine wp_iast (pc := 111) dX6_undo_111 (by first | with_reducible assumption | rfl) (by first | with_reducible assumption | rfl) (by first | with_reducible assumption | omega) (by first | decide | omega) ?_
          refine wp_aload_n (pc := 112) (i := 0) dX6_undo_112 rfl rfl (by first | with_reducible assumption | rfl) ?_
          refine wp_getR (pc := 113) dX6_undo_113 lf_X6_19 (by first | with_reducible assumption | rfl) (by first | with_reducible assumption | rfl) rfl (by first | with_reducible assumption | rfl) (by first | with_reducible assumption | rfl) ?_
          refine wp_iconst (pc := 116) (v := nI 0) dX6_undo_116 (by decide +kernel) ?_
          refine wp_aload_n (pc := 117) (i := 0) dX6_undo_117 rfl rfl (by first | with_reducible assumption | rfl) ?_
          refine wp_getR (pc := 118) dX6_undo_118 lf_X6_31 (by first | with_reducible assumption | rfl) (by first | with_reducible assumption | rfl) rfl (by first | with_reducible assumption | rfl) (by first | with_reducible assumption | rfl) ?_
          refine wp_bipush (pc := 121) (v := nI 34) dX6_undo_121 (by decide +kernel) ?_
          refine wp_aload_n (pc := 123) (i := 0) dX6_undo_123 rfl rfl (by first | with_reducible assumption | rfl) ?_
          refine wp_getI (pc := 124) dX6_undo_124 lf_X6_133 (by first | with_reducible assumption | rfl) (by first | with_reducible assumption | rfl) rfl ?_
          rw [g12]
          first | (refine wp_imulN (pc := 127) dX6_undo_127 ?_) | (refine wp_imul (pc := 127) dX6_undo_127 ?_)
          refine wp_bipush (pc := 128) (v := nI 33) dX6_undo_128 (by decide +kernel) ?_
          first | (refine wp_iaddN (pc := 130) dX6_undo_130 ?_) | (refine wp_iadd (pc := 130) dX6_undo_130 ?_)
          refine wp_iald (pc := 131) dX6_undo_131 (by first | with_reducible assumption | rfl) (by first | with_reducible assumption | rfl) (by first | with_reducible assumption | omega) (by first | decide | omega) ?_
          rw [f33]
          refine wp_iast (pc := 132) dX6_undo_132 (by first | with_reducible assumption | rfl) (by first | with_reducible assumption | rfl) (by first | with_reducible assumption | omega) (by first | decide | omega) ?_
          refine wp_aload_n (pc := 133) (i := 0) dX6_undo_133 rfl rfl (by first | with_reducible assumption | rfl) ?_
          refine wp_getI (pc := 134) dX6_undo_134 lf_X6_91 (by first | with_reducible assumption | rfl) (by first | with_reducible assumption | rfl) rfl ?_
          rw [g11]
          refine wp_ireturn (pc := 137) dX6_undo_137 rfl ?_
          exact am_i rfl hfin
        · exact absurd (Nat.le_refl 16) c_39
      | succ k ih =>
        intro j I2 hj hcp
        have hj16 : j < 16 := by omega
        have o1 : ∀ a i, ¬ a = 1 → ¬ a = 2 → ¬ (a = 0 ∧ (i = 11 ∨ i = 12)) → I2 a i = I a i := fun a i y1 y2 y3 => by
          rw [hcp.2 a i (fun y => y.1.elim y1 y2)]
          show (if a = 0 ∧ i = 12 then _ else (if a = 0 ∧ i = 11 then _ else I a i)) = I a i
          rw [if_neg (fun y => y3 ⟨y.1, Or.inr y.2⟩), if_neg (fun y => y3 ⟨y.1, Or.inl y.2⟩)]
        have f12 : I2 0 12 = nI n1 := by rw [hcp.2 0 12 (by omega)]; rfl
        have f1 : I2 8 (34 * n1 + j) = nI (ccd (w * h) c.1 j) := by rw [o1 8 _ (by decide) (by decide) (by omega)]; exact (hrow.1 j hj16).1
        have f2 : ∀ v, uI I2 1 j v 8 (34 * n1 + 16 + j) = nI (c.2.1 j) := fun v => by
          show I2 8 (34 * n1 + 16 + j) = _
          rw [o1 8 _ (by decide) (by decide) (by omega)]; exact (hrow.1 j hj16).2
        have g12 : ∀ v, uI I2 1 j v 0 12 = nI n1 := fun v => f12
        have h0 := ih (j + 1) _ (by omega) (CP3_s hcp hj16)
        clear ih
        refine wp_iload_n (pc := 36) (i := 1) dX6_undo_36 rfl rfl ?_
        refine wp_bipush (pc := 37) (v := nI 16) dX6_undo_37 (by decide +kernel) ?_
        first | (refine wp_icmp_geN (pc := 39) (tgt := 91) dX6_undo_39 (by decide) (by first | with_reducible assumption | omega) (by first | with_reducible assumption | omega) (fun c_39 => ?_) (fun c_39 => ?_)) | (refine wp_icmp_ge (pc := 39) (tgt := 91) dX6_undo_39 (by decide) (fun c_39 => ?_) (fun c_39 => ?_))
        · exact absurd c_39 (by omega)
        · refine wp_aload_n (pc := 42) (i := 0) dX6_undo_42 rfl rfl (by first | with_reducible assumption | rfl) ?_
          refine wp_getR (pc := 43) dX6_undo_43 lf_X6_7 (by first | with_reducible assumption | rfl) (by first | with_reducible assumption | rfl) rfl (by first | with_reducible assumption | rfl) (by first | with_reducible assumption | rfl) ?_
          refine wp_iload_n (pc := 46) (i := 1) dX6_undo_46 rfl rfl ?_
          refine wp_aload_n (pc := 47) (i := 0) dX6_undo_47 rfl rfl (by first | with_reducible assumption | rfl) ?_
          refine wp_getR (pc := 48) dX6_undo_48 lf_X6_31 (by first | with_reducible assumption | rfl) (by first | with_reducible assumption | rfl) rfl (by first | with_reducible assumption | rfl) (by first | with_reducible assumption | rfl) ?_
          refine wp_bipush (pc := 51) (v := nI 34) dX6_undo_51 (by decide +kernel) ?_
          refine wp_aload_n (pc := 53) (i := 0) dX6_undo_53 rfl rfl (by first | with_reducible assumption | rfl) ?_
          refine wp_getI (pc := 54) dX6_undo_54 lf_X6_133 (by first | with_reducible assumption | rfl) (by first | with_reducible assumption | rfl) rfl ?_
          rw [f12]
          first | (refine wp_imulN (pc := 57) dX6_undo_57 ?_) | (refine wp_imul (pc := 57) dX6_undo_57 ?_)
          refine wp_iload_n (pc := 58) (i := 1) dX6_undo_58 rfl rfl ?_
          first | (refine wp_iaddN (pc := 59) dX6_undo_59 ?_) | (refine wp_iadd (pc := 59) dX6_undo_59 ?_)
          refine wp_iald (pc := 60) dX6_undo_60 (by first | with_reducible assumption | rfl) (by first | with_reducible assumption | rfl) (by first | with_reducible assumption | omega) (by first | decide | omega) ?_
          rw [f1]
          refine wp_iast (pc := 61) dX6_undo_61 (by first | with_reducible assumption | rfl) (by first | with_reducible assumption | rfl) (by first | with_reducible assumption | omega) (by first | decide | omega) ?_
          refine wp_aload_n (pc := 62) (i := 0) dX6_undo_62 rfl rfl (by first | with_reducible assumption | rfl) ?_
          refine wp_getR (pc := 63) dX6_undo_63 lf_X6_13 (by first | with_reducible assumption | rfl) (by first | with_reducible assumption | rfl) rfl (by first | with_reducible assumption | rfl) (by first | with_reducible assumption | rfl) ?_
          refine wp_iload_n (pc := 66) (i := 1) dX6_undo_66 rfl rfl ?_
          refine wp_aload_n (pc := 67) (i := 0) dX6_undo_67 rfl rfl (by first | with_reducible assumption | rfl) ?_
          refine wp_getR (pc := 68) dX6_undo_68 lf_X6_31 (by first | with_reducible assumption | rfl) (by first | with_reducible assumption | rfl) rfl (by first | with_reducible assumption | rfl) (by first | with_reducible assumption | rfl) ?_
          refine wp_bipush (pc := 71) (v := nI 34) dX6_undo_71 (by decide +kernel) ?_
          refine wp_aload_n (pc := 73) (i := 0) dX6_undo_73 rfl rfl (by first | with_reducible assumption | rfl) ?_
          refine wp_getI (pc := 74) dX6_undo_74 lf_X6_133 (by first | with_reducible assumption | rfl) (by first | with_reducible assumption | rfl) rfl ?_
          rw [g12]
          first | (refine wp_imulN (pc := 77) dX6_undo_77 ?_) | (refine wp_imul (pc := 77) dX6_undo_77 ?_)
          refine wp_bipush (pc := 78) (v := nI 16) dX6_undo_78 (by decide +kernel) ?_
          first | (refine wp_iaddN (pc := 80) dX6_undo_80 ?_) | (refine wp_iadd (pc := 80) dX6_undo_80 ?_)
          refine wp_iload_n (pc := 81) (i := 1) dX6_undo_81 rfl rfl ?_
          first | (refine wp_iaddN (pc := 82) dX6_undo_82 ?_) | (refine wp_iadd (pc := 82) dX6_undo_82 ?_)
          refine wp_iald (pc := 83) dX6_undo_83 (by first | with_reducible assumption | rfl) (by first | with_reducible assumption | rfl) (by first | with_reducible assumption | omega) (by first | decide | omega) ?_
          rw [f2]
          refine wp_iast (pc := 84) dX6_undo_84 (by first | with_reducible assumption | rfl) (by first | with_reducible assumption | rfl) (by first | with_reducible assumption | omega) (by first | decide | omega) ?_
          first | (refine wp_iincN (pc := 85) (m := 1) dX6_undo_85 rfl rfl (by decide) ?_) | (refine wp_iinc (pc := 85) dX6_undo_85 rfl rfl (by decide) ?_)
          refine wp_goto (pc := 88) (tgt := 36) dX6_undo_88 (by decide) ?_
          exact h0
    have h00 := loop 16 0 _ rfl ⟨fun j hj => absurd hj (Nat.not_lt_zero j), fun _ _ _ => rfl⟩
    have p2' : ∀ v, uI I 0 11 v 0 12 = nI nx := fun v => p2
    refine call_of_wp (by decide) (Nat.le_of_ble_eq_true rfl) ?_
    refine wp_aload_n (pc := 0) (i := 0) dX6_undo_0 rfl rfl (by first | with_reducible assumption | rfl) ?_
    refine wp_getI (pc := 1) dX6_undo_1 lf_X6_91 (by first | with_reducible assumption | rfl) (by first | with_reducible assumption | rfl) rfl ?_
    rw [p1]
    refine wp_if_neN (pc := 4) (tgt := 10) dX6_undo_4 (by decide) (by first | with_reducible assumption | omega) (fun c_4 => ?_) (fun c_4 => ?_)
    · refine wp_aload_n (pc := 10) (i := 0) dX6_undo_10 rfl rfl (by first | with_reducible assumption | rfl) ?_
      refine wp_dup (pc := 11) dX6_undo_11 rfl ?_
      refine wp_getI (pc := 12) dX6_undo_12 lf_X6_91 (by first | with_reducible assumption | rfl) (by first | with_reducible assumption | rfl) rfl ?_
      rw [p1]
      refine wp_iconst (pc := 15) (v := nI 1) dX6_undo_15 (by decide +kernel) ?_
      first | (refine wp_isubN (pc := 16) dX6_undo_16 (by first | with_reducible assumption | omega) ?_) | (refine wp_isub (pc := 16) dX6_undo_16 ?_)
      rw [Nat.add_sub_cancel]
      refine wp_putI (pc := 17) dX6_undo_17 lf_X6_91 (by first | with_reducible assumption | rfl) (by first | with_reducible assumption | rfl) rfl rfl ?_
      refine wp_aload_n (pc := 20) (i := 0) dX6_undo_20 rfl rfl (by first | with_reducible assumption | rfl) ?_
      refine wp_aload_n (pc := 21) (i := 0) dX6_undo_21 rfl rfl (by first | with_reducible assumption | rfl) ?_
      refine wp_getI (pc := 22) dX6_undo_22 lf_X6_133 (by first | with_reducible assumption | rfl) (by first | with_reducible assumption | rfl) rfl ?_
      rw [p2']
      refine wp_bipush (pc := 25) (v := nI 15) dX6_undo_25 (by decide +kernel) ?_
      first | (refine wp_iaddN (pc := 27) dX6_undo_27 ?_) | (refine wp_iadd (pc := 27) dX6_undo_27 ?_)
      refine wp_bipush (pc := 28) (v := nI 16) dX6_undo_28 (by decide +kernel) ?_
      refine wp_iremN (pc := 30) dX6_undo_30 (by first | with_reducible assumption | omega) (by first | with_reducible assumption | omega) (by first | with_reducible assumption | omega) ?_
      rw [← hn1]
      refine wp_putI (pc := 31) dX6_undo_31 lf_X6_133 (by first | with_reducible assumption | rfl) (by first | with_reducible assumption | rfl) rfl rfl ?_
      refine wp_iconst (pc := 34) (v := nI 0) dX6_undo_34 (by decide +kernel) ?_
      refine wp_istore_n (pc := 35) (i := 1) dX6_undo_35 rfl (by decide) ?_
      exact h00
    · exact absurd c_4 (by omega)
set_option maxHeartbeats 16000000 in
theorem sp_X6_keep {x : Int32} (hR : RepM t w h last b ps f z I J) : CALL ΩM (d + 2) kX6_keep [.ref 0, .int x] I J (AM (aKeep b x) (sKeep x (t, (w, h, last), b, ps, f, z))) := by
  have hil : inL x.toInt64 (lN 0) (lN 1) = inB x 2 := inL_cell (n := 2) (by decide) (by decide)
  cases hx : inB x 2
  · have e : aKeep b x = -1 := if_neg (by rw [hx]; exact Bool.false_ne_true)
    have e2 : sKeep x (t, (w, h, last), b, ps, f, z) = (t, (w, h, last), b, ps, f, z) := if_neg (by rw [hx]; exact Bool.false_ne_true)
    rw [e, e2]
    refine call_of_wp (by decide) (Nat.le_of_ble_eq_true rfl) ?_
    refine wp_iload_n (pc := 0) (i := 1) dX6_keep_0 rfl rfl ?_
    refine wp_i2l (pc := 1) dX6_keep_1 ?_
    refine wp_lconst (pc := 2) (v := lN 0) dX6_keep_2 (by decide +kernel) ?_
    refine wp_lconst (pc := 3) (v := lN 1) dX6_keep_3 (by decide +kernel) ?_
    refine wp_cSP3 (pc := 4) dX6_keep_4 lm_X6_56 m_X6_in (Nat.le_of_ble_eq_true rfl) sp_X6_in ?_
    rw [hil, hx]
    refine wp_if_neB (pc := 7) (tgt := 12) dX6_keep_7 (by decide) (fun c_7 => ?_) (fun c_7 => ?_)
    · exact Bool.noConfusion c_7
    · refine wp_iconst (pc := 10) (v := (-1)) dX6_keep_10 (by decide +kernel) ?_
      refine wp_ireturn (pc := 11) dX6_keep_11 rfl ?_
      exact am_i rfl hR
  · obtain ⟨s, hs, rfl⟩ := inB_t (by omega) hx
    have e : aKeep b (nI s) = nI (cnt (fun c => wht b.1 c || blk b.1 c)) := if_pos hx
    have e2 : sKeep (nI s) (t, (w, h, last), b, ps, f, z) = (t, (w, h, last), b, ps, upO f s (some b), z) := by
      have : sKeep (nI s) (t, (w, h, last), b, ps, f, z) = (t, (w, h, last), b, ps, upO f (cI (nI s)) (some b), z) := if_pos hx
      rw [this, cI_n (by omega)]
    obtain ⟨k1, k2, ⟨k3, k4⟩, ⟨k5, k6⟩, ⟨k7, k8⟩, ⟨k9, k10⟩, k11⟩ := hR
    have n16 := (WH_n k3).2
    rw [e, e2]
    have loop : ∀ k j (I2 : MemI), k + j = 16 → CP2 (w * h) 12 (34 * s) j b (uI I 11 s (nI 1)) I2 → WP ΩM (d + 2) kX6_keep 21 [(0, .ref 0), (1, .int (nI s)), (2, .int (nI j))] [] I2 J (AM (nI (cnt (fun c => wht b.1 c || blk b.1 c))) (t, (w, h, last), b, ps, upO f s (some b), z)) := by
      intro k
      induction k with
      | zero =>
        intro j I2 hj hcp
        have hj' : j = 16 := (Nat.zero_add j).symm.trans hj
        subst hj'
        have o0 : ∀ a i, ¬ a = 12 → ¬ a = 11 → I2 a i = I a i := fun a i y y2 => by
          rw [hcp.2 a i (fun q => y q.1)]
          show (if a = 11 ∧ i = s then _ else I a i) = I a i
          rw [if_neg (fun q => y2 q.1)]
        have f3 : I2 3 0 = nI b.2.2.1 := by rw [o0 3 0 (by decide) (by decide)]; exact k5.2.1
        have f4 : ∀ i v, uI I2 12 i v 4 0 = lsI b.2.2.2 := fun i v => by
          show I2 4 0 = _
          rw [o0 4 0 (by decide) (by decide)]; exact k5.2.2
        have ee : ∀ a i, ¬ a = 12 → ¬ a = 11 → uI (uI I2 12 (34 * s + 32) (nI b.2.2.1)) 12 (34 * s + 33) (lsI b.2.2.2) a i = I a i := fun a i y1 y2 => by
          show (if a = 12 ∧ _ then _ else (if a = 12 ∧ _ then _ else I2 a i)) = I a i
          rw [if_neg (fun y => y1 y.1), if_neg (fun y => y1 y.1)]
          exact o0 a i y1 y2
        have hLn : LX (w * h) 0 b (uI (uI I2 12 (34 * s + 32) (nI b.2.2.1)) 12 (34 * s + 33) (lsI b.2.2.2)) := LX_n k5 (by decide) (fun a i y1 _ _ => ee a i (by omega) (by omega)) (ee 3 0 (by decide) (by decide)) (ee 4 0 (by decide) (by decide))
        have hWn : WH w h (uI (uI I2 12 (34 * s + 32) (nI b.2.2.1)) 12 (34 * s + 33) (lsI b.2.2.2)) := WH_fr k3 (fun i => ee 0 i (by decide) (by decide))
        have hfin : RM (t, (w, h, last), b, ps, upO f s (some b), z) (uI (uI I2 12 (34 * s + 32) (nI b.2.2.1)) 12 (34 * s + 33) (lsI b.2.2.2)) J := by
          refine ⟨k1, TM_n k2 (ee 0 8 (by decide) (by decide)) (fun i => ee 5 i (by decide) (by decide)), ⟨hWn, by rw [ee 0 2 (by decide) (by decide)]; exact k4⟩, ⟨hLn, k6⟩, ⟨PM_n k7 (ee 0 11 (by decide) (by decide)) (ee 0 12 (by decide) (by decide)) (fun i => ee 8 i (by decide) (by decide)), k8⟩, ⟨fun q hq => ?_, fun i q y => ?_⟩, k11⟩
          · by_cases hqs : q = s
            · subst hqs
              refine ⟨?_, fun c hc => ?_⟩
              · show I2 11 q = bI (upO f q (some b) q).isSome
                rw [hcp.2 11 q (by omega)]
                show (if 11 = 11 ∧ q = q then nI 1 else _) = bI (if q = q then some b else f q).isSome
                rw [if_pos ⟨rfl, rfl⟩, if_pos rfl]; rfl
              · have hcb : b = c := by
                  have : (if q = q then some b else f q) = some c := hc
                  rw [if_pos rfl] at this
                  cases this; rfl
                rw [← hcb]
                refine ⟨fun j hj => ?_, ?_, ?_⟩
                · have := hcp.1 j hj hj
                  show (if 12 = 12 ∧ 34 * q + j = 34 * q + 33 then _ else (if 12 = 12 ∧ 34 * q + j = 34 * q + 32 then _ else I2 12 (34 * q + j))) = _ ∧ (if 12 = 12 ∧ 34 * q + 16 + j = 34 * q + 33 then _ else (if 12 = 12 ∧ 34 * q + 16 + j = 34 * q + 32 then _ else I2 12 (34 * q + 16 + j))) = _
                  rw [if_neg (by omega), if_neg (by omega), if_neg (by omega), if_neg (by omega)]
                  exact this
                · show (if 12 = 12 ∧ 34 * q + 32 = 34 * q + 33 then _ else (if 12 = 12 ∧ 34 * q + 32 = 34 * q + 32 then _ else _)) = _
                  rw [if_neg (by omega), if_pos ⟨rfl, rfl⟩]
                · show (if 12 = 12 ∧ 34 * q + 33 = 34 * q + 33 then _ else _) = _
                  rw [if_pos ⟨rfl, rfl⟩]
            · have hu : upO f s (some b) q = f q := if_neg hqs
              show _ = bI (upO f s (some b) q).isSome ∧ ∀ c, upO f s (some b) q = some c → _
              rw [hu]
              refine ⟨?_, fun c hc => RW_n ((k9 q hq).2 c hc) (fun i y1 y2 => ?_)⟩
              · show I2 11 q = _
                rw [hcp.2 11 q (by omega)]
                show (if 11 = 11 ∧ q = s then nI 1 else I 11 q) = _
                rw [if_neg (fun y => hqs y.2)]
                exact (k9 q hq).1
              · show (if 12 = 12 ∧ i = 34 * s + 33 then _ else (if 12 = 12 ∧ i = 34 * s + 32 then _ else I2 12 i)) = I 12 i
                rw [if_neg (by omega), if_neg (by omega), hcp.2 12 i (by omega)]
                rfl
          · have y' : (if i = s then some b else f i) = some q := y
            split at y'
            · cases y'; exact k6
            · exact k10 i q y'
        have hmn := sp_X6_men (d := d) (J := J) (k := 0) hWn (LX_V n16 hLn) k6 (by decide)
        refine wp_iload_n (pc := 21) (i := 2) dX6_keep_21 rfl rfl ?_
        refine wp_bipush (pc := 22) (v := nI 16) dX6_keep_22 (by decide +kernel) ?_
        first | (refine wp_icmp_geN (pc := 24) (tgt := 70) dX6_keep_24 (by decide) (by first | with_reducible assumption | omega) (by first | with_reducible assumption | omega) (fun c_24 => ?_) (fun c_24 => ?_)) | (refine wp_icmp_ge (pc := 24) (tgt := 70) dX6_keep_24 (by decide) (fun c_24 => ?_) (fun c_24 => ?_))
        · refine wp_aload_n (pc := 70) (i := 0) dX6_keep_70 rfl rfl (by first | with_reducible assumption | rfl) ?_
          refine wp_getR (pc := 71) dX6_keep_71 lf_X6_44 (by first | with_reducible assumption | rfl) (by first | with_reducible assumption | rfl) rfl (by first | with_reducible assumption | rfl) (by first | with_reducible assumption | rfl) ?_
          refine wp_bipush (pc := 74) (v := nI 34) dX6_keep_74 (by decide +kernel) ?_
          refine wp_iload_n (pc := 76) (i := 1) dX6_keep_76 rfl rfl ?_
          first | (refine wp_imulN (pc := 77) dX6_keep_77 ?_) | (refine wp_imul (pc := 77) dX6_keep_77 ?_)
          refine wp_bipush (pc := 78) (v := nI 32) dX6_keep_78 (by decide +kernel) ?_
          first | (refine wp_iaddN (pc := 80) dX6_keep_80 ?_) | (refine wp_iadd (pc := 80) dX6_keep_80 ?_)
          refine wp_aload_n (pc := 81) (i := 0) dX6_keep_81 rfl rfl (by first | with_reducible assumption | rfl) ?_
          refine wp_getR (pc := 82) dX6_keep_82 lf_X6_16 (by first | with_reducible assumption | rfl) (by first | with_reducible assumption | rfl) rfl (by first | with_reducible assumption | rfl) (by first | with_reducible assumption | rfl) ?_
          refine wp_iconst (pc := 85) (v := nI 0) dX6_keep_85 (by decide +kernel) ?_
          refine wp_iald (pc := 86) dX6_keep_86 (by first | with_reducible assumption | rfl) (by first | with_reducible assumption | rfl) (by first | with_reducible assumption | omega) (by first | decide | omega) ?_
          rw [f3]
          refine wp_iast (pc := 87) dX6_keep_87 (by first | with_reducible assumption | rfl) (by first | with_reducible assumption | rfl) (by first | with_reducible assumption | omega) (by first | decide | omega) ?_
          refine wp_aload_n (pc := 88) (i := 0) dX6_keep_88 rfl rfl (by first | with_reducible assumption | rfl) ?_
          refine wp_getR (pc := 89) dX6_keep_89 lf_X6_44 (by first | with_reducible assumption | rfl) (by first | with_reducible assumption | rfl) rfl (by first | with_reducible assumption | rfl) (by first | with_reducible assumption | rfl) ?_
          refine wp_bipush (pc := 92) (v := nI 34) dX6_keep_92 (by decide +kernel) ?_
          refine wp_iload_n (pc := 94) (i := 1) dX6_keep_94 rfl rfl ?_
          first | (refine wp_imulN (pc := 95) dX6_keep_95 ?_) | (refine wp_imul (pc := 95) dX6_keep_95 ?_)
          refine wp_bipush (pc := 96) (v := nI 33) dX6_keep_96 (by decide +kernel) ?_
          first | (refine wp_iaddN (pc := 98) dX6_keep_98 ?_) | (refine wp_iadd (pc := 98) dX6_keep_98 ?_)
          refine wp_aload_n (pc := 99) (i := 0) dX6_keep_99 rfl rfl (by first | with_reducible assumption | rfl) ?_
          refine wp_getR (pc := 100) dX6_keep_100 lf_X6_19 (by first | with_reducible assumption | rfl) (by first | with_reducible assumption | rfl) rfl (by first | with_reducible assumption | rfl) (by first | with_reducible assumption | rfl) ?_
          refine wp_iconst (pc := 103) (v := nI 0) dX6_keep_103 (by decide +kernel) ?_
          refine wp_iald (pc := 104) dX6_keep_104 (by first | with_reducible assumption | rfl) (by first | with_reducible assumption | rfl) (by first | with_reducible assumption | omega) (by first | decide | omega) ?_
          rw [f4]
          refine wp_iast (pc := 105) dX6_keep_105 (by first | with_reducible assumption | rfl) (by first | with_reducible assumption | rfl) (by first | with_reducible assumption | omega) (by first | decide | omega) ?_
          refine wp_aload_n (pc := 106) (i := 0) dX6_keep_106 rfl rfl (by first | with_reducible assumption | rfl) ?_
          refine wp_iconst (pc := 107) (v := nI 0) dX6_keep_107 (by decide +kernel) ?_
          refine wp_cVP1 (pc := 108) (ci := 6) dX6_keep_108 lm_X6_205 m_X6_men (by first | with_reducible assumption | rfl) (by first | with_reducible assumption | rfl) (by decide) rfl (Nat.le_of_ble_eq_true rfl) hmn ?_
          refine wp_ireturn (pc := 111) dX6_keep_111 rfl ?_
          exact am_i rfl hfin
        · exact absurd (Nat.le_refl 16) c_24
      | succ k ih =>
        intro j I2 hj hcp
        have hj16 : j < 16 := by omega
        have o0 : ∀ a i, ¬ a = 12 → ¬ a = 11 → I2 a i = I a i := fun a i y y2 => by
          rw [hcp.2 a i (fun q => y q.1)]
          show (if a = 11 ∧ i = s then _ else I a i) = I a i
          rw [if_neg (fun q => y2 q.1)]
        have f1 : I2 1 j = nI (ccd (w * h) b.1 j) := by
          rw [o0 1 j (by decide) (by decide)]
          have := (k5.1 j hj16).1
          rwa [Nat.mul_zero, Nat.zero_add] at this
        have f2 : ∀ i v, uI I2 12 i v 2 j = nI (b.2.1 j) := fun i v => by
          show I2 2 j = _
          rw [o0 2 j (by decide) (by decide)]
          have := (k5.1 j hj16).2
          rwa [Nat.mul_zero, Nat.zero_add] at this
        have h0 := ih (j + 1) _ (by omega) (CP2_s hcp hj16)
        clear ih
        refine wp_iload_n (pc := 21) (i := 2) dX6_keep_21 rfl rfl ?_
        refine wp_bipush (pc := 22) (v := nI 16) dX6_keep_22 (by decide +kernel) ?_
        first | (refine wp_icmp_geN (pc := 24) (tgt := 70) dX6_keep_24 (by decide) (by first | with_reducible assumption | omega) (by first | with_reducible assumption | omega) (fun c_24 => ?_) (fun c_24 => ?_)) | (refine wp_icmp_ge (pc := 24) (tgt := 70) dX6_keep_24 (by decide) (fun c_24 => ?_) (fun c_24 => ?_))
        · exact absurd c_24 (by omega)
        · refine wp_aload_n (pc := 27) (i := 0) dX6_keep_27 rfl rfl (by first | with_reducible assumption | rfl) ?_
          refine wp_getR (pc := 28) dX6_keep_28 lf_X6_44 (by first | with_reducible assumption | rfl) (by first | with_reducible assumption | rfl) rfl (by first | with_reducible assumption | rfl) (by first | with_reducible assumption | rfl) ?_
          refine wp_bipush (pc := 31) (v := nI 34) dX6_keep_31 (by decide +kernel) ?_
          refine wp_iload_n (pc := 33) (i := 1) dX6_keep_33 rfl rfl ?_
          first | (refine wp_imulN (pc := 34) dX6_keep_34 ?_) | (refine wp_imul (pc := 34) dX6_keep_34 ?_)
          refine wp_iload_n (pc := 35) (i := 2) dX6_keep_35 rfl rfl ?_
          first | (refine wp_iaddN (pc := 36) dX6_keep_36 ?_) | (refine wp_iadd (pc := 36) dX6_keep_36 ?_)
          refine wp_aload_n (pc := 37) (i := 0) dX6_keep_37 rfl rfl (by first | with_reducible assumption | rfl) ?_
          refine wp_getR (pc := 38) dX6_keep_38 lf_X6_7 (by first | with_reducible assumption | rfl) (by first | with_reducible assumption | rfl) rfl (by first | with_reducible assumption | rfl) (by first | with_reducible assumption | rfl) ?_
          refine wp_iload_n (pc := 41) (i := 2) dX6_keep_41 rfl rfl ?_
          refine wp_iald (pc := 42) dX6_keep_42 (by first | with_reducible assumption | rfl) (by first | with_reducible assumption | rfl) (by first | with_reducible assumption | omega) (by first | decide | omega) ?_
          rw [f1]
          refine wp_iast (pc := 43) dX6_keep_43 (by first | with_reducible assumption | rfl) (by first | with_reducible assumption | rfl) (by first | with_reducible assumption | omega) (by first | decide | omega) ?_
          refine wp_aload_n (pc := 44) (i := 0) dX6_keep_44 rfl rfl (by first | with_reducible assumption | rfl) ?_
          refine wp_getR (pc := 45) dX6_keep_45 lf_X6_44 (by first | with_reducible assumption | rfl) (by first | with_reducible assumption | rfl) rfl (by first | with_reducible assumption | rfl) (by first | with_reducible assumption | rfl) ?_
          refine wp_bipush (pc := 48) (v := nI 34) dX6_keep_48 (by decide +kernel) ?_
          refine wp_iload_n (pc := 50) (i := 1) dX6_keep_50 rfl rfl ?_
          first | (refine wp_imulN (pc := 51) dX6_keep_51 ?_) | (refine wp_imul (pc := 51) dX6_keep_51 ?_)
          refine wp_bipush (pc := 52) (v := nI 16) dX6_keep_52 (by decide +kernel) ?_
          first | (refine wp_iaddN (pc := 54) dX6_keep_54 ?_) | (refine wp_iadd (pc := 54) dX6_keep_54 ?_)
          refine wp_iload_n (pc := 55) (i := 2) dX6_keep_55 rfl rfl ?_
          first | (refine wp_iaddN (pc := 56) dX6_keep_56 ?_) | (refine wp_iadd (pc := 56) dX6_keep_56 ?_)
          refine wp_aload_n (pc := 57) (i := 0) dX6_keep_57 rfl rfl (by first | with_reducible assumption | rfl) ?_
          refine wp_getR (pc := 58) dX6_keep_58 lf_X6_13 (by first | with_reducible assumption | rfl) (by first | with_reducible assumption | rfl) rfl (by first | with_reducible assumption | rfl) (by first | with_reducible assumption | rfl) ?_
          refine wp_iload_n (pc := 61) (i := 2) dX6_keep_61 rfl rfl ?_
          refine wp_iald (pc := 62) dX6_keep_62 (by first | with_reducible assumption | rfl) (by first | with_reducible assumption | rfl) (by first | with_reducible assumption | omega) (by first | decide | omega) ?_
          rw [f2]
          refine wp_iast (pc := 63) dX6_keep_63 (by first | with_reducible assumption | rfl) (by first | with_reducible assumption | rfl) (by first | with_reducible assumption | omega) (by first | decide | omega) ?_
          first | (refine wp_iincN (pc := 64) (m := 1) dX6_keep_64 rfl rfl (by decide) ?_) | (refine wp_iinc (pc := 64) dX6_keep_64 rfl rfl (by decide) ?_)
          refine wp_goto (pc := 67) (tgt := 21) dX6_keep_67 (by decide) ?_
          exact h0
    have h00 := loop 16 0 _ rfl ⟨fun j hj => absurd hj (Nat.not_lt_zero j), fun _ _ _ => rfl⟩
    have hil2 : inL (lN s) (lN 0) (lN 1) = true := decide_eq_true ⟨(pk_lLE (by omega) (by omega)).mpr (by omega), (pk_lLE (by omega) (by omega)).mpr (by omega)⟩
    refine call_of_wp (by decide) (Nat.le_of_ble_eq_true rfl) ?_
    refine wp_iload_n (pc := 0) (i := 1) dX6_keep_0 rfl rfl ?_
    first | (refine wp_i2lN (pc := 1) dX6_keep_1 (by first | with_reducible assumption | omega) ?_) | (refine wp_i2l (pc := 1) dX6_keep_1 ?_)
    refine wp_lconst (pc := 2) (v := lN 0) dX6_keep_2 (by decide +kernel) ?_
    refine wp_lconst (pc := 3) (v := lN 1) dX6_keep_3 (by decide +kernel) ?_
    refine wp_cSP3 (pc := 4) dX6_keep_4 lm_X6_56 m_X6_in (Nat.le_of_ble_eq_true rfl) sp_X6_in ?_
    rw [hil2]
    refine wp_if_neB (pc := 7) (tgt := 12) dX6_keep_7 (by decide) (fun c_7 => ?_) (fun c_7 => ?_)
    · refine wp_aload_n (pc := 12) (i := 0) dX6_keep_12 rfl rfl (by first | with_reducible assumption | rfl) ?_
      refine wp_getR (pc := 13) dX6_keep_13 lf_X6_40 (by first | with_reducible assumption | rfl) (by first | with_reducible assumption | rfl) rfl (by first | with_reducible assumption | rfl) (by first | with_reducible assumption | rfl) ?_
      refine wp_iload_n (pc := 16) (i := 1) dX6_keep_16 rfl rfl ?_
      refine wp_iconst (pc := 17) (v := nI 1) dX6_keep_17 (by decide +kernel) ?_
      refine wp_zast (pc := 18) dX6_keep_18 (by first | with_reducible assumption | rfl) (by first | with_reducible assumption | rfl) (by first | with_reducible assumption | omega) (by first | decide | omega) ?_
      rw [show vp_nar .boolean (nI 1) = nI 1 by decide +kernel]
      refine wp_iconst (pc := 19) (v := nI 0) dX6_keep_19 (by decide +kernel) ?_
      refine wp_istore_n (pc := 20) (i := 2) dX6_keep_20 rfl (by decide) ?_
      exact h00
    · exact Bool.noConfusion c_7
set_option maxHeartbeats 16000000 in
theorem sp_X6_again {x : Int32} (hR : RepM t w h last b ps f z I J) : CALL ΩM (d + 2) kX6_again [.ref 0, .int x] I J (AM (aAgain f x) (sAgain x (t, (w, h, last), b, ps, f, z))) := by
  have hil : inL x.toInt64 (lN 0) (lN 1) = inB x 2 := inL_cell (n := 2) (by decide) (by decide)
  cases hx : inB x 2
  · have e : aAgain f x = -1 := if_neg (by rw [hx]; exact Bool.false_ne_true)
    have e2 : sAgain x (t, (w, h, last), b, ps, f, z) = (t, (w, h, last), b, ps, f, z) := if_neg (by rw [hx]; exact Bool.false_ne_true)
    rw [e, e2]
    refine call_of_wp (by decide) (Nat.le_of_ble_eq_true rfl) ?_
    refine wp_iload_n (pc := 0) (i := 1) dX6_again_0 rfl rfl ?_
    refine wp_i2l (pc := 1) dX6_again_1 ?_
    refine wp_lconst (pc := 2) (v := lN 0) dX6_again_2 (by decide +kernel) ?_
    refine wp_lconst (pc := 3) (v := lN 1) dX6_again_3 (by decide +kernel) ?_
    refine wp_cSP3 (pc := 4) dX6_again_4 lm_X6_56 m_X6_in (Nat.le_of_ble_eq_true rfl) sp_X6_in ?_
    rw [hil, hx]
    refine wp_if_neB (pc := 7) (tgt := 12) dX6_again_7 (by decide) (fun c_7 => ?_) (fun c_7 => ?_)
    · exact Bool.noConfusion c_7
    · refine wp_iconst (pc := 10) (v := (-1)) dX6_again_10 (by decide +kernel) ?_
      refine wp_ireturn (pc := 11) dX6_again_11 rfl ?_
      exact am_i rfl hR
  · obtain ⟨s, hs, rfl⟩ := inB_t (by omega) hx
    have hcc := cI_n (n := s) (by omega)
    have hil2 : inL (lN s) (lN 0) (lN 1) = true := decide_eq_true ⟨(pk_lLE (by omega) (by omega)).mpr (by omega), (pk_lLE (by omega) (by omega)).mpr (by omega)⟩
    have hk := (hR.2.2.2.2.2.1.1 s hs).1
    cases hf : f s with
    | none =>
      have e : aAgain f (nI s) = -3 := by
        unfold aAgain
        rw [if_pos hx, hcc, hf]
      have e2 : sAgain (nI s) (t, (w, h, last), b, ps, f, z) = (t, (w, h, last), b, ps, f, z) := by
        unfold sAgain
        rw [if_pos hx, hcc]
        show (match f s with | none => _ | some c => _) = _
        rw [hf]
      rw [hf] at hk
      rw [e, e2]
      refine call_of_wp (by decide) (Nat.le_of_ble_eq_true rfl) ?_
      refine wp_iload_n (pc := 0) (i := 1) dX6_again_0 rfl rfl ?_
      first | (refine wp_i2lN (pc := 1) dX6_again_1 (by first | with_reducible assumption | omega) ?_) | (refine wp_i2l (pc := 1) dX6_again_1 ?_)
      refine wp_lconst (pc := 2) (v := lN 0) dX6_again_2 (by decide +kernel) ?_
      refine wp_lconst (pc := 3) (v := lN 1) dX6_again_3 (by decide +kernel) ?_
      refine wp_cSP3 (pc := 4) dX6_again_4 lm_X6_56 m_X6_in (Nat.le_of_ble_eq_true rfl) sp_X6_in ?_
      rw [hil2]
      refine wp_if_neB (pc := 7) (tgt := 12) dX6_again_7 (by decide) (fun c_7 => ?_) (fun c_7 => ?_)
      · refine wp_aload_n (pc := 12) (i := 0) dX6_again_12 rfl rfl (by first | with_reducible assumption | rfl) ?_
        refine wp_getR (pc := 13) dX6_again_13 lf_X6_40 (by first | with_reducible assumption | rfl) (by first | with_reducible assumption | rfl) rfl (by first | with_reducible assumption | rfl) (by first | with_reducible assumption | rfl) ?_
        refine wp_iload_n (pc := 16) (i := 1) dX6_again_16 rfl rfl ?_
        refine wp_zald (pc := 17) dX6_again_17 (by first | with_reducible assumption | rfl) (by first | with_reducible assumption | rfl) (by first | with_reducible assumption | omega) (by first | decide | omega) ?_
        rw [hk]
        refine wp_if_neB (pc := 18) (tgt := 24) dX6_again_18 (by decide) (fun c_18 => ?_) (fun c_18 => ?_)
        · exact Bool.noConfusion c_18
        · refine wp_bipush (pc := 21) (v := (-3)) dX6_again_21 (by decide +kernel) ?_
          refine wp_ireturn (pc := 23) dX6_again_23 rfl ?_
          exact am_i rfl hR
      · exact Bool.noConfusion c_7
    | some q =>
      have e : aAgain f (nI s) = nI (cnt (fun k => wht q.1 k || blk q.1 k)) := by
        unfold aAgain
        rw [if_pos hx, hcc, hf]
      have e2 : sAgain (nI s) (t, (w, h, last), b, ps, f, z) = (t, (w, h, last), q, [], f, z) := by
        unfold sAgain
        rw [if_pos hx, hcc]
        show (match f s with | none => _ | some c => _) = _
        rw [hf]
      rw [hf] at hk
      have hrow := (hR.2.2.2.2.2.1.1 s hs).2 q hf
      obtain ⟨k1, k2, ⟨k3, k4⟩, ⟨k5, k6⟩, ⟨k7, k8⟩, ⟨k9, k10⟩, k11⟩ := hR
      have hBq := k10 s q hf
      have n16 := (WH_n k3).2
      obtain ⟨nx, p1, p2, p3, p4, p5⟩ := k7
      rw [e, e2]
      have loop : ∀ k j (I2 : MemI), k + j = 16 → CP3 (w * h) j q I I2 → WP ΩM (d + 2) kX6_again 26 [(0, .ref 0), (1, .int (nI s)), (2, .int (nI j))] [] I2 J (AM (nI (cnt (fun k => wht q.1 k || blk q.1 k))) (t, (w, h, last), q, [], f, z)) := by
        intro k
        induction k with
        | zero =>
          intro j I2 hj hcp
          have hj' : j = 16 := (Nat.zero_add j).symm.trans hj
          subst hj'
          have o1 : ∀ a i, ¬ a = 1 → ¬ a = 2 → I2 a i = I a i := fun a i y1 y2 => hcp.2 a i (fun y => y.1.elim y1 y2)
          have f32 : I2 12 (34 * s + 32) = nI q.2.2.1 := by rw [o1 12 _ (by decide) (by decide)]; exact hrow.2.1
          have f33 : ∀ v, uI I2 3 0 v 12 (34 * s + 33) = lsI q.2.2.2 := fun v => by
            show I2 12 (34 * s + 33) = _
            rw [o1 12 _ (by decide) (by decide)]; exact hrow.2.2
          have e3 : ∀ a i, ¬ a = 1 → ¬ a = 2 → ¬ a = 3 → ¬ a = 4 → ¬ (a = 0 ∧ i = 11) → uI (uI (uI I2 3 0 (nI q.2.2.1)) 4 0 (lsI q.2.2.2)) 0 11 (nI 0) a i = I a i := fun a i y1 y2 y3 y4 y5 => by
            show (if a = 0 ∧ i = 11 then _ else (if a = 4 ∧ i = 0 then _ else (if a = 3 ∧ i = 0 then _ else I2 a i))) = I a i
            rw [if_neg y5, if_neg (fun y => y4 y.1), if_neg (fun y => y3 y.1)]
            exact o1 a i y1 y2
          have hL0 := LX_0 (n := w * h) hcp (u := nI q.2.2.1) (v := lsI q.2.2.2) rfl rfl
          have hLn : LX (w * h) 0 q (uI (uI (uI I2 3 0 (nI q.2.2.1)) 4 0 (lsI q.2.2.2)) 0 11 (nI 0)) := LX_n hL0 (by decide) (fun a i y1 _ _ => by
            show (if a = 0 ∧ i = 11 then _ else _) = _
            rw [if_neg (by omega)]) rfl rfl
          have hWn : WH w h (uI (uI (uI I2 3 0 (nI q.2.2.1)) 4 0 (lsI q.2.2.2)) 0 11 (nI 0)) := ⟨k3.1, by rw [e3 0 0 (by decide) (by decide) (by decide) (by decide) (by omega)]; exact k3.2.1, by rw [e3 0 1 (by decide) (by decide) (by decide) (by decide) (by omega)]; exact k3.2.2⟩
          have hfin : RM (t, (w, h, last), q, [], f, z) (uI (uI (uI I2 3 0 (nI q.2.2.1)) 4 0 (lsI q.2.2.2)) 0 11 (nI 0)) J := by
            refine ⟨k1, TM_n k2 (e3 0 8 (by decide) (by decide) (by decide) (by decide) (by omega)) (fun i => e3 5 i (by decide) (by decide) (by decide) (by decide) (by omega)), ⟨hWn, by rw [e3 0 2 (by decide) (by decide) (by decide) (by decide) (by omega)]; exact k4⟩, ⟨hLn, hBq⟩, ⟨⟨nx, rfl, by rw [e3 0 12 (by decide) (by decide) (by decide) (by decide) (by omega)]; exact p2, p3, Nat.zero_le _, fun j c hj => by simp at hj⟩, fun c hc => by cases hc⟩, ⟨KM_n k9 (fun i => e3 11 i (by decide) (by decide) (by decide) (by decide) (by omega)) (fun i => e3 12 i (by decide) (by decide) (by decide) (by decide) (by omega)), k10⟩, k11⟩
          have hmn := sp_X6_men (d := d) (J := J) (k := 0) hWn (LX_V n16 hLn) hBq (by decide)
          refine wp_iload_n (pc := 26) (i := 2) dX6_again_26 rfl rfl ?_
          refine wp_bipush (pc := 27) (v := nI 16) dX6_again_27 (by decide +kernel) ?_
          first | (refine wp_icmp_geN (pc := 29) (tgt := 75) dX6_again_29 (by decide) (by first | with_reducible assumption | omega) (by first | with_reducible assumption | omega) (fun c_29 => ?_) (fun c_29 => ?_)) | (refine wp_icmp_ge (pc := 29) (tgt := 75) dX6_again_29 (by decide) (fun c_29 => ?_) (fun c_29 => ?_))
          · refine wp_aload_n (pc := 75) (i := 0) dX6_again_75 rfl rfl (by first | with_reducible assumption | rfl) ?_
            refine wp_getR (pc := 76) dX6_again_76 lf_X6_16 (by first | with_reducible assumption | rfl) (by first | with_reducible assumption | rfl) rfl (by first | with_reducible assumption | rfl) (by first | with_reducible assumption | rfl) ?_
            refine wp_iconst (pc := 79) (v := nI 0) dX6_again_79 (by decide +kernel) ?_
            refine wp_aload_n (pc := 80) (i := 0) dX6_again_80 rfl rfl (by first | with_reducible assumption | rfl) ?_
            refine wp_getR (pc := 81) dX6_again_81 lf_X6_44 (by first | with_reducible assumption | rfl) (by first | with_reducible assumption | rfl) rfl (by first | with_reducible assumption | rfl) (by first | with_reducible assumption | rfl) ?_
            refine wp_bipush (pc := 84) (v := nI 34) dX6_again_84 (by decide +kernel) ?_
            refine wp_iload_n (pc := 86) (i := 1) dX6_again_86 rfl rfl ?_
            first | (refine wp_imulN (pc := 87) dX6_again_87 ?_) | (refine wp_imul (pc := 87) dX6_again_87 ?_)
            refine wp_bipush (pc := 88) (v := nI 32) dX6_again_88 (by decide +kernel) ?_
            first | (refine wp_iaddN (pc := 90) dX6_again_90 ?_) | (refine wp_iadd (pc := 90) dX6_again_90 ?_)
            refine wp_iald (pc := 91) dX6_again_91 (by first | with_reducible assumption | rfl) (by first | with_reducible assumption | rfl) (by first | with_reducible assumption | omega) (by first | decide | omega) ?_
            rw [f32]
            refine wp_iast (pc := 92) dX6_again_92 (by first | with_reducible assumption | rfl) (by first | with_reducible assumption | rfl) (by first | with_reducible assumption | omega) (by first | decide | omega) ?_
            refine wp_aload_n (pc := 93) (i := 0) dX6_again_93 rfl rfl (by first | with_reducible assumption | rfl) ?_
            refine wp_getR (pc := 94) dX6_again_94 lf_X6_19 (by first | with_reducible assumption | rfl) (by first | with_reducible assumption | rfl) rfl (by first | with_reducible assumption | rfl) (by first | with_reducible assumption | rfl) ?_
            refine wp_iconst (pc := 97) (v := nI 0) dX6_again_97 (by decide +kernel) ?_
            refine wp_aload_n (pc := 98) (i := 0) dX6_again_98 rfl rfl (by first | with_reducible assumption | rfl) ?_
            refine wp_getR (pc := 99) dX6_again_99 lf_X6_44 (by first | with_reducible assumption | rfl) (by first | with_reducible assumption | rfl) rfl (by first | with_reducible assumption | rfl) (by first | with_reducible assumption | rfl) ?_
            refine wp_bipush (pc := 102) (v := nI 34) dX6_again_102 (by decide +kernel) ?_
            refine wp_iload_n (pc := 104) (i := 1) dX6_again_104 rfl rfl ?_
            first | (refine wp_imulN (pc := 105) dX6_again_105 ?_) | (refine wp_imul (pc := 105) dX6_again_105 ?_)
            refine wp_bipush (pc := 106) (v := nI 33) dX6_again_106 (by decide +kernel) ?_
            first | (refine wp_iaddN (pc := 108) dX6_again_108 ?_) | (refine wp_iadd (pc := 108) dX6_again_108 ?_)
            refine wp_iald (pc := 109) dX6_again_109 (by first | with_reducible assumption | rfl) (by first | with_reducible assumption | rfl) (by first | with_reducible assumption | omega) (by first | decide | omega) ?_
            rw [f33]
            refine wp_iast (pc := 110) dX6_again_110 (by first | with_reducible assumption | rfl) (by first | with_reducible assumption | rfl) (by first | with_reducible assumption | omega) (by first | decide | omega) ?_
            refine wp_aload_n (pc := 111) (i := 0) dX6_again_111 rfl rfl (by first | with_reducible assumption | rfl) ?_
            refine wp_iconst (pc := 112) (v := nI 0) dX6_again_112 (by decide +kernel) ?_
            refine wp_putI (pc := 113) dX6_again_113 lf_X6_91 (by first | with_reducible assumption | rfl) (by first | with_reducible assumption | rfl) rfl rfl ?_
            refine wp_aload_n (pc := 116) (i := 0) dX6_again_116 rfl rfl (by first | with_reducible assumption | rfl) ?_
            refine wp_iconst (pc := 117) (v := nI 0) dX6_again_117 (by decide +kernel) ?_
            refine wp_cVP1 (pc := 118) (ci := 6) dX6_again_118 lm_X6_205 m_X6_men (by first | with_reducible assumption | rfl) (by first | with_reducible assumption | rfl) (by decide) rfl (Nat.le_of_ble_eq_true rfl) hmn ?_
            refine wp_ireturn (pc := 121) dX6_again_121 rfl ?_
            exact am_i rfl hfin
          · exact absurd (Nat.le_refl 16) c_29
        | succ k ih =>
          intro j I2 hj hcp
          have hj16 : j < 16 := by omega
          have o1 : ∀ a i, ¬ a = 1 → ¬ a = 2 → I2 a i = I a i := fun a i y1 y2 => hcp.2 a i (fun y => y.1.elim y1 y2)
          have f1 : I2 12 (34 * s + j) = nI (ccd (w * h) q.1 j) := by rw [o1 12 _ (by decide) (by decide)]; exact (hrow.1 j hj16).1
          have f2 : ∀ v, uI I2 1 j v 12 (34 * s + 16 + j) = nI (q.2.1 j) := fun v => by
            show I2 12 (34 * s + 16 + j) = _
            rw [o1 12 _ (by decide) (by decide)]; exact (hrow.1 j hj16).2
          have h0 := ih (j + 1) _ (by omega) (CP3_s hcp hj16)
          clear ih
          refine wp_iload_n (pc := 26) (i := 2) dX6_again_26 rfl rfl ?_
          refine wp_bipush (pc := 27) (v := nI 16) dX6_again_27 (by decide +kernel) ?_
          first | (refine wp_icmp_geN (pc := 29) (tgt := 75) dX6_again_29 (by decide) (by first | with_reducible assumption | omega) (by first | with_reducible assumption | omega) (fun c_29 => ?_) (fun c_29 => ?_)) | (refine wp_icmp_ge (pc := 29) (tgt := 75) dX6_again_29 (by decide) (fun c_29 => ?_) (fun c_29 => ?_))
          · exact absurd c_29 (by omega)
          · refine wp_aload_n (pc := 32) (i := 0) dX6_again_32 rfl rfl (by first | with_reducible assumption | rfl) ?_
            refine wp_getR (pc := 33) dX6_again_33 lf_X6_7 (by first | with_reducible assumption | rfl) (by first | with_reducible assumption | rfl) rfl (by first | with_reducible assumption | rfl) (by first | with_reducible assumption | rfl) ?_
            refine wp_iload_n (pc := 36) (i := 2) dX6_again_36 rfl rfl ?_
            refine wp_aload_n (pc := 37) (i := 0) dX6_again_37 rfl rfl (by first | with_reducible assumption | rfl) ?_
            refine wp_getR (pc := 38) dX6_again_38 lf_X6_44 (by first | with_reducible assumption | rfl) (by first | with_reducible assumption | rfl) rfl (by first | with_reducible assumption | rfl) (by first | with_reducible assumption | rfl) ?_
            refine wp_bipush (pc := 41) (v := nI 34) dX6_again_41 (by decide +kernel) ?_
            refine wp_iload_n (pc := 43) (i := 1) dX6_again_43 rfl rfl ?_
            first | (refine wp_imulN (pc := 44) dX6_again_44 ?_) | (refine wp_imul (pc := 44) dX6_again_44 ?_)
            refine wp_iload_n (pc := 45) (i := 2) dX6_again_45 rfl rfl ?_
            first | (refine wp_iaddN (pc := 46) dX6_again_46 ?_) | (refine wp_iadd (pc := 46) dX6_again_46 ?_)
            refine wp_iald (pc := 47) dX6_again_47 (by first | with_reducible assumption | rfl) (by first | with_reducible assumption | rfl) (by first | with_reducible assumption | omega) (by first | decide | omega) ?_
            rw [f1]
            refine wp_iast (pc := 48) dX6_again_48 (by first | with_reducible assumption | rfl) (by first | with_reducible assumption | rfl) (by first | with_reducible assumption | omega) (by first | decide | omega) ?_
            refine wp_aload_n (pc := 49) (i := 0) dX6_again_49 rfl rfl (by first | with_reducible assumption | rfl) ?_
            refine wp_getR (pc := 50) dX6_again_50 lf_X6_13 (by first | with_reducible assumption | rfl) (by first | with_reducible assumption | rfl) rfl (by first | with_reducible assumption | rfl) (by first | with_reducible assumption | rfl) ?_
            refine wp_iload_n (pc := 53) (i := 2) dX6_again_53 rfl rfl ?_
            refine wp_aload_n (pc := 54) (i := 0) dX6_again_54 rfl rfl (by first | with_reducible assumption | rfl) ?_
            refine wp_getR (pc := 55) dX6_again_55 lf_X6_44 (by first | with_reducible assumption | rfl) (by first | with_reducible assumption | rfl) rfl (by first | with_reducible assumption | rfl) (by first | with_reducible assumption | rfl) ?_
            refine wp_bipush (pc := 58) (v := nI 34) dX6_again_58 (by decide +kernel) ?_
            refine wp_iload_n (pc := 60) (i := 1) dX6_again_60 rfl rfl ?_
            first | (refine wp_imulN (pc := 61) dX6_again_61 ?_) | (refine wp_imul (pc := 61) dX6_again_61 ?_)
            refine wp_bipush (pc := 62) (v := nI 16) dX6_again_62 (by decide +kernel) ?_
            first | (refine wp_iaddN (pc := 64) dX6_again_64 ?_) | (refine wp_iadd (pc := 64) dX6_again_64 ?_)
            refine wp_iload_n (pc := 65) (i := 2) dX6_again_65 rfl rfl ?_
            first | (refine wp_iaddN (pc := 66) dX6_again_66 ?_) | (refine wp_iadd (pc := 66) dX6_again_66 ?_)
            refine wp_iald (pc := 67) dX6_again_67 (by first | with_reducible assumption | rfl) (by first | with_reducible assumption | rfl) (by first | with_reducible assumption | omega) (by first | decide | omega) ?_
            rw [f2]
            refine wp_iast (pc := 68) dX6_again_68 (by first | with_reducible assumption | rfl) (by first | with_reducible assumption | rfl) (by first | with_reducible assumption | omega) (by first | decide | omega) ?_
            first | (refine wp_iincN (pc := 69) (m := 1) dX6_again_69 rfl rfl (by decide) ?_) | (refine wp_iinc (pc := 69) dX6_again_69 rfl rfl (by decide) ?_)
            refine wp_goto (pc := 72) (tgt := 26) dX6_again_72 (by decide) ?_
            exact h0
      have h00 := loop 16 0 I rfl ⟨fun j hj => absurd hj (Nat.not_lt_zero j), fun _ _ _ => rfl⟩
      refine call_of_wp (by decide) (Nat.le_of_ble_eq_true rfl) ?_
      refine wp_iload_n (pc := 0) (i := 1) dX6_again_0 rfl rfl ?_
      first | (refine wp_i2lN (pc := 1) dX6_again_1 (by first | with_reducible assumption | omega) ?_) | (refine wp_i2l (pc := 1) dX6_again_1 ?_)
      refine wp_lconst (pc := 2) (v := lN 0) dX6_again_2 (by decide +kernel) ?_
      refine wp_lconst (pc := 3) (v := lN 1) dX6_again_3 (by decide +kernel) ?_
      refine wp_cSP3 (pc := 4) dX6_again_4 lm_X6_56 m_X6_in (Nat.le_of_ble_eq_true rfl) sp_X6_in ?_
      rw [hil2]
      refine wp_if_neB (pc := 7) (tgt := 12) dX6_again_7 (by decide) (fun c_7 => ?_) (fun c_7 => ?_)
      · refine wp_aload_n (pc := 12) (i := 0) dX6_again_12 rfl rfl (by first | with_reducible assumption | rfl) ?_
        refine wp_getR (pc := 13) dX6_again_13 lf_X6_40 (by first | with_reducible assumption | rfl) (by first | with_reducible assumption | rfl) rfl (by first | with_reducible assumption | rfl) (by first | with_reducible assumption | rfl) ?_
        refine wp_iload_n (pc := 16) (i := 1) dX6_again_16 rfl rfl ?_
        refine wp_zald (pc := 17) dX6_again_17 (by first | with_reducible assumption | rfl) (by first | with_reducible assumption | rfl) (by first | with_reducible assumption | omega) (by first | decide | omega) ?_
        rw [hk]
        refine wp_if_neB (pc := 18) (tgt := 24) dX6_again_18 (by decide) (fun c_18 => ?_) (fun c_18 => ?_)
        · refine wp_iconst (pc := 24) (v := nI 0) dX6_again_24 (by decide +kernel) ?_
          refine wp_istore_n (pc := 25) (i := 2) dX6_again_25 rfl (by decide) ?_
          exact h00
        · exact Bool.noConfusion c_18
      · exact Bool.noConfusion c_7
end MC2
