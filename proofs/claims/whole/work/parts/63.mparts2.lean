/-! THE REFERENCE'S CALLS, 16: parts, part -/
theorem hits_none {w h c : Nat} {O : Nat → Bool} : hits w h O (fun _ => false) c = false := decide_eq_false (fun z => z (mset_zero.mpr (fun _ _ => Bool.and_false _)))
theorem pao_none {w h : Nat} {O : Nat → Bool} : pao w h O (fun _ => false) = fb_ct (ldr w h O) (w * h) := by
  unfold pao
  rw [find_no (fun j _ => by rw [hits_none, Bool.and_false])]
theorem hits_one {w h c l : Nat} {O : Nat → Bool} (hc : c < 16) : hits w h O (fun i => decide (i = c)) l = clB (hgR w h O) l c := by
  unfold hits
  cases hv : clB (hgR w h O) l c
  · refine decide_eq_false (fun z => z (mset_zero.mpr (fun i _ => ?_)))
    by_cases hi : i = c
    · rw [hi, hv]; rfl
    · show (clB (hgR w h O) l i && decide (i = c)) = false
      rw [decide_eq_false hi, Bool.and_false]
  · refine decide_eq_true (fun z => ?_)
    have h1 := mset_zero.mp z c hc
    rw [hv] at h1
    have h2 : (true && decide (c = c)) = false := h1
    rw [decide_eq_true rfl] at h2
    cases h2
theorem pao_one {w h c l : Nat} {g : Nat → Nat} (hw : w < 5) (hh : h < 5) (hwh : w * h ≤ 16) (hc : c < w * h) (hlc : l ≤ c) (hl : ldr w h (opn w h g) l = true) (hlt : clB (hgR w h (opn w h g)) l c = true) : pao w h (opn w h g) (fun i => decide (i = c)) = fb_ct (ldr w h (opn w h g)) l := by
  unfold pao
  have h1 : ∀ j, j < l → (ldr w h (opn w h g) j && hits w h (opn w h g) (fun i => decide (i = c)) j) = false := fun j hj => by
    rw [hits_one (by omega)]
    cases hj2 : ldr w h (opn w h g) j
    · rfl
    · rw [Bool.true_and, Bool.eq_false_iff]
      intro y
      have := ldr_two hw hh hwh hj2 hl hj y
      rw [hlt] at this
      cases this
  rw [find_ff (show l < w * h by omega) h1 (by rw [hits_one (by omega), hl, hlt]; rfl)]
section MP16
variable {d : Nat} {I : MemI} {J : MemJ} {t : List Nat} {w h last : Nat} {b : Bd} {ps : List Bd} {f : Nat → Option Bd} {z : Int64}
theorem lp_fr {g : Nat → Nat} : ∀ c, FI scrM I (lpM w h g c (inM 16 I)) := fun c a i y => by
  have ha : ¬ a = 10 := fun q => y (by unfold scrM; omega)
  rw [lp_o ha]
  unfold inM
  rw [if_neg (fun q => ha q.1)]
set_option maxHeartbeats 16000000 in
theorem sp_X6_parts (hR : RepM t w h last b ps f z I J) : CALL ΩM (d + 6) kX6_parts [.ref 0] I J (AM (aParts w h b) (t, (w, h, last), b, ps, f, z)) := by
  have hlp := sp_X6_layParts (d := d) (J := J) hR.2.2.1.1 hR.2.2.2.1.1 hR.2.2.2.1.2
  have e : aParts w h b = nI (fb_ct (ldr w h (opn w h b.1)) (w * h)) := by unfold aParts; rw [pao_none]
  rw [e]
  refine call_of_wp (by decide) (Nat.le_of_ble_eq_true rfl) ?_
  refine wp_aload_n (pc := 0) (i := 0) dX6_parts_0 rfl rfl (by first | with_reducible assumption | rfl) ?_
  refine wp_cVI0 (pc := 1) (ci := 6) dX6_parts_1 lm_X6_172 m_X6_layParts (by first | with_reducible assumption | rfl) (by first | with_reducible assumption | rfl) (by decide) rfl (Nat.le_of_ble_eq_true rfl) hlp (fun x_1 I_1 J_1 h_1 => ?_)
  obtain ⟨rfl, rfl, rfl⟩ := h_1
  refine wp_ireturn (pc := 4) dX6_parts_4 rfl ?_
  exact am_i rfl (RepM_fr hR (lp_fr _))
set_option maxHeartbeats 16000000 in
theorem sp_X6_part {x : Int32} (hR : RepM t w h last b ps f z I J) : CALL ΩM (d + 6) kX6_part [.ref 0, .int x] I J (AM (aPart w h b x) (t, (w, h, last), b, ps, f, z)) := by
  have hwh := RepM_16 hR
  have hW := hR.2.2.1.1
  have hB := hR.2.2.2.1.2
  have hw5 : w < 5 := by have := hW.1; omega
  have hh5 : h < 5 := by have := hW.1; omega
  cases hx : inB x (w * h)
  · have e : aPart w h b x = -1 := if_neg (by rw [hx]; exact Bool.false_ne_true)
    rw [e]
    refine call_of_wp (by decide) (Nat.le_of_ble_eq_true rfl) ?_
    refine wp_aload_n (pc := 0) (i := 0) dX6_part_0 rfl rfl (by first | with_reducible assumption | rfl) ?_
    refine wp_iload_n (pc := 1) (i := 1) dX6_part_1 rfl rfl ?_
    refine wp_cVP1 (pc := 2) (ci := 6) dX6_part_2 lm_X6_94 m_X6_isCell (by first | with_reducible assumption | rfl) (by first | with_reducible assumption | rfl) (by decide) rfl (Nat.le_of_ble_eq_true rfl) (sp_X6_isCell (d := d + 4) hW) ?_
    rw [hx]
    refine wp_if_neB (pc := 5) (tgt := 10) dX6_part_5 (by decide) (fun c_5 => ?_) (fun c_5 => ?_)
    · exact Bool.noConfusion c_5
    · refine wp_iconst (pc := 8) (v := (-1)) dX6_part_8 (by decide +kernel) ?_
      refine wp_ireturn (pc := 9) dX6_part_9 rfl ?_
      exact am_i rfl hR
  · obtain ⟨c, hc, rfl⟩ := inB_t (by omega) hx
    have hc16 : c < 16 := by omega
    have e : aPart w h b (nI c) = if ded b.1 c = true then -9 else nI (pao w h (opn w h b.1) (fun i => decide (i = c))) := by unfold aPart; rw [if_pos hx, cI_n (by omega)]
    have i9 : inM 16 I 10 c = -9 := by unfold inM; rw [if_pos ⟨rfl, hc16⟩]
    have hlp := sp_X6_layParts (d := d) (J := J) hW hR.2.2.2.1.1 hB
    have ev : lpM w h b.1 (w * h) (inM 16 I) 10 c = aPart w h b (nI c) := by
      rw [e]
      by_cases hd : ded b.1 c = true
      · rw [if_pos hd]
        refine lp_A i9 _ (fun l _ hl => ?_)
        rw [Bool.eq_false_iff]
        intro y
        have h1 := (Cl_sym hw5 hh5 hwh.2 (ldr_O hl) (clB_iff.mp y)).2
        unfold opn at h1
        rw [hd, Bool.not_true, Bool.and_false] at h1
        cases h1
      · rw [if_neg hd]
        have hO : opn w h b.1 c = true := by
          unfold opn
          rw [decide_eq_true hc, Bool.true_and, Bool.not_eq_true']
          exact Bool.eq_false_iff.mpr hd
        obtain ⟨l, l1, l2, l3⟩ := ldr_ex (w := w) (h := h) (c + 1) c (by omega) hO
        rw [lp_B hw5 hh5 hwh.2 hc16 l2 l3 (w * h) (by omega), pao_one hw5 hh5 hwh.2 hc l1 l2 l3]
    generalize aPart w h b (nI c) = A at ev ⊢
    refine call_of_wp (by decide) (Nat.le_of_ble_eq_true rfl) ?_
    refine wp_aload_n (pc := 0) (i := 0) dX6_part_0 rfl rfl (by first | with_reducible assumption | rfl) ?_
    refine wp_iload_n (pc := 1) (i := 1) dX6_part_1 rfl rfl ?_
    refine wp_cVP1 (pc := 2) (ci := 6) dX6_part_2 lm_X6_94 m_X6_isCell (by first | with_reducible assumption | rfl) (by first | with_reducible assumption | rfl) (by decide) rfl (Nat.le_of_ble_eq_true rfl) (sp_X6_isCell (d := d + 4) hW) ?_
    rw [hx]
    refine wp_if_neB (pc := 5) (tgt := 10) dX6_part_5 (by decide) (fun c_5 => ?_) (fun c_5 => ?_)
    · refine wp_aload_n (pc := 10) (i := 0) dX6_part_10 rfl rfl (by first | with_reducible assumption | rfl) ?_
      refine wp_cVI0 (pc := 11) (ci := 6) dX6_part_11 lm_X6_172 m_X6_layParts (by first | with_reducible assumption | rfl) (by first | with_reducible assumption | rfl) (by decide) rfl (Nat.le_of_ble_eq_true rfl) hlp (fun x_11 I_11 J_11 h_11 => ?_)
      obtain ⟨rfl, rfl, rfl⟩ := h_11
      refine wp_pop (pc := 14) dX6_part_14 rfl ?_
      refine wp_aload_n (pc := 15) (i := 0) dX6_part_15 rfl rfl (by first | with_reducible assumption | rfl) ?_
      refine wp_getR (pc := 16) dX6_part_16 lf_X6_37 (by first | with_reducible assumption | rfl) (by first | with_reducible assumption | rfl) rfl (by first | with_reducible assumption | rfl) (by first | with_reducible assumption | rfl) ?_
      refine wp_iload_n (pc := 19) (i := 1) dX6_part_19 rfl rfl ?_
      refine wp_iald (pc := 20) dX6_part_20 (by first | with_reducible assumption | rfl) (by first | with_reducible assumption | rfl) (by first | with_reducible assumption | omega) (by first | decide | omega) ?_
      rw [ev]
      refine wp_ireturn (pc := 21) dX6_part_21 rfl ?_
      exact am_i rfl (RepM_fr hR (lp_fr _))
    · exact Bool.noConfusion c_5
end MP16
