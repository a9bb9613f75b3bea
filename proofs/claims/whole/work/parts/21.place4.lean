/-! A PLACE, 4: make, follow -/
section PL4
variable {d : Nat} {I : MemI} {J : MemJ}
/-- what a PLY may be on a board: of the man's own side; to an empty cell or one of the other side -/
def legX (b : Bd) (x : Nat) : Prop := x = 256 ∨ (x < 256 ∧ 2 ≤ b.1 (x / 16) ∧ (b.1 (x % 16) = 0 ∨ 2 ≤ b.1 (x % 16)))
theorem enc_div {f t : Nat} (h : t < 16) : (f * 100 + t) / 100 = f := by omega
theorem enc_mod {f t : Nat} (h : t < 16) : (f * 100 + t) % 100 = t := by omega
theorem enc_ne {x : Nat} (h : x < 256) : encC x = nI (x / 16 * 100 + x % 16) := by unfold encC; rw [if_neg (by omega)]
set_option maxHeartbeats 16000000 in
theorem sp_X2_make {p x last : Nat} {b : Bd} (hp : isP p) (hb : PL p b I J) (hs : ∀ c, c < 16 → b.1 c < 12) (ht : ∀ c, c < 16 → b.2.1 c < 10) (h1 : ∀ c, c < 16 → 0 < b.2.1 c → b.1 c = 1) (ho : b.2.2.1 < 2) (hx : legX b x) (hl : last < 10) : CALL ΩC (d + 3) kX2_make [.ref p, .int (encC x), .int (nI last)] I J (VQ (fun I' J' => I' = wI p (mkB last b x) I ∧ J' = wJ p (mkB last b x) J)) := by
  have hgG : ∀ c, c < 16 → ageG b c < 12 := fun c hc => by unfold ageG; split; exact (by decide); exact hs c hc
  have hgT : ∀ c, c < 16 → ageT b c < 10 := fun c hc => by have := ht c hc; unfold ageT; omega
  refine call_of_wp (by decide) (Nat.le_of_ble_eq_true rfl) ?_
  obtain ⟨q1, q2, q3, q4, q5⟩ := isP_sh hp
  have g9 : wI p (ageG b, ageT b, b.2.2) I p 9 = nI b.2.2.1 := by simp [wI, fI]
  rcases hx with rfl | ⟨hx, hx2, hx3⟩
  · show WP ΩC (d + 3) kX2_make 0 [(0, .ref p), (1, .int (-9)), (2, .int (nI last))] [] I J _
    refine wp_aload_n (pc := 0) (i := 0) dX2_make_0 rfl rfl (by first | with_reducible assumption | rfl) ?_
    refine wp_cVV0 (pc := 1) (ci := 2) dX2_make_1 lm_X2_132 m_X2_age (by first | with_reducible assumption | rfl) (by first | with_reducible assumption | rfl) (by decide) rfl (Nat.le_of_ble_eq_true rfl) (sp_X2_age (by with_reducible assumption) (by with_reducible assumption) (by with_reducible assumption) (by with_reducible assumption)) (fun I_1 J_1 h_1 => ?_)
    obtain ⟨rfl, rfl⟩ := h_1
    refine wp_aload_n (pc := 4) (i := 0) dX2_make_4 rfl rfl (by first | with_reducible assumption | rfl) ?_
    refine wp_iconst (pc := 5) (v := nI 1) dX2_make_5 (by decide +kernel) ?_
    refine wp_aload_n (pc := 6) (i := 0) dX2_make_6 rfl rfl (by first | with_reducible assumption | rfl) ?_
    refine wp_getI (pc := 7) dX2_make_7 lf_X2_38 (by first | with_reducible assumption | rfl) (by first | with_reducible assumption | rfl) rfl ?_
    rw [g9]
    first | (refine wp_isubN (pc := 10) dX2_make_10 (by first | with_reducible assumption | omega) ?_) | (refine wp_isub (pc := 10) dX2_make_10 ?_)
    refine wp_putI (pc := 11) dX2_make_11 lf_X2_38 (by first | with_reducible assumption | rfl) (by first | with_reducible assumption | rfl) rfl rfl ?_
    rw [wI_9, show wJ p (ageG b, ageT b, b.2.2) J = wJ p (ageG b, ageT b, 1 - b.2.2.1, b.2.2.2) J from wJ_cong (fun _ _ => rfl) (fun _ _ => rfl)]
    refine wp_iload_n (pc := 14) (i := 1) dX2_make_14 rfl rfl ?_
    refine wp_bipush (pc := 15) (v := (-9)) dX2_make_15 (by decide +kernel) ?_
    refine wp_icmp_ne (pc := 17) (tgt := 21) dX2_make_17 (by decide) (fun c_17 => ?_) (fun c_17 => ?_)
    · exact absurd rfl c_17
    · refine wp_return (pc := 20) dX2_make_20 rfl ?_
      exact vq_i ⟨rfl, rfl⟩
  · have hf : x / 16 < 16 := by omega
    have hto : x % 16 < 16 := by omega
    have hne : ¬ nI (x / 16 * 100 + x % 16) = -9 := fun z => nI_pos (n := x / 16 * 100 + x % 16) (by omega) (by rw [z]; decide)
    have n256 : ¬ x = 256 := by omega
    have em : mkB last b x = if ageG b (x % 16) = 0 then (up (up (ageG b) (x % 16) (ageG b (x / 16))) (x / 16) 0, ageT b, 1 - b.2.2.1, b.2.2.2) else fal last (ageG b, ageT b, 1 - b.2.2.1, b.2.2.2) (x % 16) := by unfold mkB; rw [if_neg n256]
    have ee := enc_ne hx
    clear n256
    generalize x / 16 = f at *
    generalize x % 16 = t at *
    clear hx
    have hft : f * 100 + t < 2000 := by omega
    have a0 : ∀ c, c < 16 → 2 ≤ b.1 c → ageG b c = b.1 c ∧ ageT b c = 0 := fun c hc hg => by
      have h0 : b.2.1 c = 0 := by
        rcases Nat.eq_zero_or_pos (b.2.1 c) with h | h
        · exact h
        · have := h1 c hc h; omega
      exact ⟨by rw [ageG, if_neg (by omega)], by rw [ageT, h0]⟩
    have a1 : b.1 t = 0 → ageG b t = 0 := fun h => by
      unfold ageG; split
      · rfl
      · exact h
    show WP ΩC (d + 3) kX2_make 0 [(0, .ref p), (1, .int (encC x)), (2, .int (nI last))] [] I J _
    rw [ee]
    refine wp_aload_n (pc := 0) (i := 0) dX2_make_0 rfl rfl (by first | with_reducible assumption | rfl) ?_
    refine wp_cVV0 (pc := 1) (ci := 2) dX2_make_1 lm_X2_132 m_X2_age (by first | with_reducible assumption | rfl) (by first | with_reducible assumption | rfl) (by decide) rfl (Nat.le_of_ble_eq_true rfl) (sp_X2_age (by with_reducible assumption) (by with_reducible assumption) (by with_reducible assumption) (by with_reducible assumption)) (fun I_1 J_1 h_1 => ?_)
    obtain ⟨rfl, rfl⟩ := h_1
    refine wp_aload_n (pc := 4) (i := 0) dX2_make_4 rfl rfl (by first | with_reducible assumption | rfl) ?_
    refine wp_iconst (pc := 5) (v := nI 1) dX2_make_5 (by decide +kernel) ?_
    refine wp_aload_n (pc := 6) (i := 0) dX2_make_6 rfl rfl (by first | with_reducible assumption | rfl) ?_
    refine wp_getI (pc := 7) dX2_make_7 lf_X2_38 (by first | with_reducible assumption | rfl) (by first | with_reducible assumption | rfl) rfl ?_
    rw [g9]
    first | (refine wp_isubN (pc := 10) dX2_make_10 (by first | with_reducible assumption | omega) ?_) | (refine wp_isub (pc := 10) dX2_make_10 ?_)
    refine wp_putI (pc := 11) dX2_make_11 lf_X2_38 (by first | with_reducible assumption | rfl) (by first | with_reducible assumption | rfl) rfl rfl ?_
    rw [wI_9, show wJ p (ageG b, ageT b, b.2.2) J = wJ p (ageG b, ageT b, 1 - b.2.2.1, b.2.2.2) J from wJ_cong (fun _ _ => rfl) (fun _ _ => rfl)]
    refine wp_iload_n (pc := 14) (i := 1) dX2_make_14 rfl rfl ?_
    refine wp_bipush (pc := 15) (v := (-9)) dX2_make_15 (by decide +kernel) ?_
    refine wp_icmp_ne (pc := 17) (tgt := 21) dX2_make_17 (by decide) (fun c_17 => ?_) (fun c_17 => ?_)
    · refine wp_iload_n (pc := 21) (i := 1) dX2_make_21 rfl rfl ?_
      refine wp_bipush (pc := 22) (v := nI 100) dX2_make_22 (by decide +kernel) ?_
      refine wp_idivN (pc := 24) dX2_make_24 (by first | with_reducible assumption | omega) (by first | with_reducible assumption | omega) (by first | with_reducible assumption | omega) ?_
      rw [enc_div hto]
      refine wp_istore_n (pc := 25) (i := 3) dX2_make_25 rfl (by decide) ?_
      refine wp_iload_n (pc := 26) (i := 1) dX2_make_26 rfl rfl ?_
      refine wp_bipush (pc := 27) (v := nI 100) dX2_make_27 (by decide +kernel) ?_
      refine wp_iremN (pc := 29) dX2_make_29 (by first | with_reducible assumption | omega) (by first | with_reducible assumption | omega) (by first | with_reducible assumption | omega) ?_
      rw [enc_mod hto]
      refine wp_istore (pc := 30) dX2_make_30 (by decide) ?_
      refine wp_aload_n (pc := 32) (i := 0) dX2_make_32 rfl rfl (by first | with_reducible assumption | rfl) ?_
      refine wp_iload (pc := 33) dX2_make_33 rfl ?_
      refine wp_cVP1 (pc := 35) (ci := 2) dX2_make_35 lm_X2_80 m_X2_sign (by first | with_reducible assumption | rfl) (by first | with_reducible assumption | rfl) (by decide) rfl (Nat.le_of_ble_eq_true rfl) (sp_X2_sign (b := (ageG b, ageT b, 1 - b.2.2.1, b.2.2.2)) hp PL_w hgG hto) ?_
      show WP ΩC _ _ _ _ (.int (nI (ageG b t)) :: _) _ _ _
      have hgt := hgG t hto
      refine wp_if_eqN (pc := 38) (tgt := 49) dX2_make_38 (by decide) (by first | with_reducible assumption | omega) (fun c_38 => ?_) (fun c_38 => ?_)
      · refine wp_aload_n (pc := 49) (i := 0) dX2_make_49 rfl rfl (by first | with_reducible assumption | rfl) ?_
        refine wp_iload (pc := 50) dX2_make_50 rfl ?_
        refine wp_aload_n (pc := 52) (i := 0) dX2_make_52 rfl rfl (by first | with_reducible assumption | rfl) ?_
        refine wp_iload_n (pc := 53) (i := 3) dX2_make_53 rfl rfl ?_
        refine wp_cVP1 (pc := 54) (ci := 2) dX2_make_54 lm_X2_80 m_X2_sign (by first | with_reducible assumption | rfl) (by first | with_reducible assumption | rfl) (by decide) rfl (Nat.le_of_ble_eq_true rfl) (sp_X2_sign (b := (ageG b, ageT b, 1 - b.2.2.1, b.2.2.2)) hp PL_w hgG hf) ?_
        refine wp_cVV2 (pc := 57) (ci := 2) dX2_make_57 lm_X2_56 m_X2_put (by first | with_reducible assumption | rfl) (by first | with_reducible assumption | rfl) (by decide) rfl (Nat.le_of_ble_eq_true rfl) (sp_X2_put (b := (ageG b, ageT b, 1 - b.2.2.1, b.2.2.2)) hp PL_w hgG hto (hgG _ hf)) (fun I_57 J_57 h_57 => ?_)
        obtain ⟨rfl, rfl⟩ := h_57
        rw [wI_w, wJ_w]
        refine wp_aload_n (pc := 60) (i := 0) dX2_make_60 rfl rfl (by first | with_reducible assumption | rfl) ?_
        refine wp_iload_n (pc := 61) (i := 3) dX2_make_61 rfl rfl ?_
        refine wp_iconst (pc := 62) (v := nI 0) dX2_make_62 (by decide +kernel) ?_
        refine wp_cVV2 (pc := 63) (ci := 2) dX2_make_63 lm_X2_56 m_X2_put (by first | with_reducible assumption | rfl) (by first | with_reducible assumption | rfl) (by decide) rfl (Nat.le_of_ble_eq_true rfl) (sp_X2_put (b := (up (ageG b) t (ageG b f), ageT b, 1 - b.2.2.1, b.2.2.2)) (s := 0) hp PL_w (fun c hc => by show up _ _ _ c < 12; unfold up; split; exact hgG _ hf; exact hgG c hc) hf (by decide)) (fun I_63 J_63 h_63 => ?_)
        obtain ⟨rfl, rfl⟩ := h_63
        rw [wI_w, wJ_w]
        refine wp_return (pc := 66) dX2_make_66 rfl ?_
        first
          | (have g1 : ¬ ageG b t = 0 := c_38
             rw [if_neg g1] at em
             exact vq_i ⟨by rw [em], by rw [em]⟩)
          | (have g2 : ageG b t = 0 := c_38
             rw [if_pos g2] at em
             exact vq_i ⟨by rw [em], by rw [em]⟩)
      · have hk : 2 ≤ b.1 t := hx3.elim (fun h => absurd (a1 h) c_38) id
        refine wp_aload_n (pc := 41) (i := 0) dX2_make_41 rfl rfl (by first | with_reducible assumption | rfl) ?_
        refine wp_iload (pc := 42) dX2_make_42 rfl ?_
        refine wp_iload_n (pc := 44) (i := 2) dX2_make_44 rfl rfl ?_
        refine wp_cVV2 (pc := 45) (ci := 2) dX2_make_45 lm_X2_135 m_X2_fall (by first | with_reducible assumption | rfl) (by first | with_reducible assumption | rfl) (by decide) rfl (Nat.le_of_ble_eq_true rfl) (sp_X2_fall (b := (ageG b, ageT b, 1 - b.2.2.1, b.2.2.2)) hp PL_w hgG hgT hto (by show 2 ≤ ageG b t; rw [(a0 _ hto hk).1]; exact hk) (a0 _ hto hk).2 hl) (fun I_45 J_45 h_45 => ?_)
        obtain ⟨rfl, rfl⟩ := h_45
        rw [wI_w, wJ_w]
        refine wp_return (pc := 48) dX2_make_48 rfl ?_
        first
          | (have g1 : ¬ ageG b t = 0 := c_38
             rw [if_neg g1] at em
             exact vq_i ⟨by rw [em], by rw [em]⟩)
          | (have g2 : ageG b t = 0 := c_38
             rw [if_pos g2] at em
             exact vq_i ⟨by rw [em], by rw [em]⟩)
    · exact absurd c_17 hne
set_option maxHeartbeats 16000000 in
theorem sp_X2_follow {p q x last : Nat} {b : Bd} (hp : isP p) (hq : isP q) (hne : ¬ q = p) (hb : PL q b I J) (hs : ∀ c, c < 16 → b.1 c < 12) (ht : ∀ c, c < 16 → b.2.1 c < 10) (h1 : ∀ c, c < 16 → 0 < b.2.1 c → b.1 c = 1) (ho : b.2.2.1 < 2) (hx : legX b x) (hl : last < 10) : CALL ΩC (d + 4) kX2_follow [.ref p, .ref q, .int (encC x), .int (nI last)] I J (VQ (fun I' J' => I' = wI p (mkB last b x) I ∧ J' = wJ p (mkB last b x) J)) := by
  refine call_of_wp (by decide) (Nat.le_of_ble_eq_true rfl) ?_
  obtain ⟨p1, p2, p3, p4, p5⟩ := isP_sh hp
  obtain ⟨q1, q2, q3, q4, q5⟩ := isP_sh hq
  refine wp_aload_n (pc := 0) (i := 0) dX2_follow_0 rfl rfl (by first | with_reducible assumption | rfl) ?_
  refine wp_aload_n (pc := 1) (i := 1) dX2_follow_1 rfl rfl (by first | with_reducible assumption | rfl) ?_
  refine wp_cVV1 (pc := 2) (ci := 2) dX2_follow_2 lm_X2_125 m_X2_copy (by first | with_reducible assumption | rfl) (by first | with_reducible assumption | rfl) (by decide) rfl (Nat.le_of_ble_eq_true rfl) (sp_X2_copy hp hq hne hb) (fun I_2 J_2 h_2 => ?_)
  obtain ⟨rfl, rfl⟩ := h_2
  refine wp_aload_n (pc := 5) (i := 0) dX2_follow_5 rfl rfl (by first | with_reducible assumption | rfl) ?_
  refine wp_iload_n (pc := 6) (i := 2) dX2_follow_6 rfl rfl ?_
  refine wp_iload_n (pc := 7) (i := 3) dX2_follow_7 rfl rfl ?_
  refine wp_cVV2 (pc := 8) (ci := 2) dX2_follow_8 lm_X2_129 m_X2_make (by first | with_reducible assumption | rfl) (by first | with_reducible assumption | rfl) (by decide) rfl (Nat.le_of_ble_eq_true rfl) (sp_X2_make hp PL_w hs ht h1 ho hx hl) (fun I_8 J_8 h_8 => ?_)
  obtain ⟨rfl, rfl⟩ := h_8
  rw [wI_w, wJ_w]
  refine wp_return (pc := 11) dX2_follow_11 rfl ?_
  exact vq_i ⟨rfl, rfl⟩
end PL4
