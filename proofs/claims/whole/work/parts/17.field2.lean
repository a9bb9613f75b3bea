/-! THE FIELD, 2: shape, lines, aimed, going, all -/
def GD (w h last m : Nat) (I0 I : MemI) : Prop := I 3 5 = nI w ∧ I 3 6 = nI h ∧ I 3 7 = nI last ∧ I 3 8 = nI (w * h) ∧ (∀ c, c < m → Tab w h I c) ∧ ∀ a i, (a < 3 ∨ 9 ≤ a) → I a i = I0 a i
/-- one cell laid -/
def oneC (w h c : Nat) (I : MemI) : MemI :=
  uI (uI (uI (uI (uI (uI (srI w h c 8 I) 5 c (nI (mset (kst w h c)))) 6 c (nI (mset (nst w h c)))) 8 c (nI (mset (stp w h 0 c)))) 7 c (nI (mset (sla w h 0 c)))) 8 (16 + c) (nI (mset (stp w h 1 c)))) 7 (16 + c) (nI (mset (sla w h 1 c)))
theorem oneC_tab {w h c : Nat} {I : MemI} (hc : c < 16) : Tab w h (oneC w h c I) c := by
  refine ⟨fun k hk => ?_, ?_, ?_, fun s hs => ?_⟩
  · have e1 : (k * 16 + c) % 16 = c := by omega
    have e2 : (k * 16 + c) / 16 = k := by omega
    simp [oneC, uI, srI, e1, e2, hk]
  · simp [oneC, uI]
  · simp [oneC, uI]
  · rcases (show s = 0 ∨ s = 1 by omega) with rfl | rfl
    · have h1 : ¬ c = 16 + c := by omega
      simp [oneC, uI, h1]
    · simp [oneC, uI]
theorem oneC_keep {w h c c' : Nat} {I : MemI} (hc : c < 16) (hc' : c' < 16) (hne : c' ≠ c) (ht : Tab w h I c') : Tab w h (oneC w h c I) c' := by
  obtain ⟨h1, h2, h3, h4⟩ := ht
  refine ⟨fun k hk => ?_, ?_, ?_, fun s hs => ?_⟩
  · have e1 : ¬ c' % 16 = c := by omega
    have := h1 k hk
    simp [oneC, uI, srI, e1, this]
  · have e0 : ¬ c' = c := hne
    simp [oneC, uI, srI, e0, h2]
  · have e0 : ¬ c' = c := hne
    simp [oneC, uI, srI, e0, h3]
  · have e0 : ¬ s * 16 + c' = c := by omega
    have e1 : ¬ s * 16 + c' = 16 + c := by omega
    have := h4 s hs
    simp [oneC, uI, srI, e0, e1, this]
theorem oneC_o {w h c a i : Nat} {I : MemI} (h1 : a < 4 ∨ 9 ≤ a) : oneC w h c I a i = I a i := by
  have e4 : ¬ a = 4 := by omega
  have e5 : ¬ a = 5 := by omega
  have e6 : ¬ a = 6 := by omega
  have e7 : ¬ a = 7 := by omega
  have e8 : ¬ a = 8 := by omega
  simp [oneC, uI, srI, e4, e5, e6, e7, e8]
theorem GD_one {w h last m : Nat} {I0 I : MemI} (hm : m < 16) (hg : GD w h last m I0 I) : GD w h last (m + 1) I0 (oneC w h m I) := by
  obtain ⟨h1, h2, h3, h4, h5, h6⟩ := hg
  refine ⟨by rw [oneC_o (Or.inl (by decide))]; exact h1, by rw [oneC_o (Or.inl (by decide))]; exact h2, by rw [oneC_o (Or.inl (by decide))]; exact h3, by rw [oneC_o (Or.inl (by decide))]; exact h4, fun c hc => ?_, fun a i ha => ?_⟩
  · by_cases he : c = m
    · subst he; exact oneC_tab hm
    · exact oneC_keep hm (by omega) he (h5 c (by omega))
  · rw [oneC_o (by omega)]; exact h6 a i ha
theorem rc_lt {w h y x : Nat} (hy : y < h) (hx : x < w) : y * w + x < w * h := by
  have h1 : (y + 1) * w ≤ h * w := Nat.mul_le_mul_right w hy
  rw [Nat.add_mul, Nat.one_mul] at h1
  rw [Nat.mul_comm w h]
  omega
theorem rc_mod {w y x : Nat} (hx : x < w) : (y * w + x) % w = x := by
  rw [Nat.mul_comm, Nat.mul_add_mod]; exact Nat.mod_eq_of_lt hx
theorem rc_div {w y x : Nat} (hx : x < w) : (y * w + x) / w = y := by
  rw [Nat.mul_comm, Nat.mul_add_div (by omega), Nat.div_eq_of_lt hx]; rfl
section FL2
variable {d : Nat} {I : MemI} {J : MemJ}
set_option maxHeartbeats 16000000 in
theorem sp_X0_shape {w h last : Nat} (hw1 : 1 ≤ w) (hw4 : w ≤ 4) (hh1 : 1 ≤ h) (hh4 : h ≤ 4) : CALL ΩC (d + 2) kX0_shape [.ref 3, .int (nI w), .int (nI h), .int (nI last)] I J (VQ (fun I' J' => Fld w h last I' ∧ (∀ a i, (a < 3 ∨ 9 ≤ a) → I' a i = I a i) ∧ J' = J)) := by
  have h16 := wh16 hw4 hh4
  have outer : ∀ n y (I2 : MemI), n + y = h → GD w h last (y * w) I I2 → WP ΩC (d + 2) kX0_shape 25 [(0, .ref 3), (1, .int (nI w)), (2, .int (nI h)), (3, .int (nI last)), (4, .int (nI y))] [] I2 J (VQ (fun I' J' => Fld w h last I' ∧ (∀ a i, (a < 3 ∨ 9 ≤ a) → I' a i = I a i) ∧ J' = J)) := by
    intro n
    induction n with
    | zero =>
      intro y I2 hy hg
      have hy' : y = h := (Nat.zero_add y).symm.trans hy
      subst hy'
      refine wp_iload (pc := 25) dX0_shape_25 rfl ?_
      refine wp_iload_n (pc := 27) (i := 2) dX0_shape_27 rfl rfl ?_
      first | (refine wp_icmp_geN (pc := 28) (tgt := 106) dX0_shape_28 (by decide) (by first | with_reducible assumption | omega) (by first | with_reducible assumption | omega) (fun c_28 => ?_) (fun c_28 => ?_)) | (refine wp_icmp_ge (pc := 28) (tgt := 106) dX0_shape_28 (by decide) (fun c_28 => ?_) (fun c_28 => ?_))
      · refine wp_return (pc := 106) dX0_shape_106 rfl ?_
        exact vq_i ⟨⟨⟨hw1, hw4, hh1, hh4⟩, hg.1, hg.2.1, hg.2.2.1, hg.2.2.2.1, fun c hc => hg.2.2.2.2.1 c (by rw [Nat.mul_comm]; exact hc)⟩, hg.2.2.2.2.2, rfl⟩
      · exact absurd (Nat.le_refl y) c_28
    | succ n ih =>
      intro y I2 hy hg
      have hyh : y < h := by omega
      have inner : ∀ n2 x (I3 : MemI), n2 + x = w → GD w h last (y * w + x) I I3 → WP ΩC (d + 2) kX0_shape 34 [(0, .ref 3), (1, .int (nI w)), (2, .int (nI h)), (3, .int (nI last)), (4, .int (nI y)), (5, .int (nI x))] [] I3 J (VQ (fun I' J' => Fld w h last I' ∧ (∀ a i, (a < 3 ∨ 9 ≤ a) → I' a i = I a i) ∧ J' = J)) := by
        intro n2
        induction n2 with
        | zero =>
          intro x I3 hx hg3
          have hx' : x = w := (Nat.zero_add x).symm.trans hx
          subst hx'
          refine wp_iload (pc := 34) dX0_shape_34 rfl ?_
          refine wp_iload_n (pc := 36) (i := 1) dX0_shape_36 rfl rfl ?_
          first | (refine wp_icmp_geN (pc := 37) (tgt := 100) dX0_shape_37 (by decide) (by first | with_reducible assumption | omega) (by first | with_reducible assumption | omega) (fun c_37 => ?_) (fun c_37 => ?_)) | (refine wp_icmp_ge (pc := 37) (tgt := 100) dX0_shape_37 (by decide) (fun c_37 => ?_) (fun c_37 => ?_))
          · first | (refine wp_iincN (pc := 100) (m := 1) dX0_shape_100 rfl rfl (by decide) ?_) | (refine wp_iinc (pc := 100) dX0_shape_100 rfl rfl (by decide) ?_)
            refine wp_goto (pc := 103) (tgt := 25) dX0_shape_103 (by decide) ?_
            refine wp_drop 5 ?_
            exact ih (y + 1) I3 (by omega) (by rw [Nat.add_mul, Nat.one_mul]; exact hg3)
          · exact absurd (Nat.le_refl x) c_37
        | succ n2 ih2 =>
          intro x I3 hx hg3
          have hxw : x < w := by omega
          have hm : y * w + x < 16 := Nat.lt_of_lt_of_le (rc_lt hyh hxw) h16
          have hmod := rc_mod (y := y) hxw
          have hdiv := rc_div (y := y) hxw
          have hone := GD_one hm hg3
          have ex : ((x : Nat) : Int) = cxx w (y * w + x) := by rw [cxx, hmod]
          have eu : ((y : Nat) : Int) - 1 = cyy w (y * w + x) + ahd 0 := by rw [cyy, hdiv]; rfl
          have ed : ((y : Nat) : Int) + 1 = cyy w (y * w + x) + ahd 1 := by rw [cyy, hdiv]; rfl
          refine wp_iload (pc := 34) dX0_shape_34 rfl ?_
          refine wp_iload_n (pc := 36) (i := 1) dX0_shape_36 rfl rfl ?_
          first | (refine wp_icmp_geN (pc := 37) (tgt := 100) dX0_shape_37 (by decide) (by first | with_reducible assumption | omega) (by first | with_reducible assumption | omega) (fun c_37 => ?_) (fun c_37 => ?_)) | (refine wp_icmp_ge (pc := 37) (tgt := 100) dX0_shape_37 (by decide) (fun c_37 => ?_) (fun c_37 => ?_))
          · exact absurd c_37 (by omega)
          · refine wp_aload_n (pc := 40) (i := 0) dX0_shape_40 rfl rfl (by first | with_reducible assumption | rfl) ?_
            refine wp_iload (pc := 41) dX0_shape_41 rfl ?_
            refine wp_iload_n (pc := 43) (i := 1) dX0_shape_43 rfl rfl ?_
            first | (refine wp_imulN (pc := 44) dX0_shape_44 ?_) | (refine wp_imul (pc := 44) dX0_shape_44 ?_)
            refine wp_iload (pc := 45) dX0_shape_45 rfl ?_
            first | (refine wp_iaddN (pc := 47) dX0_shape_47 ?_) | (refine wp_iadd (pc := 47) dX0_shape_47 ?_)
            refine wp_iload (pc := 48) dX0_shape_48 rfl ?_
            refine wp_iload (pc := 50) dX0_shape_50 rfl ?_
            refine wp_cVV3 (pc := 52) (ci := 0) dX0_shape_52 lm_X0_40 m_X0_surround (by first | with_reducible assumption | rfl) (by first | with_reducible assumption | rfl) (by decide) rfl (Nat.le_of_ble_eq_true rfl) (sp_X0_surround hg3.1 hg3.2.1 hw4 hh4 hm hmod hdiv) (fun I_52 J_52 h_52 => ?_)
            obtain ⟨rfl, rfl⟩ := h_52
            refine wp_aload_n (pc := 55) (i := 0) dX0_shape_55 rfl rfl (by first | with_reducible assumption | rfl) ?_
            refine wp_iconst (pc := 56) (v := nI 0) dX0_shape_56 (by decide +kernel) ?_
            refine wp_iload (pc := 57) dX0_shape_57 rfl ?_
            refine wp_iload_n (pc := 59) (i := 1) dX0_shape_59 rfl rfl ?_
            first | (refine wp_imulN (pc := 60) dX0_shape_60 ?_) | (refine wp_imul (pc := 60) dX0_shape_60 ?_)
            first | (refine wp_iaddN (pc := 61) dX0_shape_61 ?_) | (refine wp_iadd (pc := 61) dX0_shape_61 ?_)
            rw [Nat.zero_add]
            refine wp_iload (pc := 62) dX0_shape_62 rfl ?_
            first | (refine wp_iaddN (pc := 64) dX0_shape_64 ?_) | (refine wp_iadd (pc := 64) dX0_shape_64 ?_)
            refine wp_iload (pc := 65) dX0_shape_65 rfl ?_
            refine wp_iload (pc := 67) dX0_shape_67 rfl ?_
            refine wp_iconst (pc := 69) (v := nI 1) dX0_shape_69 (by decide +kernel) ?_
            refine wp_isub (pc := 70) dX0_shape_70 ?_
            rw [show nI y - nI 1 = zI ((y : Int) - 1) by rw [zI_n, zI_n, zI_sub]; rfl]
            refine wp_cVV3 (pc := 71) (ci := 0) dX0_shape_71 lm_X0_44 m_X0_lookAhead (by first | with_reducible assumption | rfl) (by first | with_reducible assumption | rfl) (by decide) rfl (Nat.le_of_ble_eq_true rfl) (sp_X0_lookAhead (w := w) (h := h) (by simp [uI, srI, hg3.1]) (by simp [uI, srI, hg3.2.1]) hw4 hh4 (by omega) (by omega) (by omega)) (fun I_71 J_71 h_71 => ?_)
            obtain ⟨rfl, rfl⟩ := h_71
            refine wp_aload_n (pc := 74) (i := 0) dX0_shape_74 rfl rfl (by first | with_reducible assumption | rfl) ?_
            refine wp_bipush (pc := 75) (v := nI 16) dX0_shape_75 (by decide +kernel) ?_
            refine wp_iload (pc := 77) dX0_shape_77 rfl ?_
            refine wp_iload_n (pc := 79) (i := 1) dX0_shape_79 rfl rfl ?_
            first | (refine wp_imulN (pc := 80) dX0_shape_80 ?_) | (refine wp_imul (pc := 80) dX0_shape_80 ?_)
            first | (refine wp_iaddN (pc := 81) dX0_shape_81 ?_) | (refine wp_iadd (pc := 81) dX0_shape_81 ?_)
            refine wp_iload (pc := 82) dX0_shape_82 rfl ?_
            first | (refine wp_iaddN (pc := 84) dX0_shape_84 ?_) | (refine wp_iadd (pc := 84) dX0_shape_84 ?_)
            rw [show 16 + y * w + x = 16 + (y * w + x) from Nat.add_assoc _ _ _]
            refine wp_iload (pc := 85) dX0_shape_85 rfl ?_
            refine wp_iload (pc := 87) dX0_shape_87 rfl ?_
            refine wp_iconst (pc := 89) (v := nI 1) dX0_shape_89 (by decide +kernel) ?_
            refine wp_iadd (pc := 90) dX0_shape_90 ?_
            rw [show nI y + nI 1 = zI ((y : Int) + 1) by rw [zI_n, zI_n, zI_add]; rfl]
            refine wp_cVV3 (pc := 91) (ci := 0) dX0_shape_91 lm_X0_44 m_X0_lookAhead (by first | with_reducible assumption | rfl) (by first | with_reducible assumption | rfl) (by decide) rfl (Nat.le_of_ble_eq_true rfl) (sp_X0_lookAhead (w := w) (h := h) (by simp [uI, srI, hg3.1]) (by simp [uI, srI, hg3.2.1]) hw4 hh4 (by omega) (by omega) (by omega)) (fun I_91 J_91 h_91 => ?_)
            obtain ⟨rfl, rfl⟩ := h_91
            first | (refine wp_iincN (pc := 94) (m := 1) dX0_shape_94 rfl rfl (by decide) ?_) | (refine wp_iinc (pc := 94) dX0_shape_94 rfl rfl (by decide) ?_)
            refine wp_goto (pc := 97) (tgt := 34) dX0_shape_97 (by decide) ?_
            rw [eu, ed, ex]
            exact ih2 (x + 1) _ (by omega) hone
      refine wp_iload (pc := 25) dX0_shape_25 rfl ?_
      refine wp_iload_n (pc := 27) (i := 2) dX0_shape_27 rfl rfl ?_
      first | (refine wp_icmp_geN (pc := 28) (tgt := 106) dX0_shape_28 (by decide) (by first | with_reducible assumption | omega) (by first | with_reducible assumption | omega) (fun c_28 => ?_) (fun c_28 => ?_)) | (refine wp_icmp_ge (pc := 28) (tgt := 106) dX0_shape_28 (by decide) (fun c_28 => ?_) (fun c_28 => ?_))
      · exact absurd c_28 (by omega)
      · refine wp_iconst (pc := 31) (v := nI 0) dX0_shape_31 (by decide +kernel) ?_
        refine wp_istore (pc := 32) dX0_shape_32 (by decide) ?_
        exact inner w 0 I2 rfl hg
  refine call_of_wp (by decide) (Nat.le_of_ble_eq_true rfl) ?_
  refine wp_aload_n (pc := 0) (i := 0) dX0_shape_0 rfl rfl (by first | with_reducible assumption | rfl) ?_
  refine wp_iload_n (pc := 1) (i := 1) dX0_shape_1 rfl rfl ?_
  refine wp_putI (pc := 2) dX0_shape_2 lf_X0_27 (by first | with_reducible assumption | rfl) (by first | with_reducible assumption | rfl) rfl rfl ?_
  refine wp_aload_n (pc := 5) (i := 0) dX0_shape_5 rfl rfl (by first | with_reducible assumption | rfl) ?_
  refine wp_iload_n (pc := 6) (i := 2) dX0_shape_6 rfl rfl ?_
  refine wp_putI (pc := 7) dX0_shape_7 lf_X0_31 (by first | with_reducible assumption | rfl) (by first | with_reducible assumption | rfl) rfl rfl ?_
  refine wp_aload_n (pc := 10) (i := 0) dX0_shape_10 rfl rfl (by first | with_reducible assumption | rfl) ?_
  refine wp_iload_n (pc := 11) (i := 3) dX0_shape_11 rfl rfl ?_
  refine wp_putI (pc := 12) dX0_shape_12 lf_X0_34 (by first | with_reducible assumption | rfl) (by first | with_reducible assumption | rfl) rfl rfl ?_
  refine wp_aload_n (pc := 15) (i := 0) dX0_shape_15 rfl rfl (by first | with_reducible assumption | rfl) ?_
  refine wp_iload_n (pc := 16) (i := 1) dX0_shape_16 rfl rfl ?_
  refine wp_iload_n (pc := 17) (i := 2) dX0_shape_17 rfl rfl ?_
  first | (refine wp_imulN (pc := 18) dX0_shape_18 ?_) | (refine wp_imul (pc := 18) dX0_shape_18 ?_)
  refine wp_putI (pc := 19) dX0_shape_19 lf_X0_37 (by first | with_reducible assumption | rfl) (by first | with_reducible assumption | rfl) rfl rfl ?_
  refine wp_iconst (pc := 22) (v := nI 0) dX0_shape_22 (by decide +kernel) ?_
  refine wp_istore (pc := 23) dX0_shape_23 (by decide) ?_
  refine outer h 0 _ rfl ⟨by simp [uI], by simp [uI], by simp [uI], by simp [uI], fun c hc => absurd hc (by omega), fun a i ha => ?_⟩
  have e3 : ¬ a = 3 := by omega
  simp [uI, e3]
theorem or_some {P : Nat → Bool} {q : Nat} (h : q < 16) : mset P ||| 2 ^ q = mset (fun t => P t || (some q == some t)) := or_ob (o := some q) (fun c hc => by cases hc; exact h)
theorem nbr_lt {w h c k q : Nat} (hq : nbr w h c k = some q) : q < w * h := cat_lt hq
set_option maxHeartbeats 16000000 in
/-- lines(cell, firstWay, full) -/
theorem sp_X0_lines {w h last c fw : Nat} {F : Nat → Bool} (hF : Fld w h last I) (hc : c < w * h) (hfw : fw < 2) : CALL ΩC (d + 1) kX0_lines [.ref 3, .int (nI c), .int (nI fw), .int (nI (mset F))] I J (PQ (.int (nI (mset (lin w h fw F c)))) I J) := by
  obtain ⟨⟨hw1, hw4, hh1, hh4⟩, -, -, -, -, hT⟩ := hF
  have h16 := wh16 hw4 hh4
  have inner : ∀ n i k (o : Option Nat) (P : Nat → Bool), n + i = 4 → 1 ≤ i → k < 8 → (∀ q, o = some q → q < w * h) →
      WP ΩC (d + 1) kX0_lines 89 [(0, .ref 3), (1, .int (nI c)), (2, .int (nI fw)), (3, .int (nI (mset F))), (4, .int (nI (mset (fun t => P t || ray w h F k n o t)))), (5, .int (nI k))] [] I J (PQ (.int (nI (mset (lin w h fw F c)))) I J) →
      WP ΩC (d + 1) kX0_lines 32 [(0, .ref 3), (1, .int (nI c)), (2, .int (nI fw)), (3, .int (nI (mset F))), (4, .int (nI (mset P))), (5, .int (nI k)), (6, .int (ocI o)), (7, .int (nI i))] [] I J (PQ (.int (nI (mset (lin w h fw F c)))) I J) := by
    intro n
    induction n with
    | zero =>
      intro i k o P hi hi1 hk ho hcont
      have hi4 : i = 4 := (Nat.zero_add i).symm.trans hi
      subst hi4
      have e : mset (fun t => P t || ray w h F k 0 o t) = mset P := mset_eq fun t _ => by simp [ray]
      rw [e] at hcont
      refine wp_iload (pc := 32) dX0_lines_32 rfl ?_
      refine wp_iconst (pc := 34) (v := nI 4) dX0_lines_34 (by decide +kernel) ?_
      first | (refine wp_icmp_geN (pc := 35) (tgt := 89) dX0_lines_35 (by decide) (by first | with_reducible assumption | omega) (by first | with_reducible assumption | omega) (fun c_35 => ?_) (fun c_35 => ?_)) | (refine wp_icmp_ge (pc := 35) (tgt := 89) dX0_lines_35 (by decide) (fun c_35 => ?_) (fun c_35 => ?_))
      · refine wp_drop 6 ?_
        exact hcont
      · exact absurd (show 4 ≤ 4 by omega) c_35
    | succ n ih =>
      intro i k o P hi hi1 hk ho hcont
      cases o with
      | none =>
        have e : mset (fun t => P t || ray w h F k (n + 1) none t) = mset P := mset_eq fun t _ => by simp [ray]
        rw [e] at hcont
        refine wp_iload (pc := 32) dX0_lines_32 rfl ?_
        refine wp_iconst (pc := 34) (v := nI 4) dX0_lines_34 (by decide +kernel) ?_
        first | (refine wp_icmp_geN (pc := 35) (tgt := 89) dX0_lines_35 (by decide) (by first | with_reducible assumption | omega) (by first | with_reducible assumption | omega) (fun c_35 => ?_) (fun c_35 => ?_)) | (refine wp_icmp_ge (pc := 35) (tgt := 89) dX0_lines_35 (by decide) (fun c_35 => ?_) (fun c_35 => ?_))
        · exact absurd c_35 (by omega)
        · refine wp_iload (pc := 38) dX0_lines_38 rfl ?_
          refine wp_iconst (pc := 40) (v := (-1)) dX0_lines_40 (by decide +kernel) ?_
          refine wp_icmp_eq (pc := 41) (tgt := 89) dX0_lines_41 (by decide) (fun c_41 => ?_) (fun c_41 => ?_)
          · refine wp_drop 6 ?_
            exact hcont
          · exact absurd rfl c_41
      | some q =>
        have hq := ho q rfl
        have hq16 : q < 16 := Nat.lt_of_lt_of_le hq h16
        have hm := mset_lt F
        have hbit := mset_bit' F hq16
        have hne : ¬ nI q = -1 := fun z => nI_pos (n := q) (by omega) (by rw [z]; decide)
        show WP ΩC (d + 1) kX0_lines 32 [(0, .ref 3), (1, .int (nI c)), (2, .int (nI fw)), (3, .int (nI (mset F))), (4, .int (nI (mset P))), (5, .int (nI k)), (6, .int (nI q)), (7, .int (nI i))] [] I J _
        refine wp_iload (pc := 32) dX0_lines_32 rfl ?_
        refine wp_iconst (pc := 34) (v := nI 4) dX0_lines_34 (by decide +kernel) ?_
        first | (refine wp_icmp_geN (pc := 35) (tgt := 89) dX0_lines_35 (by decide) (by first | with_reducible assumption | omega) (by first | with_reducible assumption | omega) (fun c_35 => ?_) (fun c_35 => ?_)) | (refine wp_icmp_ge (pc := 35) (tgt := 89) dX0_lines_35 (by decide) (fun c_35 => ?_) (fun c_35 => ?_))
        · exact absurd c_35 (by omega)
        · refine wp_iload (pc := 38) dX0_lines_38 rfl ?_
          refine wp_iconst (pc := 40) (v := (-1)) dX0_lines_40 (by decide +kernel) ?_
          refine wp_icmp_eq (pc := 41) (tgt := 89) dX0_lines_41 (by decide) (fun c_41 => ?_) (fun c_41 => ?_)
          · exact absurd c_41 hne
          · refine wp_iload (pc := 44) dX0_lines_44 rfl ?_
            refine wp_iconst (pc := 46) (v := nI 1) dX0_lines_46 (by decide +kernel) ?_
            refine wp_iload (pc := 47) dX0_lines_47 rfl ?_
            first | (refine wp_ishl1 (pc := 49) dX0_lines_49 (by first | with_reducible assumption | omega) ?_) | (refine wp_ishlN (pc := 49) dX0_lines_49 (by first | with_reducible assumption | omega) (by first | with_reducible assumption | omega) ?_) | (refine wp_ishl (pc := 49) dX0_lines_49 ?_)
            first | (refine wp_iorN (pc := 50) dX0_lines_50 ?_) | (refine wp_ior (pc := 50) dX0_lines_50 ?_)
            rw [or_some hq16]
            refine wp_istore (pc := 51) dX0_lines_51 (by decide) ?_
            refine wp_iload_n (pc := 53) (i := 3) dX0_lines_53 rfl rfl ?_
            refine wp_iload (pc := 54) dX0_lines_54 rfl ?_
            refine wp_cSP2 (pc := 56) dX0_lines_56 lm_X0_74 m_X5_has (Nat.le_of_ble_eq_true rfl) (sp_X5_has (by first | with_reducible assumption | omega) (by first | with_reducible assumption | omega)) ?_
            rw [hbit]
            refine wp_if_eqB (pc := 59) (tgt := 66) dX0_lines_59 (by decide) (fun c_59 => ?_) (fun c_59 => ?_)
            · refine wp_aload_n (pc := 66) (i := 0) dX0_lines_66 rfl rfl (by first | with_reducible assumption | rfl) ?_
              refine wp_getR (pc := 67) dX0_lines_67 lf_X0_11 (by first | with_reducible assumption | rfl) (by first | with_reducible assumption | rfl) rfl (by first | with_reducible assumption | rfl) (by first | with_reducible assumption | rfl) ?_
              refine wp_iload (pc := 70) dX0_lines_70 rfl ?_
              refine wp_bipush (pc := 72) (v := nI 16) dX0_lines_72 (by decide +kernel) ?_
              first | (refine wp_imulN (pc := 74) dX0_lines_74 ?_) | (refine wp_imul (pc := 74) dX0_lines_74 ?_)
              refine wp_iload (pc := 75) dX0_lines_75 rfl ?_
              first | (refine wp_iaddN (pc := 77) dX0_lines_77 ?_) | (refine wp_iadd (pc := 77) dX0_lines_77 ?_)
              refine wp_cSP2 (pc := 78) dX0_lines_78 lm_X0_51 m_X5_at (Nat.le_of_ble_eq_true rfl) (sp_X5_at (by first | with_reducible assumption | rfl) (by first | with_reducible assumption | rfl) (by first | with_reducible assumption | omega) (by decide)) ?_
              rw [(hT q hq).1 k hk]
              refine wp_istore (pc := 81) dX0_lines_81 (by decide) ?_
              first | (refine wp_iincN (pc := 83) (m := 1) dX0_lines_83 rfl rfl (by decide) ?_) | (refine wp_iinc (pc := 83) dX0_lines_83 rfl rfl (by decide) ?_)
              refine wp_goto (pc := 86) (tgt := 32) dX0_lines_86 (by decide) ?_
              first
                | (have gq : F q = true := c_59); exact ih (i + 1) k none (fun t => P t || (some q == some t)) (by omega) (by omega) hk (fun _ z => by cases z) (by
                    have e : mset (fun t => (P t || (some q == some t)) || ray w h F k n none t) = mset (fun t => P t || ray w h F k (n + 1) (some q) t) := mset_eq fun t _ => by simp [ray, c_59, Bool.or_assoc]
                    rw [e]; exact hcont)
                | (have gq : F q = false := c_59); exact ih (i + 1) k (nbr w h q k) (fun t => P t || (some q == some t)) (by omega) (by omega) hk (fun _ z => nbr_lt z) (by
                    have e : mset (fun t => (P t || (some q == some t)) || ray w h F k n (nbr w h q k) t) = mset (fun t => P t || ray w h F k (n + 1) (some q) t) := mset_eq fun t _ => by simp [ray, c_59, Bool.or_assoc]
                    rw [e]; exact hcont)
            · refine wp_iconst (pc := 62) (v := (-1)) dX0_lines_62 (by decide +kernel) ?_
              refine wp_goto (pc := 63) (tgt := 81) dX0_lines_63 (by decide) ?_
              refine wp_istore (pc := 81) dX0_lines_81 (by decide) ?_
              first | (refine wp_iincN (pc := 83) (m := 1) dX0_lines_83 rfl rfl (by decide) ?_) | (refine wp_iinc (pc := 83) dX0_lines_83 rfl rfl (by decide) ?_)
              refine wp_goto (pc := 86) (tgt := 32) dX0_lines_86 (by decide) ?_
              first
                | (have gq : F q = true := c_59); exact ih (i + 1) k none (fun t => P t || (some q == some t)) (by omega) (by omega) hk (fun _ z => by cases z) (by
                    have e : mset (fun t => (P t || (some q == some t)) || ray w h F k n none t) = mset (fun t => P t || ray w h F k (n + 1) (some q) t) := mset_eq fun t _ => by simp [ray, c_59, Bool.or_assoc]
                    rw [e]; exact hcont)
                | (have gq : F q = false := c_59); exact ih (i + 1) k (nbr w h q k) (fun t => P t || (some q == some t)) (by omega) (by omega) hk (fun _ z => nbr_lt z) (by
                    have e : mset (fun t => (P t || (some q == some t)) || ray w h F k n (nbr w h q k) t) = mset (fun t => P t || ray w h F k (n + 1) (some q) t) := mset_eq fun t _ => by simp [ray, c_59, Bool.or_assoc]
                    rw [e]; exact hcont)
  have outer : ∀ n j, n + j = 4 → WP ΩC (d + 1) kX0_lines 6 [(0, .ref 3), (1, .int (nI c)), (2, .int (nI fw)), (3, .int (nI (mset F))), (4, .int (nI (mset (fun t => anK (fun j => ray w h F (fw + 2 * j) 3 (nbr w h c (fw + 2 * j)) t) j)))), (5, .int (nI (fw + 2 * j)))] [] I J (PQ (.int (nI (mset (lin w h fw F c)))) I J) := by
    intro n
    induction n with
    | zero =>
      intro j hj
      have hj4 : j = 4 := (Nat.zero_add j).symm.trans hj
      subst hj4
      refine wp_iload (pc := 6) dX0_lines_6 rfl ?_
      refine wp_bipush (pc := 8) (v := nI 8) dX0_lines_8 (by decide +kernel) ?_
      first | (refine wp_icmp_geN (pc := 10) (tgt := 95) dX0_lines_10 (by decide) (by first | with_reducible assumption | omega) (by first | with_reducible assumption | omega) (fun c_10 => ?_) (fun c_10 => ?_)) | (refine wp_icmp_ge (pc := 10) (tgt := 95) dX0_lines_10 (by decide) (fun c_10 => ?_) (fun c_10 => ?_))
      · refine wp_iload (pc := 95) dX0_lines_95 rfl ?_
        refine wp_ireturn (pc := 97) dX0_lines_97 rfl ?_
        exact pq_i rfl
      · exact absurd (show 8 ≤ fw + 2 * 4 by omega) c_10
    | succ n ih =>
      intro j hj
      have hk : fw + 2 * j < 8 := by omega
      refine wp_iload (pc := 6) dX0_lines_6 rfl ?_
      refine wp_bipush (pc := 8) (v := nI 8) dX0_lines_8 (by decide +kernel) ?_
      first | (refine wp_icmp_geN (pc := 10) (tgt := 95) dX0_lines_10 (by decide) (by first | with_reducible assumption | omega) (by first | with_reducible assumption | omega) (fun c_10 => ?_) (fun c_10 => ?_)) | (refine wp_icmp_ge (pc := 10) (tgt := 95) dX0_lines_10 (by decide) (fun c_10 => ?_) (fun c_10 => ?_))
      · exact absurd c_10 (by omega)
      · refine wp_aload_n (pc := 13) (i := 0) dX0_lines_13 rfl rfl (by first | with_reducible assumption | rfl) ?_
        refine wp_getR (pc := 14) dX0_lines_14 lf_X0_11 (by first | with_reducible assumption | rfl) (by first | with_reducible assumption | rfl) rfl (by first | with_reducible assumption | rfl) (by first | with_reducible assumption | rfl) ?_
        refine wp_iload (pc := 17) dX0_lines_17 rfl ?_
        refine wp_bipush (pc := 19) (v := nI 16) dX0_lines_19 (by decide +kernel) ?_
        first | (refine wp_imulN (pc := 21) dX0_lines_21 ?_) | (refine wp_imul (pc := 21) dX0_lines_21 ?_)
        refine wp_iload_n (pc := 22) (i := 1) dX0_lines_22 rfl rfl ?_
        first | (refine wp_iaddN (pc := 23) dX0_lines_23 ?_) | (refine wp_iadd (pc := 23) dX0_lines_23 ?_)
        refine wp_cSP2 (pc := 24) dX0_lines_24 lm_X0_51 m_X5_at (Nat.le_of_ble_eq_true rfl) (sp_X5_at (by first | with_reducible assumption | rfl) (by first | with_reducible assumption | rfl) (by first | with_reducible assumption | omega) (by decide)) ?_
        rw [(hT c hc).1 _ hk]
        refine wp_istore (pc := 27) dX0_lines_27 (by decide) ?_
        refine wp_iconst (pc := 29) (v := nI 1) dX0_lines_29 (by decide +kernel) ?_
        refine wp_istore (pc := 30) dX0_lines_30 (by decide) ?_
        refine inner 3 1 (fw + 2 * j) (nbr w h c (fw + 2 * j)) _ rfl (by omega) hk (fun _ z => nbr_lt z) ?_
        have h := ih (j + 1) (by omega)
        rw [show fw + 2 * (j + 1) = fw + 2 * j + 2 by omega] at h
        refine wp_iincN (pc := 89) (m := 2) dX0_lines_89 rfl rfl (by decide) ?_
        refine wp_goto (pc := 92) (tgt := 6) dX0_lines_92 (by decide) ?_
        exact h
  refine call_of_wp (by decide) (Nat.le_of_ble_eq_true rfl) ?_
  refine wp_iconst (pc := 0) (v := nI 0) dX0_lines_0 (by decide +kernel) ?_
  refine wp_istore (pc := 1) dX0_lines_1 (by decide) ?_
  refine wp_iload_n (pc := 3) (i := 2) dX0_lines_3 rfl rfl ?_
  refine wp_istore (pc := 4) dX0_lines_4 (by decide) ?_
  have h := outer 4 0 rfl
  have e0 : ∀ f : Nat → Nat → Bool, mset (fun t => anK (f t) 0) = 0 := fun f => mset_none
  rw [e0] at h
  exact h
set_option maxHeartbeats 16000000 in
theorem sp_X0_all {w h last : Nat} (hF : Fld w h last I) : CALL ΩC d kX0_all [.ref 3] I J (PQ (.int (nI (mset (fun i => decide (i < w * h))))) I J) := by
  obtain ⟨⟨hw1, hw4, hh1, hh4⟩, -, -, -, h8, hT⟩ := hF
  have h16 := wh16 hw4 hh4
  have hp := Nat.two_pow_pos (w * h)
  have e : 2 ^ (w * h) - 1 = mset (fun i => decide (i < w * h)) := by
    refine of_bits ?_ (fun i _ => ?_)
    · have := Nat.pow_le_pow_right (show 0 < 2 by omega) h16
      omega
    · rw [Nat.testBit_two_pow_sub_one]
  refine call_of_wp (by decide) (Nat.le_of_ble_eq_true rfl) ?_
  refine wp_iconst (pc := 0) (v := nI 1) dX0_all_0 (by decide +kernel) ?_
  refine wp_aload_n (pc := 1) (i := 0) dX0_all_1 rfl rfl (by first | with_reducible assumption | rfl) ?_
  refine wp_getI (pc := 2) dX0_all_2 lf_X0_37 (by first | with_reducible assumption | rfl) (by first | with_reducible assumption | rfl) rfl ?_
  rw [h8]
  first | (refine wp_ishl1 (pc := 5) dX0_all_5 (by first | with_reducible assumption | omega) ?_) | (refine wp_ishlN (pc := 5) dX0_all_5 (by first | with_reducible assumption | omega) (by first | with_reducible assumption | omega) ?_) | (refine wp_ishl (pc := 5) dX0_all_5 ?_)
  refine wp_iconst (pc := 6) (v := nI 1) dX0_all_6 (by decide +kernel) ?_
  first | (refine wp_isubN (pc := 7) dX0_all_7 (by first | with_reducible assumption | omega) ?_) | (refine wp_isub (pc := 7) dX0_all_7 ?_)
  refine wp_ireturn (pc := 8) dX0_all_8 rfl ?_
  exact pq_i (congrArg nI e)
set_option maxHeartbeats 16000000 in
theorem sp_X0_aimed {w h last s c : Nat} {F : Nat → Bool} (hF : Fld w h last I) (hs : s < 12) (hc : c < w * h) : CALL ΩC (d + 2) kX0_aimed [.ref 3, .int (nI s), .int (nI c), .int (nI (mset F))] I J (PQ (.int (nI (mset (aimP w h s F c)))) I J) := by
  have hT := hF.2.2.2.2.2 c hc
  have h16 : c < 16 := Nat.lt_of_lt_of_le hc (wh16 hF.1.2.1 hF.1.2.2.2)
  refine call_of_wp (by decide) (Nat.le_of_ble_eq_true rfl) ?_
  match s, hs with
  | 0, _ =>
    refine wp_iload_n (pc := 0) (i := 1) dX0_aimed_0 rfl rfl ?_
    refine wp_cSP1 (pc := 1) dX0_aimed_1 lm_X0_47 m_X5_kindOf (Nat.le_of_ble_eq_true rfl) (sp_X5_kindOf (by first | with_reducible assumption | omega)) ?_
    refine wp_tableOut (pc := 4) (x := -1) (tgt := 91) dX0_aimed_4 (by decide) (by decide) ?_
    refine wp_iconst (pc := 91) (v := nI 0) dX0_aimed_91 (by decide +kernel) ?_
    refine wp_ireturn (pc := 92) dX0_aimed_92 rfl ?_
    exact pq_i (congrArg nI (mset_zero.mpr (fun _ _ => rfl)).symm)
  | 1, _ =>
    refine wp_iload_n (pc := 0) (i := 1) dX0_aimed_0 rfl rfl ?_
    refine wp_cSP1 (pc := 1) dX0_aimed_1 lm_X0_47 m_X5_kindOf (Nat.le_of_ble_eq_true rfl) (sp_X5_kindOf (by first | with_reducible assumption | omega)) ?_
    refine wp_tableOut (pc := 4) (x := -1) (tgt := 91) dX0_aimed_4 (by decide) (by decide) ?_
    refine wp_iconst (pc := 91) (v := nI 0) dX0_aimed_91 (by decide +kernel) ?_
    refine wp_ireturn (pc := 92) dX0_aimed_92 rfl ?_
    exact pq_i (congrArg nI (mset_zero.mpr (fun _ _ => rfl)).symm)
  | 2, _ =>
    refine wp_iload_n (pc := 0) (i := 1) dX0_aimed_0 rfl rfl ?_
    refine wp_cSP1 (pc := 1) dX0_aimed_1 lm_X0_47 m_X5_kindOf (Nat.le_of_ble_eq_true rfl) (sp_X5_kindOf (by first | with_reducible assumption | omega)) ?_
    refine wp_tableIn (pc := 4) (x := nI 0) (off := 36) (tgt := 40) dX0_aimed_4 (by decide) (by decide) (by decide) (by decide) ?_
    refine wp_aload_n (pc := 40) (i := 0) dX0_aimed_40 rfl rfl (by first | with_reducible assumption | rfl) ?_
    refine wp_getR (pc := 41) dX0_aimed_41 lf_X0_15 (by first | with_reducible assumption | rfl) (by first | with_reducible assumption | rfl) rfl (by first | with_reducible assumption | rfl) (by first | with_reducible assumption | rfl) ?_
    refine wp_iload_n (pc := 44) (i := 2) dX0_aimed_44 rfl rfl ?_
    refine wp_cSP2 (pc := 45) dX0_aimed_45 lm_X0_51 m_X5_at (Nat.le_of_ble_eq_true rfl) (sp_X5_at (by first | with_reducible assumption | rfl) (by first | with_reducible assumption | rfl) (by first | with_reducible assumption | omega) (by decide)) ?_
    rw [hT.2.1]
    refine wp_ireturn (pc := 48) dX0_aimed_48 rfl ?_
    exact pq_i rfl
  | 3, _ =>
    refine wp_iload_n (pc := 0) (i := 1) dX0_aimed_0 rfl rfl ?_
    refine wp_cSP1 (pc := 1) dX0_aimed_1 lm_X0_47 m_X5_kindOf (Nat.le_of_ble_eq_true rfl) (sp_X5_kindOf (by first | with_reducible assumption | omega)) ?_
    refine wp_tableIn (pc := 4) (x := nI 1) (off := 45) (tgt := 49) dX0_aimed_4 (by decide) (by decide) (by decide) (by decide) ?_
    refine wp_aload_n (pc := 49) (i := 0) dX0_aimed_49 rfl rfl (by first | with_reducible assumption | rfl) ?_
    refine wp_iload_n (pc := 50) (i := 2) dX0_aimed_50 rfl rfl ?_
    refine wp_iconst (pc := 51) (v := nI 0) dX0_aimed_51 (by decide +kernel) ?_
    refine wp_iload_n (pc := 52) (i := 3) dX0_aimed_52 rfl rfl ?_
    refine wp_cVP3 (pc := 53) (ci := 0) dX0_aimed_53 lm_X0_55 m_X0_lines (by first | with_reducible assumption | rfl) (by first | with_reducible assumption | rfl) (by decide) rfl (Nat.le_of_ble_eq_true rfl) (sp_X0_lines (by with_reducible assumption) (by with_reducible assumption) (by omega)) ?_
    refine wp_ireturn (pc := 56) dX0_aimed_56 rfl ?_
    exact pq_i rfl
  | 4, _ =>
    refine wp_iload_n (pc := 0) (i := 1) dX0_aimed_0 rfl rfl ?_
    refine wp_cSP1 (pc := 1) dX0_aimed_1 lm_X0_47 m_X5_kindOf (Nat.le_of_ble_eq_true rfl) (sp_X5_kindOf (by first | with_reducible assumption | omega)) ?_
    refine wp_tableIn (pc := 4) (x := nI 2) (off := 53) (tgt := 57) dX0_aimed_4 (by decide) (by decide) (by decide) (by decide) ?_
    refine wp_aload_n (pc := 57) (i := 0) dX0_aimed_57 rfl rfl (by first | with_reducible assumption | rfl) ?_
    refine wp_iload_n (pc := 58) (i := 2) dX0_aimed_58 rfl rfl ?_
    refine wp_iconst (pc := 59) (v := nI 1) dX0_aimed_59 (by decide +kernel) ?_
    refine wp_iload_n (pc := 60) (i := 3) dX0_aimed_60 rfl rfl ?_
    refine wp_cVP3 (pc := 61) (ci := 0) dX0_aimed_61 lm_X0_55 m_X0_lines (by first | with_reducible assumption | rfl) (by first | with_reducible assumption | rfl) (by decide) rfl (Nat.le_of_ble_eq_true rfl) (sp_X0_lines (by with_reducible assumption) (by with_reducible assumption) (by omega)) ?_
    refine wp_ireturn (pc := 64) dX0_aimed_64 rfl ?_
    exact pq_i rfl
  | 5, _ =>
    refine wp_iload_n (pc := 0) (i := 1) dX0_aimed_0 rfl rfl ?_
    refine wp_cSP1 (pc := 1) dX0_aimed_1 lm_X0_47 m_X5_kindOf (Nat.le_of_ble_eq_true rfl) (sp_X5_kindOf (by first | with_reducible assumption | omega)) ?_
    refine wp_tableIn (pc := 4) (x := nI 3) (off := 61) (tgt := 65) dX0_aimed_4 (by decide) (by decide) (by decide) (by decide) ?_
    refine wp_aload_n (pc := 65) (i := 0) dX0_aimed_65 rfl rfl (by first | with_reducible assumption | rfl) ?_
    refine wp_getR (pc := 66) dX0_aimed_66 lf_X0_18 (by first | with_reducible assumption | rfl) (by first | with_reducible assumption | rfl) rfl (by first | with_reducible assumption | rfl) (by first | with_reducible assumption | rfl) ?_
    refine wp_iload_n (pc := 69) (i := 2) dX0_aimed_69 rfl rfl ?_
    refine wp_cSP2 (pc := 70) dX0_aimed_70 lm_X0_51 m_X5_at (Nat.le_of_ble_eq_true rfl) (sp_X5_at (by first | with_reducible assumption | rfl) (by first | with_reducible assumption | rfl) (by first | with_reducible assumption | omega) (by decide)) ?_
    rw [hT.2.2.1]
    refine wp_ireturn (pc := 73) dX0_aimed_73 rfl ?_
    exact pq_i rfl
  | 6, _ =>
    refine wp_iload_n (pc := 0) (i := 1) dX0_aimed_0 rfl rfl ?_
    refine wp_cSP1 (pc := 1) dX0_aimed_1 lm_X0_47 m_X5_kindOf (Nat.le_of_ble_eq_true rfl) (sp_X5_kindOf (by first | with_reducible assumption | omega)) ?_
    refine wp_tableIn (pc := 4) (x := nI 4) (off := 70) (tgt := 74) dX0_aimed_4 (by decide) (by decide) (by decide) (by decide) ?_
    refine wp_aload_n (pc := 74) (i := 0) dX0_aimed_74 rfl rfl (by first | with_reducible assumption | rfl) ?_
    refine wp_getR (pc := 75) dX0_aimed_75 lf_X0_21 (by first | with_reducible assumption | rfl) (by first | with_reducible assumption | rfl) rfl (by first | with_reducible assumption | rfl) (by first | with_reducible assumption | rfl) ?_
    refine wp_iload_n (pc := 78) (i := 1) dX0_aimed_78 rfl rfl ?_
    refine wp_cSP1 (pc := 79) dX0_aimed_79 lm_X0_59 m_X5_sideOf (Nat.le_of_ble_eq_true rfl) (sp_X5_sideOf (by first | with_reducible assumption | omega)) ?_
    rw [show sdI 6 = nI 0 from rfl]
    refine wp_bipush (pc := 82) (v := nI 16) dX0_aimed_82 (by decide +kernel) ?_
    first | (refine wp_imulN (pc := 84) dX0_aimed_84 ?_) | (refine wp_imul (pc := 84) dX0_aimed_84 ?_)
    refine wp_iload_n (pc := 85) (i := 2) dX0_aimed_85 rfl rfl ?_
    first | (refine wp_iaddN (pc := 86) dX0_aimed_86 ?_) | (refine wp_iadd (pc := 86) dX0_aimed_86 ?_)
    refine wp_cSP2 (pc := 87) dX0_aimed_87 lm_X0_51 m_X5_at (Nat.le_of_ble_eq_true rfl) (sp_X5_at (by first | with_reducible assumption | rfl) (by first | with_reducible assumption | rfl) (by first | with_reducible assumption | omega) (by decide)) ?_
    rw [(hT.2.2.2 0 (by decide)).1]
    refine wp_ireturn (pc := 90) dX0_aimed_90 rfl ?_
    exact pq_i rfl
  | 7, _ =>
    refine wp_iload_n (pc := 0) (i := 1) dX0_aimed_0 rfl rfl ?_
    refine wp_cSP1 (pc := 1) dX0_aimed_1 lm_X0_47 m_X5_kindOf (Nat.le_of_ble_eq_true rfl) (sp_X5_kindOf (by first | with_reducible assumption | omega)) ?_
    refine wp_tableIn (pc := 4) (x := nI 0) (off := 36) (tgt := 40) dX0_aimed_4 (by decide) (by decide) (by decide) (by decide) ?_
    refine wp_aload_n (pc := 40) (i := 0) dX0_aimed_40 rfl rfl (by first | with_reducible assumption | rfl) ?_
    refine wp_getR (pc := 41) dX0_aimed_41 lf_X0_15 (by first | with_reducible assumption | rfl) (by first | with_reducible assumption | rfl) rfl (by first | with_reducible assumption | rfl) (by first | with_reducible assumption | rfl) ?_
    refine wp_iload_n (pc := 44) (i := 2) dX0_aimed_44 rfl rfl ?_
    refine wp_cSP2 (pc := 45) dX0_aimed_45 lm_X0_51 m_X5_at (Nat.le_of_ble_eq_true rfl) (sp_X5_at (by first | with_reducible assumption | rfl) (by first | with_reducible assumption | rfl) (by first | with_reducible assumption | omega) (by decide)) ?_
    rw [hT.2.1]
    refine wp_ireturn (pc := 48) dX0_aimed_48 rfl ?_
    exact pq_i rfl
  | 8, _ =>
    refine wp_iload_n (pc := 0) (i := 1) dX0_aimed_0 rfl rfl ?_
    refine wp_cSP1 (pc := 1) dX0_aimed_1 lm_X0_47 m_X5_kindOf (Nat.le_of_ble_eq_true rfl) (sp_X5_kindOf (by first | with_reducible assumption | omega)) ?_
    refine wp_tableIn (pc := 4) (x := nI 1) (off := 45) (tgt := 49) dX0_aimed_4 (by decide) (by decide) (by decide) (by decide) ?_
    refine wp_aload_n (pc := 49) (i := 0) dX0_aimed_49 rfl rfl (by first | with_reducible assumption | rfl) ?_
    refine wp_iload_n (pc := 50) (i := 2) dX0_aimed_50 rfl rfl ?_
    refine wp_iconst (pc := 51) (v := nI 0) dX0_aimed_51 (by decide +kernel) ?_
    refine wp_iload_n (pc := 52) (i := 3) dX0_aimed_52 rfl rfl ?_
    refine wp_cVP3 (pc := 53) (ci := 0) dX0_aimed_53 lm_X0_55 m_X0_lines (by first | with_reducible assumption | rfl) (by first | with_reducible assumption | rfl) (by decide) rfl (Nat.le_of_ble_eq_true rfl) (sp_X0_lines (by with_reducible assumption) (by with_reducible assumption) (by omega)) ?_
    refine wp_ireturn (pc := 56) dX0_aimed_56 rfl ?_
    exact pq_i rfl
  | 9, _ =>
    refine wp_iload_n (pc := 0) (i := 1) dX0_aimed_0 rfl rfl ?_
    refine wp_cSP1 (pc := 1) dX0_aimed_1 lm_X0_47 m_X5_kindOf (Nat.le_of_ble_eq_true rfl) (sp_X5_kindOf (by first | with_reducible assumption | omega)) ?_
    refine wp_tableIn (pc := 4) (x := nI 2) (off := 53) (tgt := 57) dX0_aimed_4 (by decide) (by decide) (by decide) (by decide) ?_
    refine wp_aload_n (pc := 57) (i := 0) dX0_aimed_57 rfl rfl (by first | with_reducible assumption | rfl) ?_
    refine wp_iload_n (pc := 58) (i := 2) dX0_aimed_58 rfl rfl ?_
    refine wp_iconst (pc := 59) (v := nI 1) dX0_aimed_59 (by decide +kernel) ?_
    refine wp_iload_n (pc := 60) (i := 3) dX0_aimed_60 rfl rfl ?_
    refine wp_cVP3 (pc := 61) (ci := 0) dX0_aimed_61 lm_X0_55 m_X0_lines (by first | with_reducible assumption | rfl) (by first | with_reducible assumption | rfl) (by decide) rfl (Nat.le_of_ble_eq_true rfl) (sp_X0_lines (by with_reducible assumption) (by with_reducible assumption) (by omega)) ?_
    refine wp_ireturn (pc := 64) dX0_aimed_64 rfl ?_
    exact pq_i rfl
  | 10, _ =>
    refine wp_iload_n (pc := 0) (i := 1) dX0_aimed_0 rfl rfl ?_
    refine wp_cSP1 (pc := 1) dX0_aimed_1 lm_X0_47 m_X5_kindOf (Nat.le_of_ble_eq_true rfl) (sp_X5_kindOf (by first | with_reducible assumption | omega)) ?_
    refine wp_tableIn (pc := 4) (x := nI 3) (off := 61) (tgt := 65) dX0_aimed_4 (by decide) (by decide) (by decide) (by decide) ?_
    refine wp_aload_n (pc := 65) (i := 0) dX0_aimed_65 rfl rfl (by first | with_reducible assumption | rfl) ?_
    refine wp_getR (pc := 66) dX0_aimed_66 lf_X0_18 (by first | with_reducible assumption | rfl) (by first | with_reducible assumption | rfl) rfl (by first | with_reducible assumption | rfl) (by first | with_reducible assumption | rfl) ?_
    refine wp_iload_n (pc := 69) (i := 2) dX0_aimed_69 rfl rfl ?_
    refine wp_cSP2 (pc := 70) dX0_aimed_70 lm_X0_51 m_X5_at (Nat.le_of_ble_eq_true rfl) (sp_X5_at (by first | with_reducible assumption | rfl) (by first | with_reducible assumption | rfl) (by first | with_reducible assumption | omega) (by decide)) ?_
    rw [hT.2.2.1]
    refine wp_ireturn (pc := 73) dX0_aimed_73 rfl ?_
    exact pq_i rfl
  | 11, _ =>
    refine wp_iload_n (pc := 0) (i := 1) dX0_aimed_0 rfl rfl ?_
    refine wp_cSP1 (pc := 1) dX0_aimed_1 lm_X0_47 m_X5_kindOf (Nat.le_of_ble_eq_true rfl) (sp_X5_kindOf (by first | with_reducible assumption | omega)) ?_
    refine wp_tableIn (pc := 4) (x := nI 4) (off := 70) (tgt := 74) dX0_aimed_4 (by decide) (by decide) (by decide) (by decide) ?_
    refine wp_aload_n (pc := 74) (i := 0) dX0_aimed_74 rfl rfl (by first | with_reducible assumption | rfl) ?_
    refine wp_getR (pc := 75) dX0_aimed_75 lf_X0_21 (by first | with_reducible assumption | rfl) (by first | with_reducible assumption | rfl) rfl (by first | with_reducible assumption | rfl) (by first | with_reducible assumption | rfl) ?_
    refine wp_iload_n (pc := 78) (i := 1) dX0_aimed_78 rfl rfl ?_
    refine wp_cSP1 (pc := 79) dX0_aimed_79 lm_X0_59 m_X5_sideOf (Nat.le_of_ble_eq_true rfl) (sp_X5_sideOf (by first | with_reducible assumption | omega)) ?_
    rw [show sdI 11 = nI 1 from rfl]
    refine wp_bipush (pc := 82) (v := nI 16) dX0_aimed_82 (by decide +kernel) ?_
    first | (refine wp_imulN (pc := 84) dX0_aimed_84 ?_) | (refine wp_imul (pc := 84) dX0_aimed_84 ?_)
    refine wp_iload_n (pc := 85) (i := 2) dX0_aimed_85 rfl rfl ?_
    first | (refine wp_iaddN (pc := 86) dX0_aimed_86 ?_) | (refine wp_iadd (pc := 86) dX0_aimed_86 ?_)
    refine wp_cSP2 (pc := 87) dX0_aimed_87 lm_X0_51 m_X5_at (Nat.le_of_ble_eq_true rfl) (sp_X5_at (by first | with_reducible assumption | rfl) (by first | with_reducible assumption | rfl) (by first | with_reducible assumption | omega) (by decide)) ?_
    rw [(hT.2.2.2 1 (by decide)).1]
    refine wp_ireturn (pc := 90) dX0_aimed_90 rfl ?_
    exact pq_i rfl
  | n + 12, hs => omega
set_option maxHeartbeats 16000000 in
theorem sp_X0_going {w h last s c : Nat} {A : Nat → Bool} (hF : Fld w h last I) (hs : s < 12) (hc : c < w * h) : CALL ΩC (d + 1) kX0_going [.ref 3, .int (nI s), .int (nI c), .int (nI (mset A))] I J (PQ (.int (nI (mset (gngP w h s A c)))) I J) := by
  have hT := hF.2.2.2.2.2 c hc
  have h16 : c < 16 := Nat.lt_of_lt_of_le hc (wh16 hF.1.2.1 hF.1.2.2.2)
  refine call_of_wp (by decide) (Nat.le_of_ble_eq_true rfl) ?_
  match s, hs with
  | 0, _ =>
    refine wp_iload_n (pc := 0) (i := 1) dX0_going_0 rfl rfl ?_
    refine wp_cSP1 (pc := 1) dX0_going_1 lm_X0_47 m_X5_kindOf (Nat.le_of_ble_eq_true rfl) (sp_X5_kindOf (by first | with_reducible assumption | omega)) ?_
    refine wp_iconst (pc := 4) (v := nI 4) dX0_going_4 (by decide +kernel) ?_
    refine wp_icmp_ne (pc := 5) (tgt := 27) dX0_going_5 (by decide) (fun c_5 => ?_) (fun c_5 => ?_)
    · refine wp_iload_n (pc := 27) (i := 3) dX0_going_27 rfl rfl ?_
      refine wp_ireturn (pc := 28) dX0_going_28 rfl ?_
      exact pq_i (congrArg nI (mset_eq fun t _ => by rw [gngP, if_neg (by decide)]))
    · exact absurd c_5 (by decide)
  | 1, _ =>
    refine wp_iload_n (pc := 0) (i := 1) dX0_going_0 rfl rfl ?_
    refine wp_cSP1 (pc := 1) dX0_going_1 lm_X0_47 m_X5_kindOf (Nat.le_of_ble_eq_true rfl) (sp_X5_kindOf (by first | with_reducible assumption | omega)) ?_
    refine wp_iconst (pc := 4) (v := nI 4) dX0_going_4 (by decide +kernel) ?_
    refine wp_icmp_ne (pc := 5) (tgt := 27) dX0_going_5 (by decide) (fun c_5 => ?_) (fun c_5 => ?_)
    · refine wp_iload_n (pc := 27) (i := 3) dX0_going_27 rfl rfl ?_
      refine wp_ireturn (pc := 28) dX0_going_28 rfl ?_
      exact pq_i (congrArg nI (mset_eq fun t _ => by rw [gngP, if_neg (by decide)]))
    · exact absurd c_5 (by decide)
  | 2, _ =>
    refine wp_iload_n (pc := 0) (i := 1) dX0_going_0 rfl rfl ?_
    refine wp_cSP1 (pc := 1) dX0_going_1 lm_X0_47 m_X5_kindOf (Nat.le_of_ble_eq_true rfl) (sp_X5_kindOf (by first | with_reducible assumption | omega)) ?_
    refine wp_iconst (pc := 4) (v := nI 4) dX0_going_4 (by decide +kernel) ?_
    refine wp_icmp_ne (pc := 5) (tgt := 27) dX0_going_5 (by decide) (fun c_5 => ?_) (fun c_5 => ?_)
    · refine wp_iload_n (pc := 27) (i := 3) dX0_going_27 rfl rfl ?_
      refine wp_ireturn (pc := 28) dX0_going_28 rfl ?_
      exact pq_i (congrArg nI (mset_eq fun t _ => by rw [gngP, if_neg (by decide)]))
    · exact absurd c_5 (by decide)
  | 3, _ =>
    refine wp_iload_n (pc := 0) (i := 1) dX0_going_0 rfl rfl ?_
    refine wp_cSP1 (pc := 1) dX0_going_1 lm_X0_47 m_X5_kindOf (Nat.le_of_ble_eq_true rfl) (sp_X5_kindOf (by first | with_reducible assumption | omega)) ?_
    refine wp_iconst (pc := 4) (v := nI 4) dX0_going_4 (by decide +kernel) ?_
    refine wp_icmp_ne (pc := 5) (tgt := 27) dX0_going_5 (by decide) (fun c_5 => ?_) (fun c_5 => ?_)
    · refine wp_iload_n (pc := 27) (i := 3) dX0_going_27 rfl rfl ?_
      refine wp_ireturn (pc := 28) dX0_going_28 rfl ?_
      exact pq_i (congrArg nI (mset_eq fun t _ => by rw [gngP, if_neg (by decide)]))
    · exact absurd c_5 (by decide)
  | 4, _ =>
    refine wp_iload_n (pc := 0) (i := 1) dX0_going_0 rfl rfl ?_
    refine wp_cSP1 (pc := 1) dX0_going_1 lm_X0_47 m_X5_kindOf (Nat.le_of_ble_eq_true rfl) (sp_X5_kindOf (by first | with_reducible assumption | omega)) ?_
    refine wp_iconst (pc := 4) (v := nI 4) dX0_going_4 (by decide +kernel) ?_
    refine wp_icmp_ne (pc := 5) (tgt := 27) dX0_going_5 (by decide) (fun c_5 => ?_) (fun c_5 => ?_)
    · refine wp_iload_n (pc := 27) (i := 3) dX0_going_27 rfl rfl ?_
      refine wp_ireturn (pc := 28) dX0_going_28 rfl ?_
      exact pq_i (congrArg nI (mset_eq fun t _ => by rw [gngP, if_neg (by decide)]))
    · exact absurd c_5 (by decide)
  | 5, _ =>
    refine wp_iload_n (pc := 0) (i := 1) dX0_going_0 rfl rfl ?_
    refine wp_cSP1 (pc := 1) dX0_going_1 lm_X0_47 m_X5_kindOf (Nat.le_of_ble_eq_true rfl) (sp_X5_kindOf (by first | with_reducible assumption | omega)) ?_
    refine wp_iconst (pc := 4) (v := nI 4) dX0_going_4 (by decide +kernel) ?_
    refine wp_icmp_ne (pc := 5) (tgt := 27) dX0_going_5 (by decide) (fun c_5 => ?_) (fun c_5 => ?_)
    · refine wp_iload_n (pc := 27) (i := 3) dX0_going_27 rfl rfl ?_
      refine wp_ireturn (pc := 28) dX0_going_28 rfl ?_
      exact pq_i (congrArg nI (mset_eq fun t _ => by rw [gngP, if_neg (by decide)]))
    · exact absurd c_5 (by decide)
  | 6, _ =>
    refine wp_iload_n (pc := 0) (i := 1) dX0_going_0 rfl rfl ?_
    refine wp_cSP1 (pc := 1) dX0_going_1 lm_X0_47 m_X5_kindOf (Nat.le_of_ble_eq_true rfl) (sp_X5_kindOf (by first | with_reducible assumption | omega)) ?_
    rw [show kdI 6 = nI 4 from rfl]
    refine wp_iconst (pc := 4) (v := nI 4) dX0_going_4 (by decide +kernel) ?_
    first | (refine wp_icmp_neN (pc := 5) (tgt := 27) dX0_going_5 (by decide) (by first | with_reducible assumption | omega) (by first | with_reducible assumption | omega) (fun c_5 => ?_) (fun c_5 => ?_)) | (refine wp_icmp_ne (pc := 5) (tgt := 27) dX0_going_5 (by decide) (fun c_5 => ?_) (fun c_5 => ?_))
    · exact absurd rfl c_5
    · refine wp_aload_n (pc := 8) (i := 0) dX0_going_8 rfl rfl (by first | with_reducible assumption | rfl) ?_
      refine wp_getR (pc := 9) dX0_going_9 lf_X0_24 (by first | with_reducible assumption | rfl) (by first | with_reducible assumption | rfl) rfl (by first | with_reducible assumption | rfl) (by first | with_reducible assumption | rfl) ?_
      refine wp_iload_n (pc := 12) (i := 1) dX0_going_12 rfl rfl ?_
      refine wp_cSP1 (pc := 13) dX0_going_13 lm_X0_59 m_X5_sideOf (Nat.le_of_ble_eq_true rfl) (sp_X5_sideOf (by first | with_reducible assumption | omega)) ?_
      rw [show sdI 6 = nI 0 from rfl]
      refine wp_bipush (pc := 16) (v := nI 16) dX0_going_16 (by decide +kernel) ?_
      first | (refine wp_imulN (pc := 18) dX0_going_18 ?_) | (refine wp_imul (pc := 18) dX0_going_18 ?_)
      refine wp_iload_n (pc := 19) (i := 2) dX0_going_19 rfl rfl ?_
      first | (refine wp_iaddN (pc := 20) dX0_going_20 ?_) | (refine wp_iadd (pc := 20) dX0_going_20 ?_)
      refine wp_cSP2 (pc := 21) dX0_going_21 lm_X0_51 m_X5_at (Nat.le_of_ble_eq_true rfl) (sp_X5_at (by first | with_reducible assumption | rfl) (by first | with_reducible assumption | rfl) (by first | with_reducible assumption | omega) (by decide)) ?_
      rw [(hT.2.2.2 0 (by decide)).2]
      refine wp_goto (pc := 24) (tgt := 28) dX0_going_24 (by decide) ?_
      refine wp_ireturn (pc := 28) dX0_going_28 rfl ?_
      exact pq_i (congrArg nI (mset_eq fun t _ => by rw [gngP, if_pos (by decide)]; rfl))
  | 7, _ =>
    refine wp_iload_n (pc := 0) (i := 1) dX0_going_0 rfl rfl ?_
    refine wp_cSP1 (pc := 1) dX0_going_1 lm_X0_47 m_X5_kindOf (Nat.le_of_ble_eq_true rfl) (sp_X5_kindOf (by first | with_reducible assumption | omega)) ?_
    refine wp_iconst (pc := 4) (v := nI 4) dX0_going_4 (by decide +kernel) ?_
    refine wp_icmp_ne (pc := 5) (tgt := 27) dX0_going_5 (by decide) (fun c_5 => ?_) (fun c_5 => ?_)
    · refine wp_iload_n (pc := 27) (i := 3) dX0_going_27 rfl rfl ?_
      refine wp_ireturn (pc := 28) dX0_going_28 rfl ?_
      exact pq_i (congrArg nI (mset_eq fun t _ => by rw [gngP, if_neg (by decide)]))
    · exact absurd c_5 (by decide)
  | 8, _ =>
    refine wp_iload_n (pc := 0) (i := 1) dX0_going_0 rfl rfl ?_
    refine wp_cSP1 (pc := 1) dX0_going_1 lm_X0_47 m_X5_kindOf (Nat.le_of_ble_eq_true rfl) (sp_X5_kindOf (by first | with_reducible assumption | omega)) ?_
    refine wp_iconst (pc := 4) (v := nI 4) dX0_going_4 (by decide +kernel) ?_
    refine wp_icmp_ne (pc := 5) (tgt := 27) dX0_going_5 (by decide) (fun c_5 => ?_) (fun c_5 => ?_)
    · refine wp_iload_n (pc := 27) (i := 3) dX0_going_27 rfl rfl ?_
      refine wp_ireturn (pc := 28) dX0_going_28 rfl ?_
      exact pq_i (congrArg nI (mset_eq fun t _ => by rw [gngP, if_neg (by decide)]))
    · exact absurd c_5 (by decide)
  | 9, _ =>
    refine wp_iload_n (pc := 0) (i := 1) dX0_going_0 rfl rfl ?_
    refine wp_cSP1 (pc := 1) dX0_going_1 lm_X0_47 m_X5_kindOf (Nat.le_of_ble_eq_true rfl) (sp_X5_kindOf (by first | with_reducible assumption | omega)) ?_
    refine wp_iconst (pc := 4) (v := nI 4) dX0_going_4 (by decide +kernel) ?_
    refine wp_icmp_ne (pc := 5) (tgt := 27) dX0_going_5 (by decide) (fun c_5 => ?_) (fun c_5 => ?_)
    · refine wp_iload_n (pc := 27) (i := 3) dX0_going_27 rfl rfl ?_
      refine wp_ireturn (pc := 28) dX0_going_28 rfl ?_
      exact pq_i (congrArg nI (mset_eq fun t _ => by rw [gngP, if_neg (by decide)]))
    · exact absurd c_5 (by decide)
  | 10, _ =>
    refine wp_iload_n (pc := 0) (i := 1) dX0_going_0 rfl rfl ?_
    refine wp_cSP1 (pc := 1) dX0_going_1 lm_X0_47 m_X5_kindOf (Nat.le_of_ble_eq_true rfl) (sp_X5_kindOf (by first | with_reducible assumption | omega)) ?_
    refine wp_iconst (pc := 4) (v := nI 4) dX0_going_4 (by decide +kernel) ?_
    refine wp_icmp_ne (pc := 5) (tgt := 27) dX0_going_5 (by decide) (fun c_5 => ?_) (fun c_5 => ?_)
    · refine wp_iload_n (pc := 27) (i := 3) dX0_going_27 rfl rfl ?_
      refine wp_ireturn (pc := 28) dX0_going_28 rfl ?_
      exact pq_i (congrArg nI (mset_eq fun t _ => by rw [gngP, if_neg (by decide)]))
    · exact absurd c_5 (by decide)
  | 11, _ =>
    refine wp_iload_n (pc := 0) (i := 1) dX0_going_0 rfl rfl ?_
    refine wp_cSP1 (pc := 1) dX0_going_1 lm_X0_47 m_X5_kindOf (Nat.le_of_ble_eq_true rfl) (sp_X5_kindOf (by first | with_reducible assumption | omega)) ?_
    rw [show kdI 11 = nI 4 from rfl]
    refine wp_iconst (pc := 4) (v := nI 4) dX0_going_4 (by decide +kernel) ?_
    first | (refine wp_icmp_neN (pc := 5) (tgt := 27) dX0_going_5 (by decide) (by first | with_reducible assumption | omega) (by first | with_reducible assumption | omega) (fun c_5 => ?_) (fun c_5 => ?_)) | (refine wp_icmp_ne (pc := 5) (tgt := 27) dX0_going_5 (by decide) (fun c_5 => ?_) (fun c_5 => ?_))
    · exact absurd rfl c_5
    · refine wp_aload_n (pc := 8) (i := 0) dX0_going_8 rfl rfl (by first | with_reducible assumption | rfl) ?_
      refine wp_getR (pc := 9) dX0_going_9 lf_X0_24 (by first | with_reducible assumption | rfl) (by first | with_reducible assumption | rfl) rfl (by first | with_reducible assumption | rfl) (by first | with_reducible assumption | rfl) ?_
      refine wp_iload_n (pc := 12) (i := 1) dX0_going_12 rfl rfl ?_
      refine wp_cSP1 (pc := 13) dX0_going_13 lm_X0_59 m_X5_sideOf (Nat.le_of_ble_eq_true rfl) (sp_X5_sideOf (by first | with_reducible assumption | omega)) ?_
      rw [show sdI 11 = nI 1 from rfl]
      refine wp_bipush (pc := 16) (v := nI 16) dX0_going_16 (by decide +kernel) ?_
      first | (refine wp_imulN (pc := 18) dX0_going_18 ?_) | (refine wp_imul (pc := 18) dX0_going_18 ?_)
      refine wp_iload_n (pc := 19) (i := 2) dX0_going_19 rfl rfl ?_
      first | (refine wp_iaddN (pc := 20) dX0_going_20 ?_) | (refine wp_iadd (pc := 20) dX0_going_20 ?_)
      refine wp_cSP2 (pc := 21) dX0_going_21 lm_X0_51 m_X5_at (Nat.le_of_ble_eq_true rfl) (sp_X5_at (by first | with_reducible assumption | rfl) (by first | with_reducible assumption | rfl) (by first | with_reducible assumption | omega) (by decide)) ?_
      rw [(hT.2.2.2 1 (by decide)).2]
      refine wp_goto (pc := 24) (tgt := 28) dX0_going_24 (by decide) ?_
      refine wp_ireturn (pc := 28) dX0_going_28 rfl ?_
      exact pq_i (congrArg nI (mset_eq fun t _ => by rw [gngP, if_pos (by decide)]; rfl))
  | n + 12, hs => omega
end FL2
