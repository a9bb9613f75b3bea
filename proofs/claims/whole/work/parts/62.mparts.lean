/-! THE REFERENCE'S CALLS, 15: layParts, parts, part -/
noncomputable def lpM (w h : Nat) (g : Nat → Nat) : Nat → MemI → MemI
  | 0, I => I
  | c + 1, I => if ldr w h (opn w h g) c = true then ptI (fb_ct (ldr w h (opn w h g)) c) (clB (hgR w h (opn w h g)) c) (lpM w h g c I) else lpM w h g c I
def inM (c : Nat) (I : MemI) : MemI := fun a i => if a = 10 ∧ i < c then -9 else I a i
section MPA
variable {d : Nat} {I : MemI} {J : MemJ} {t : List Nat} {w h last : Nat} {b : Bd} {ps : List Bd} {f : Nat → Option Bd} {z : Int64}
theorem lp_o {g : Nat → Nat} {a i : Nat} (ha : ¬ a = 10) : ∀ c, lpM w h g c I a i = I a i
  | 0 => rfl
  | c + 1 => by
    unfold lpM
    split
    · rw [pt_o ha]; exact lp_o ha c
    · exact lp_o ha c
theorem lp_A {g : Nat → Nat} {i : Nat} (h9 : I 10 i = -9) : ∀ c, (∀ l, l < c → ldr w h (opn w h g) l = true → clB (hgR w h (opn w h g)) l i = false) → lpM w h g c I 10 i = -9
  | 0, _ => h9
  | c + 1, hall => by
    unfold lpM
    have h0 := lp_A h9 c (fun l hl => hall l (by omega))
    split
    · rename_i hl
      unfold ptI
      rw [if_neg (fun y => by rw [hall c (by omega) hl] at y; exact Bool.false_ne_true y.2.2)]
      exact h0
    · exact h0
theorem lp_B {g : Nat → Nat} {i l : Nat} (hw : w < 5) (hh : h < 5) (hwh : w * h ≤ 16) (hi : i < 16) (hl : ldr w h (opn w h g) l = true) (hc : clB (hgR w h (opn w h g)) l i = true) : ∀ c, l < c → lpM w h g c I 10 i = nI (fb_ct (ldr w h (opn w h g)) l)
  | 0, h0 => absurd h0 (Nat.not_lt_zero l)
  | c + 1, h0 => by
    unfold lpM
    by_cases hlc : l = c
    · subst hlc
      rw [if_pos hl]
      unfold ptI
      rw [if_pos ⟨rfl, hi, hc⟩]
    · have h1 := lp_B hw hh hwh hi hl hc c (by omega)
      split
      · rename_i hk
        unfold ptI
        rw [if_neg (fun y => by rw [ldr_two hw hh hwh hl hk (by omega) hc] at y; exact Bool.false_ne_true y.2.2)]
        exact h1
      · exact h1
set_option maxHeartbeats 16000000 in
theorem sp_X6_layParts (hW : WH w h I) (hL : LX (w * h) 0 b I) (hB : Bok (w * h) b) : CALL ΩM (d + 5) kX6_layParts [.ref 0] I J (IQ (fun x I' J' => x = nI (fb_ct (ldr w h (opn w h b.1)) (w * h)) ∧ I' = lpM w h b.1 (w * h) (inM 16 I) ∧ J' = J)) := by
  have n16 := (WH_n hW).2
  have hw5 : w < 5 := by have := hW.1; omega
  have hh5 : h < 5 := by have := hW.1; omega
  have io : ∀ a i, ¬ a = 10 → inM 16 I a i = I a i := fun a i ha => by unfold inM; rw [if_neg (fun y => ha y.1)]
  have i9 : ∀ i, i < 16 → inM 16 I 10 i = -9 := fun i hi => by unfold inM; rw [if_pos ⟨rfl, hi⟩]
  have oo : ∀ c a i, ¬ a = 10 → lpM w h b.1 c (inM 16 I) a i = I a i := fun c a i ha => (lp_o ha c).trans (io a i ha)
  have loop : ∀ m c, m + c = w * h → WP ΩM (d + 5) kX6_layParts 26 [(0, .ref 0), (1, .int (nI (fb_ct (ldr w h (opn w h b.1)) c))), (2, .int (nI c))] [] (lpM w h b.1 c (inM 16 I)) J (IQ (fun x I' J' => x = nI (fb_ct (ldr w h (opn w h b.1)) (w * h)) ∧ I' = lpM w h b.1 (w * h) (inM 16 I) ∧ J' = J)) := by
    intro m
    induction m with
    | zero =>
      intro c hc
      have hc' : c = w * h := (Nat.zero_add c).symm.trans hc
      have e0 : lpM w h b.1 c (inM 16 I) 0 0 = nI w := by rw [oo c 0 0 (by decide)]; exact hW.2.1
      have e1 : lpM w h b.1 c (inM 16 I) 0 1 = nI h := by rw [oo c 0 1 (by decide)]; exact hW.2.2
      refine wp_iload_n (pc := 26) (i := 2) dX6_layParts_26 rfl rfl ?_
      refine wp_aload_n (pc := 27) (i := 0) dX6_layParts_27 rfl rfl (by first | with_reducible assumption | rfl) ?_
      refine wp_getI (pc := 28) dX6_layParts_28 lf_X6_47 (by first | with_reducible assumption | rfl) (by first | with_reducible assumption | rfl) rfl ?_
      rw [e0]
      refine wp_aload_n (pc := 31) (i := 0) dX6_layParts_31 rfl rfl (by first | with_reducible assumption | rfl) ?_
      refine wp_getI (pc := 32) dX6_layParts_32 lf_X6_51 (by first | with_reducible assumption | rfl) (by first | with_reducible assumption | rfl) rfl ?_
      rw [e1]
      first | (refine wp_imulN (pc := 35) dX6_layParts_35 ?_) | (refine wp_imul (pc := 35) dX6_layParts_35 ?_)
      first | (refine wp_icmp_geN (pc := 36) (tgt := 76) dX6_layParts_36 (by decide) (by first | with_reducible assumption | omega) (by first | with_reducible assumption | omega) (fun c_36 => ?_) (fun c_36 => ?_)) | (refine wp_icmp_ge (pc := 36) (tgt := 76) dX6_layParts_36 (by decide) (fun c_36 => ?_) (fun c_36 => ?_))
      · refine wp_iload_n (pc := 76) (i := 1) dX6_layParts_76 rfl rfl ?_
        refine wp_ireturn (pc := 77) dX6_layParts_77 rfl ?_
        exact iq_i ⟨by rw [hc'], by rw [hc'], rfl⟩
      · exact absurd (show w * h ≤ c by omega) (by omega)
    | succ m ih =>
      intro c hc
      have hcn : c < w * h := by omega
      have hc16 : c < 16 := by omega
      have e0 : lpM w h b.1 c (inM 16 I) 0 0 = nI w := by rw [oo c 0 0 (by decide)]; exact hW.2.1
      have e1 : lpM w h b.1 c (inM 16 I) 0 1 = nI h := by rw [oo c 0 1 (by decide)]; exact hW.2.2
      have ec : lpM w h b.1 c (inM 16 I) 1 c = nI (asc (b.1 c)) := by
        rw [oo c 1 c (by decide)]
        have := (LX_V n16 hL).1 c hcn
        rw [Nat.mul_zero, Nat.zero_add] at this
        exact this.1
      have hsc := hB.1 c hc16
      have hac := asc_lt (b.1 c)
      have a1 := asc_1 _ hsc
      have hrc : fb_ct (ldr w h (opn w h b.1)) c ≤ c := fb_ct_le _ c
      have h0 := ih (c + 1) (by omega)
      clear ih
      cases hl : ldr w h (opn w h b.1) c
      · have em : lpM w h b.1 (c + 1) (inM 16 I) = lpM w h b.1 c (inM 16 I) := by
          rw [lpM, if_neg (by rw [hl]; exact Bool.false_ne_true)]
        rw [em, ct_s _ _ _ hl] at h0
        by_cases hd : b.1 c = 1
        · have hd2 := a1.mpr hd
          refine wp_iload_n (pc := 26) (i := 2) dX6_layParts_26 rfl rfl ?_
          refine wp_aload_n (pc := 27) (i := 0) dX6_layParts_27 rfl rfl (by first | with_reducible assumption | rfl) ?_
          refine wp_getI (pc := 28) dX6_layParts_28 lf_X6_47 (by first | with_reducible assumption | rfl) (by first | with_reducible assumption | rfl) rfl ?_
          rw [e0]
          refine wp_aload_n (pc := 31) (i := 0) dX6_layParts_31 rfl rfl (by first | with_reducible assumption | rfl) ?_
          refine wp_getI (pc := 32) dX6_layParts_32 lf_X6_51 (by first | with_reducible assumption | rfl) (by first | with_reducible assumption | rfl) rfl ?_
          rw [e1]
          first | (refine wp_imulN (pc := 35) dX6_layParts_35 ?_) | (refine wp_imul (pc := 35) dX6_layParts_35 ?_)
          first | (refine wp_icmp_geN (pc := 36) (tgt := 76) dX6_layParts_36 (by decide) (by first | with_reducible assumption | omega) (by first | with_reducible assumption | omega) (fun c_36 => ?_) (fun c_36 => ?_)) | (refine wp_icmp_ge (pc := 36) (tgt := 76) dX6_layParts_36 (by decide) (fun c_36 => ?_) (fun c_36 => ?_))
          · exact absurd c_36 (by omega)
          · refine wp_aload_n (pc := 39) (i := 0) dX6_layParts_39 rfl rfl (by first | with_reducible assumption | rfl) ?_
            refine wp_getR (pc := 40) dX6_layParts_40 lf_X6_7 (by first | with_reducible assumption | rfl) (by first | with_reducible assumption | rfl) rfl (by first | with_reducible assumption | rfl) (by first | with_reducible assumption | rfl) ?_
            refine wp_iload_n (pc := 43) (i := 2) dX6_layParts_43 rfl rfl ?_
            refine wp_iald (pc := 44) dX6_layParts_44 (by first | with_reducible assumption | rfl) (by first | with_reducible assumption | rfl) (by first | with_reducible assumption | omega) (by first | decide | omega) ?_
            rw [ec]
            refine wp_bipush (pc := 45) (v := nI 35) dX6_layParts_45 (by decide +kernel) ?_
            first | (refine wp_icmp_eqN (pc := 47) (tgt := 70) dX6_layParts_47 (by decide) (by first | with_reducible assumption | omega) (by first | with_reducible assumption | omega) (fun c_47 => ?_) (fun c_47 => ?_)) | (refine wp_icmp_eq (pc := 47) (tgt := 70) dX6_layParts_47 (by decide) (fun c_47 => ?_) (fun c_47 => ?_))
            · first | (refine wp_iincN (pc := 70) (m := 1) dX6_layParts_70 rfl rfl (by decide) ?_) | (refine wp_iinc (pc := 70) dX6_layParts_70 rfl rfl (by decide) ?_)
              refine wp_goto (pc := 73) (tgt := 26) dX6_layParts_73 (by decide) ?_
              exact h0
            · exact absurd hd2 c_47
        · have hO : opn w h b.1 c = true := by unfold opn ded; rw [decide_eq_true hcn, decide_eq_false hd]; rfl
          obtain ⟨l, l1, l2, l3⟩ := ldr_ex (w := w) (h := h) (c + 1) c (by omega) hO
          have hlc : l < c := by
            rcases Nat.lt_or_ge l c with y | y
            · exact y
            · have : l = c := by omega
              rw [this, hl] at l2; cases l2
          have ev := lp_B (I := inM 16 I) hw5 hh5 n16 hc16 l2 l3 c hlc
          have hrl : fb_ct (ldr w h (opn w h b.1)) l ≤ l := fb_ct_le _ l
          have hne : ¬ nI (fb_ct (ldr w h (opn w h b.1)) l) = -9 := fun y => nI_pos (n := fb_ct (ldr w h (opn w h b.1)) l) (by omega) (by rw [y]; decide)
          refine wp_iload_n (pc := 26) (i := 2) dX6_layParts_26 rfl rfl ?_
          refine wp_aload_n (pc := 27) (i := 0) dX6_layParts_27 rfl rfl (by first | with_reducible assumption | rfl) ?_
          refine wp_getI (pc := 28) dX6_layParts_28 lf_X6_47 (by first | with_reducible assumption | rfl) (by first | with_reducible assumption | rfl) rfl ?_
          rw [e0]
          refine wp_aload_n (pc := 31) (i := 0) dX6_layParts_31 rfl rfl (by first | with_reducible assumption | rfl) ?_
          refine wp_getI (pc := 32) dX6_layParts_32 lf_X6_51 (by first | with_reducible assumption | rfl) (by first | with_reducible assumption | rfl) rfl ?_
          rw [e1]
          first | (refine wp_imulN (pc := 35) dX6_layParts_35 ?_) | (refine wp_imul (pc := 35) dX6_layParts_35 ?_)
          first | (refine wp_icmp_geN (pc := 36) (tgt := 76) dX6_layParts_36 (by decide) (by first | with_reducible assumption | omega) (by first | with_reducible assumption | omega) (fun c_36 => ?_) (fun c_36 => ?_)) | (refine wp_icmp_ge (pc := 36) (tgt := 76) dX6_layParts_36 (by decide) (fun c_36 => ?_) (fun c_36 => ?_))
          · exact absurd c_36 (by omega)
          · refine wp_aload_n (pc := 39) (i := 0) dX6_layParts_39 rfl rfl (by first | with_reducible assumption | rfl) ?_
            refine wp_getR (pc := 40) dX6_layParts_40 lf_X6_7 (by first | with_reducible assumption | rfl) (by first | with_reducible assumption | rfl) rfl (by first | with_reducible assumption | rfl) (by first | with_reducible assumption | rfl) ?_
            refine wp_iload_n (pc := 43) (i := 2) dX6_layParts_43 rfl rfl ?_
            refine wp_iald (pc := 44) dX6_layParts_44 (by first | with_reducible assumption | rfl) (by first | with_reducible assumption | rfl) (by first | with_reducible assumption | omega) (by first | decide | omega) ?_
            rw [ec]
            refine wp_bipush (pc := 45) (v := nI 35) dX6_layParts_45 (by decide +kernel) ?_
            first | (refine wp_icmp_eqN (pc := 47) (tgt := 70) dX6_layParts_47 (by decide) (by first | with_reducible assumption | omega) (by first | with_reducible assumption | omega) (fun c_47 => ?_) (fun c_47 => ?_)) | (refine wp_icmp_eq (pc := 47) (tgt := 70) dX6_layParts_47 (by decide) (fun c_47 => ?_) (fun c_47 => ?_))
            · exact absurd (a1.mp c_47) hd
            · refine wp_aload_n (pc := 50) (i := 0) dX6_layParts_50 rfl rfl (by first | with_reducible assumption | rfl) ?_
              refine wp_getR (pc := 51) dX6_layParts_51 lf_X6_37 (by first | with_reducible assumption | rfl) (by first | with_reducible assumption | rfl) rfl (by first | with_reducible assumption | rfl) (by first | with_reducible assumption | rfl) ?_
              refine wp_iload_n (pc := 54) (i := 2) dX6_layParts_54 rfl rfl ?_
              refine wp_iald (pc := 55) dX6_layParts_55 (by first | with_reducible assumption | rfl) (by first | with_reducible assumption | rfl) (by first | with_reducible assumption | omega) (by first | decide | omega) ?_
              rw [ev]
              refine wp_bipush (pc := 56) (v := (-9)) dX6_layParts_56 (by decide +kernel) ?_
              refine wp_icmp_ne (pc := 58) (tgt := 70) dX6_layParts_58 (by decide) (fun c_58 => ?_) (fun c_58 => ?_)
              · first | (refine wp_iincN (pc := 70) (m := 1) dX6_layParts_70 rfl rfl (by decide) ?_) | (refine wp_iinc (pc := 70) dX6_layParts_70 rfl rfl (by decide) ?_)
                refine wp_goto (pc := 73) (tgt := 26) dX6_layParts_73 (by decide) ?_
                exact h0
              · exact absurd c_58 hne
      · have em : lpM w h b.1 (c + 1) (inM 16 I) = ptI (fb_ct (ldr w h (opn w h b.1)) c) (clB (hgR w h (opn w h b.1)) c) (lpM w h b.1 c (inM 16 I)) := by
          rw [lpM, if_pos hl]
        rw [em, ct_s _ _ _ hl] at h0
        have hO := ldr_O hl
        have hd : ¬ b.1 c = 1 := by
          unfold opn ded at hO
          rw [Bool.and_eq_true, Bool.not_eq_true'] at hO
          exact of_decide_eq_false hO.2
        have hfree : ∀ l, l < c → ldr w h (opn w h b.1) l = true → clB (hgR w h (opn w h b.1)) l c = false := fun l l1 l2 => by
          rw [Bool.eq_false_iff]
          intro y
          have h5 := hl
          unfold ldr at h5
          rw [Bool.and_eq_true, Bool.not_eq_true'] at h5
          have h7 : anK (fun k => opn w h b.1 k && clB (hgR w h (opn w h b.1)) k c) c = true := (anK_iff _).mpr ⟨l, l1, by rw [ldr_O l2, y]; rfl⟩
          rw [h7] at h5
          exact absurd h5.2 (by simp)
        have ev := lp_A (w := w) (h := h) (g := b.1) (i9 c hc16) c hfree
        have hbase : ∀ i, i < 16 → ¬ lpM w h b.1 c (inM 16 I) 10 i = nI (fb_ct (ldr w h (opn w h b.1)) c) := fun i hi y => by
          rcases Classical.em (∃ l, l < c ∧ ldr w h (opn w h b.1) l = true ∧ clB (hgR w h (opn w h b.1)) l i = true) with ⟨l, l1, l2, l3⟩ | k
          · rw [lp_B (I := inM 16 I) hw5 hh5 n16 hi l2 l3 c l1] at y
            have h5 := ct_s (ldr w h (opn w h b.1)) l true l2
            have h6 := fb_ct_mono (ldr w h (opn w h b.1)) (show l + 1 ≤ c by omega)
            have h7 : fb_ct (ldr w h (opn w h b.1)) l < fb_ct (ldr w h (opn w h b.1)) c := by
              have : fb_ct (ldr w h (opn w h b.1)) (l + 1) = fb_ct (ldr w h (opn w h b.1)) l + 1 := h5
              omega
            have h8 := congrArg Int32.toInt y
            rw [nI_ti (by omega), nI_ti (by omega)] at h8
            omega
          · rw [lp_A (w := w) (h := h) (g := b.1) (i9 i hi) c (fun l l1 l2 => by
              rw [Bool.eq_false_iff]; exact fun q => k ⟨l, l1, l2, q⟩)] at y
            exact nI_pos (n := fb_ct (ldr w h (opn w h b.1)) c) (by omega) (by rw [← y]; decide)
        have hsp := sp_X6_spread (d := d) (J := J) (m := fb_ct (ldr w h (opn w h b.1)) c) (c := c) (b := b) (I := lpM w h b.1 c (inM 16 I)) (WH_fr hW (fun i => oo c 0 i (by decide))) (LX_n hL (by decide) (fun a i y _ _ => oo c a i (by omega)) (oo c 3 0 (by decide)) (oo c 4 0 (by decide))) hB hcn hbase
        refine wp_iload_n (pc := 26) (i := 2) dX6_layParts_26 rfl rfl ?_
        refine wp_aload_n (pc := 27) (i := 0) dX6_layParts_27 rfl rfl (by first | with_reducible assumption | rfl) ?_
        refine wp_getI (pc := 28) dX6_layParts_28 lf_X6_47 (by first | with_reducible assumption | rfl) (by first | with_reducible assumption | rfl) rfl ?_
        rw [e0]
        refine wp_aload_n (pc := 31) (i := 0) dX6_layParts_31 rfl rfl (by first | with_reducible assumption | rfl) ?_
        refine wp_getI (pc := 32) dX6_layParts_32 lf_X6_51 (by first | with_reducible assumption | rfl) (by first | with_reducible assumption | rfl) rfl ?_
        rw [e1]
        first | (refine wp_imulN (pc := 35) dX6_layParts_35 ?_) | (refine wp_imul (pc := 35) dX6_layParts_35 ?_)
        first | (refine wp_icmp_geN (pc := 36) (tgt := 76) dX6_layParts_36 (by decide) (by first | with_reducible assumption | omega) (by first | with_reducible assumption | omega) (fun c_36 => ?_) (fun c_36 => ?_)) | (refine wp_icmp_ge (pc := 36) (tgt := 76) dX6_layParts_36 (by decide) (fun c_36 => ?_) (fun c_36 => ?_))
        · exact absurd c_36 (by omega)
        · refine wp_aload_n (pc := 39) (i := 0) dX6_layParts_39 rfl rfl (by first | with_reducible assumption | rfl) ?_
          refine wp_getR (pc := 40) dX6_layParts_40 lf_X6_7 (by first | with_reducible assumption | rfl) (by first | with_reducible assumption | rfl) rfl (by first | with_reducible assumption | rfl) (by first | with_reducible assumption | rfl) ?_
          refine wp_iload_n (pc := 43) (i := 2) dX6_layParts_43 rfl rfl ?_
          refine wp_iald (pc := 44) dX6_layParts_44 (by first | with_reducible assumption | rfl) (by first | with_reducible assumption | rfl) (by first | with_reducible assumption | omega) (by first | decide | omega) ?_
          rw [ec]
          refine wp_bipush (pc := 45) (v := nI 35) dX6_layParts_45 (by decide +kernel) ?_
          first | (refine wp_icmp_eqN (pc := 47) (tgt := 70) dX6_layParts_47 (by decide) (by first | with_reducible assumption | omega) (by first | with_reducible assumption | omega) (fun c_47 => ?_) (fun c_47 => ?_)) | (refine wp_icmp_eq (pc := 47) (tgt := 70) dX6_layParts_47 (by decide) (fun c_47 => ?_) (fun c_47 => ?_))
          · exact absurd (a1.mp c_47) hd
          · refine wp_aload_n (pc := 50) (i := 0) dX6_layParts_50 rfl rfl (by first | with_reducible assumption | rfl) ?_
            refine wp_getR (pc := 51) dX6_layParts_51 lf_X6_37 (by first | with_reducible assumption | rfl) (by first | with_reducible assumption | rfl) rfl (by first | with_reducible assumption | rfl) (by first | with_reducible assumption | rfl) ?_
            refine wp_iload_n (pc := 54) (i := 2) dX6_layParts_54 rfl rfl ?_
            refine wp_iald (pc := 55) dX6_layParts_55 (by first | with_reducible assumption | rfl) (by first | with_reducible assumption | rfl) (by first | with_reducible assumption | omega) (by first | decide | omega) ?_
            rw [ev]
            refine wp_bipush (pc := 56) (v := (-9)) dX6_layParts_56 (by decide +kernel) ?_
            refine wp_icmp_ne (pc := 58) (tgt := 70) dX6_layParts_58 (by decide) (fun c_58 => ?_) (fun c_58 => ?_)
            · exact absurd rfl c_58
            · refine wp_aload_n (pc := 61) (i := 0) dX6_layParts_61 rfl rfl (by first | with_reducible assumption | rfl) ?_
              refine wp_iload_n (pc := 62) (i := 2) dX6_layParts_62 rfl rfl ?_
              refine wp_iload_n (pc := 63) (i := 1) dX6_layParts_63 rfl rfl ?_
              refine wp_cVV2 (pc := 64) (ci := 6) dX6_layParts_64 lm_X6_168 m_X6_spread (by first | with_reducible assumption | rfl) (by first | with_reducible assumption | rfl) (by decide) rfl (Nat.le_of_ble_eq_true rfl) hsp (fun I_64 J_64 h_64 => ?_)
              obtain ⟨rfl, rfl⟩ := h_64
              first | (refine wp_iincN (pc := 67) (m := 1) dX6_layParts_67 rfl rfl (by decide) ?_) | (refine wp_iinc (pc := 67) dX6_layParts_67 rfl rfl (by decide) ?_)
              first | (refine wp_iincN (pc := 70) (m := 1) dX6_layParts_70 rfl rfl (by decide) ?_) | (refine wp_iinc (pc := 70) dX6_layParts_70 rfl rfl (by decide) ?_)
              refine wp_goto (pc := 73) (tgt := 26) dX6_layParts_73 (by decide) ?_
              exact h0
  have h00 := loop (w * h) 0 rfl
  have first : ∀ m c, m + c = 16 → WP ΩM (d + 5) kX6_layParts 4 [(0, .ref 0), (1, .int (nI 0)), (2, .int (nI c))] [] (inM c I) J (IQ (fun x I' J' => x = nI (fb_ct (ldr w h (opn w h b.1)) (w * h)) ∧ I' = lpM w h b.1 (w * h) (inM 16 I) ∧ J' = J)) := by
    intro m
    induction m with
    | zero =>
      intro c hc
      have hc' : c = 16 := (Nat.zero_add c).symm.trans hc
      subst hc'
      refine wp_iload_n (pc := 4) (i := 2) dX6_layParts_4 rfl rfl ?_
      refine wp_bipush (pc := 5) (v := nI 16) dX6_layParts_5 (by decide +kernel) ?_
      first | (refine wp_icmp_geN (pc := 7) (tgt := 24) dX6_layParts_7 (by decide) (by first | with_reducible assumption | omega) (by first | with_reducible assumption | omega) (fun c_7 => ?_) (fun c_7 => ?_)) | (refine wp_icmp_ge (pc := 7) (tgt := 24) dX6_layParts_7 (by decide) (fun c_7 => ?_) (fun c_7 => ?_))
      · refine wp_iconst (pc := 24) (v := nI 0) dX6_layParts_24 (by decide +kernel) ?_
        refine wp_istore_n (pc := 25) (i := 2) dX6_layParts_25 rfl (by decide) ?_
        exact h00
      · exact absurd (Nat.le_refl 16) c_7
    | succ m ih =>
      intro c hc
      have hc16 : c < 16 := by omega
      have hu : uI (inM c I) 10 c (-9) = inM (c + 1) I := by
        funext a i
        unfold uI inM
        by_cases h1 : a = 10
        · by_cases h2 : i = c
          · rw [if_pos ⟨h1, h2⟩, if_pos ⟨h1, by omega⟩]
          · rw [if_neg (fun y => h2 y.2)]
            by_cases h3 : i < c
            · rw [if_pos ⟨h1, h3⟩, if_pos ⟨h1, by omega⟩]
            · rw [if_neg (fun y => h3 y.2), if_neg (fun y => h3 (by omega))]
        · rw [if_neg (fun y => h1 y.1), if_neg (fun y => h1 y.1), if_neg (fun y => h1 y.1)]
      have h0 := ih (c + 1) (by omega)
      rw [← hu] at h0
      clear ih h00 loop
      refine wp_iload_n (pc := 4) (i := 2) dX6_layParts_4 rfl rfl ?_
      refine wp_bipush (pc := 5) (v := nI 16) dX6_layParts_5 (by decide +kernel) ?_
      first | (refine wp_icmp_geN (pc := 7) (tgt := 24) dX6_layParts_7 (by decide) (by first | with_reducible assumption | omega) (by first | with_reducible assumption | omega) (fun c_7 => ?_) (fun c_7 => ?_)) | (refine wp_icmp_ge (pc := 7) (tgt := 24) dX6_layParts_7 (by decide) (fun c_7 => ?_) (fun c_7 => ?_))
      · exact absurd c_7 (by omega)
      · refine wp_aload_n (pc := 10) (i := 0) dX6_layParts_10 rfl rfl (by first | with_reducible assumption | rfl) ?_
        refine wp_getR (pc := 11) dX6_layParts_11 lf_X6_37 (by first | with_reducible assumption | rfl) (by first | with_reducible assumption | rfl) rfl (by first | with_reducible assumption | rfl) (by first | with_reducible assumption | rfl) ?_
        refine wp_iload_n (pc := 14) (i := 2) dX6_layParts_14 rfl rfl ?_
        refine wp_bipush (pc := 15) (v := (-9)) dX6_layParts_15 (by decide +kernel) ?_
        refine wp_iast (pc := 17) dX6_layParts_17 (by first | with_reducible assumption | rfl) (by first | with_reducible assumption | rfl) (by first | with_reducible assumption | omega) (by first | decide | omega) ?_
        first | (refine wp_iincN (pc := 18) (m := 1) dX6_layParts_18 rfl rfl (by decide) ?_) | (refine wp_iinc (pc := 18) dX6_layParts_18 rfl rfl (by decide) ?_)
        refine wp_goto (pc := 21) (tgt := 4) dX6_layParts_21 (by decide) ?_
        exact h0
  have hf := first 16 0 rfl
  rw [show inM 0 I = I from by funext a i; unfold inM; rw [if_neg (fun y => Nat.not_lt_zero i y.2)]] at hf
  refine call_of_wp (by decide) (Nat.le_of_ble_eq_true rfl) ?_
  refine wp_iconst (pc := 0) (v := nI 0) dX6_layParts_0 (by decide +kernel) ?_
  refine wp_istore_n (pc := 1) (i := 1) dX6_layParts_1 rfl (by decide) ?_
  refine wp_iconst (pc := 2) (v := nI 0) dX6_layParts_2 (by decide +kernel) ?_
  refine wp_istore_n (pc := 3) (i := 2) dX6_layParts_3 rfl (by decide) ?_
  exact hf
end MPA
