/-! LEAST CLOSED SETS; WHERE MEN CAN COME -/
/-- t can be come to from c by steps R -/
def Cl (R : Nat → Nat → Bool) (c t : Nat) : Prop := ∀ S : Nat → Prop, S c → (∀ a b, S a → R a b = true → S b) → S t
noncomputable def clB (R : Nat → Nat → Bool) (c t : Nat) : Bool := @decide (Cl R c t) (Classical.propDecidable _)
theorem clB_iff {R : Nat → Nat → Bool} {c t : Nat} : clB R c t = true ↔ Cl R c t := @decide_eq_true_iff _ (Classical.propDecidable _)
theorem Cl.base {R : Nat → Nat → Bool} {c : Nat} : Cl R c c := fun S h _ => h
theorem Cl.step {R : Nat → Nat → Bool} {c a b : Nat} (h : Cl R c a) (h2 : R a b = true) : Cl R c b := fun S h3 h4 => h4 a b (h S h3 h4) h2
theorem Cl.lt {R : Nat → Nat → Bool} {c t n : Nat} (hc : c < n) (hR : ∀ a b, R a b = true → b < n) (h : Cl R c t) : t < n := h (fun t => t < n) hc (fun a b _ z => hR a b z)
/-- what holds through the search -/
def CInv (R : Nat → Nat → Bool) (c i : Nat) (C D : Nat → Bool) : Prop := (∀ t, D t = true → C t = true) ∧ cnt D = i ∧ (∀ a t, D a = true → R a t = true → C t = true) ∧ (∀ t, C t = true → Cl R c t) ∧ C c = true
theorem CInv.start {R : Nat → Nat → Bool} {c : Nat} : CInv R c 0 (fun i => decide (i = c)) (fun _ => false) :=
  ⟨fun t h => Bool.noConfusion h, fb_ct_zero.mpr (fun _ _ => rfl), fun a t h => Bool.noConfusion h, fun t h => by rw [decide_eq_true_iff] at h; subst h; exact Cl.base, decide_eq_true rfl⟩
theorem CInv.go {R : Nat → Nat → Bool} {c i k : Nat} {C D : Nat → Bool} (h : CInv R c i C D) (hk : k < 16) (h1 : C k = true) (h2 : D k = false) : CInv R c (i + 1) (fun t => C t || R k t) (upB D k true) := by
  obtain ⟨a1, a2, a3, a4, a5⟩ := h
  refine ⟨fun t ht => ?_, ?_, fun a t ha hr => ?_, fun t ht => ?_, ?_⟩
  · by_cases e : t = k
    · subst e; simp [h1]
    · simp only [upB, if_neg e] at ht
      simp [a1 t ht]
  · have e := fb_ct_upd D true (i := k) (n := 16) hk
    rw [h2] at e
    show fb_ct (upB D k true) 16 = i + 1
    have e2 : fb_ct D 16 = i := a2
    unfold upB
    simp only [Bool.false_eq_true, if_false, if_true] at e
    omega
  · by_cases e : a = k
    · subst e; simp [hr]
    · simp only [upB, if_neg e] at ha
      simp [a3 a t ha hr]
  · rw [Bool.or_eq_true] at ht
    rcases ht with h3 | h3
    · exact a4 t h3
    · exact (a4 k h1).step h3
  · simp [a5]
theorem CInv.stop {R : Nat → Nat → Bool} {c i : Nat} {C D : Nat → Bool} (h : CInv R c i C D) (hc : c < 16) (hR : ∀ a b, R a b = true → b < 16) (he : mset C = mset D) : mset C = mset (clB R c) := by
  obtain ⟨a1, a2, a3, a4, a5⟩ := h
  refine mset_eq fun t ht => ?_
  rw [Bool.eq_iff_iff]
  refine ⟨fun z => clB_iff.mpr (a4 t z), fun z => ?_⟩
  refine ((clB_iff.mp z) (fun t => C t = true ∧ t < 16) ⟨a5, hc⟩ (fun a b hs hr => ?_)).1
  have e : D a = true := by
    rw [← mset_bit' D hs.2, ← he, mset_bit' C hs.2]; exact hs.1
  exact ⟨a3 a b e hr, hR a b hr⟩
theorem CInv.full {R : Nat → Nat → Bool} {c : Nat} {C D : Nat → Bool} (h : CInv R c 16 C D) (hc : c < 16) (hR : ∀ a b, R a b = true → b < 16) : mset C = mset (clB R c) := by
  refine h.stop hc hR (mset_eq fun t ht => ?_)
  have e := (fb_ct_all (p := D) (n := 16)).mp h.2.1 t ht
  rw [e, h.1 t e]
theorem CInv.pos {R : Nat → Nat → Bool} {c i : Nat} {C D : Nat → Bool} (h : CInv R c i C D) (he : ¬ mset C = mset D) : 0 < mset (fun t => C t && !D t) := by
  rcases Nat.eq_zero_or_pos (mset (fun t => C t && !D t)) with h0 | h0
  · refine absurd (mset_eq fun t ht => ?_) he
    have e := mset_zero.mp h0 t ht
    cases hD : D t
    · rw [hD] at e; simpa using e
    · exact h.1 t hD
  · exact h0
theorem gng_t {w h s c t : Nat} {A : Nat → Bool} (hA : A t = true → t < w * h) (hr : gngP w h s A c t = true) : t < w * h := by
  unfold gngP at hr
  split at hr
  · exact cat_t2 hr
  · exact hA hr
/-- where a man can come in one step past the DEAD -/
def cmR (w h s : Nat) (D : Nat → Bool) (a t : Nat) : Bool := gngP w h s (aimP w h s D a) a t && !D t
theorem cmR_t {w h s : Nat} {D : Nat → Bool} (a t : Nat) (hr : cmR w h s D a t = true) : t < w * h := by
  unfold cmR at hr
  rw [Bool.and_eq_true] at hr
  exact gng_t (fun z => aim_t z) hr.1
noncomputable def comP (w h s : Nat) (D : Nat → Bool) (c t : Nat) : Bool := if s < 2 then false else clB (cmR w h s D) c t
/-- where it would aim from there -/
noncomputable def thrP (w h s : Nat) (D : Nat → Bool) (c n t : Nat) : Bool := anK (fun k => comP w h s D c k && aimP w h s D k t) n
def hgR (w h : Nat) (O : Nat → Bool) (a t : Nat) : Bool := kst w h a t && O t
theorem kst_t {w h a t : Nat} (hr : kst w h a t = true) : t < w * h := anK_t hr (fun k q hq => cat_lt hq)
theorem hgR_t {w h : Nat} {O : Nat → Bool} (a t : Nat) (hr : hgR w h O a t = true) : t < w * h := by
  unfold hgR at hr
  rw [Bool.and_eq_true] at hr
  exact kst_t hr.1
theorem kd_no {s : Nat} (hs : s < 12) : kdI s = -1 ↔ s < 2 := by
  have : ∀ s, s < 12 → decide (kdI s = -1) = decide (s < 2) := by decide +kernel
  have h := this s hs
  rw [decide_eq_decide] at h
  exact h
section CLO
variable {d : Nat} {I : MemI} {J : MemJ}
set_option maxHeartbeats 16000000 in
theorem sp_X0_coming {w h last s c : Nat} {D : Nat → Bool} (hF : Fld w h last I) (hs : s < 12) (hc : c < w * h) : CALL ΩC (d + 3) kX0_coming [.ref 3, .int (nI s), .int (nI c), .int (nI (mset D))] I J (PQ (.int (nI (mset (comP w h s D c)))) I J) := by
  have hwh := wh16 hF.1.2.1 hF.1.2.2.2
  have hc16 : c < 16 := by omega
  by_cases h2 : s < 2
  · have e9 : kdI s = -1 := (kd_no hs).mpr h2
    refine call_of_wp (by decide) (Nat.le_of_ble_eq_true rfl) ?_
    refine wp_iload_n (pc := 0) (i := 1) dX0_coming_0 rfl rfl ?_
    refine wp_cSP1 (pc := 1) dX0_coming_1 lm_X0_47 m_X5_kindOf (Nat.le_of_ble_eq_true rfl) (sp_X5_kindOf (by first | with_reducible assumption | omega)) ?_
    rw [e9]
    refine wp_iconst (pc := 4) (v := (-1)) dX0_coming_4 (by decide +kernel) ?_
    refine wp_icmp_ne (pc := 5) (tgt := 10) dX0_coming_5 (by decide) (fun c_5 => ?_) (fun c_5 => ?_)
    · exact absurd rfl c_5
    · refine wp_iconst (pc := 8) (v := nI 0) dX0_coming_8 (by decide +kernel) ?_
      refine wp_ireturn (pc := 9) dX0_coming_9 rfl ?_
      exact pq_i (congrArg nI (mset_zero.mpr (fun t _ => by unfold comP; rw [if_pos h2])).symm)
  · have eP : mset (comP w h s D c) = mset (clB (cmR w h s D) c) := mset_eq fun t _ => by unfold comP; rw [if_neg h2]
    rw [eP]
    have hR : ∀ a b, cmR w h s D a b = true → b < 16 := fun a b z => Nat.lt_of_lt_of_le (cmR_t a b z) hwh
    have hRn : ∀ a b, cmR w h s D a b = true → b < w * h := cmR_t
    have loop : ∀ m i (C E : Nat → Bool), m + i = 16 → CInv (cmR w h s D) c i C E → WP ΩC (d + 3) kX0_coming 21 [(0, .ref 3), (1, .int (nI s)), (2, .int (nI c)), (3, .int (nI (mset D))), (4, .int (nI (mset C))), (5, .int (nI (mset E))), (6, .int (nI i))] [] I J (PQ (.int (nI (mset (clB (cmR w h s D) c)))) I J) := by
      intro m
      induction m with
      | zero =>
        intro i C E hi hv
        have hi' : i = 16 := (Nat.zero_add i).symm.trans hi
        subst hi'
        have hfin := hv.full hc16 hR
        refine wp_iload (pc := 21) dX0_coming_21 rfl ?_
        refine wp_bipush (pc := 23) (v := nI 16) dX0_coming_23 (by decide +kernel) ?_
        first | (refine wp_icmp_geN (pc := 25) (tgt := 86) dX0_coming_25 (by decide) (by first | with_reducible assumption | omega) (by first | with_reducible assumption | omega) (fun c_25 => ?_) (fun c_25 => ?_)) | (refine wp_icmp_ge (pc := 25) (tgt := 86) dX0_coming_25 (by decide) (fun c_25 => ?_) (fun c_25 => ?_))
        · refine wp_iload (pc := 86) dX0_coming_86 rfl ?_
          refine wp_ireturn (pc := 88) dX0_coming_88 rfl ?_
          exact pq_i (congrArg nI hfin)
        · exact absurd (show 16 ≤ 16 by omega) c_25
      | succ m ih =>
        intro i C E hi hv
        have hi16 : i < 16 := by omega
        have hl1 := mset_lt C
        have hl2 := mset_lt E
        have hl3 := mset_lt (fun t => C t && !E t)
        by_cases he : mset C = mset E
        · have hfin := hv.stop hc16 hR he
          refine wp_iload (pc := 21) dX0_coming_21 rfl ?_
          refine wp_bipush (pc := 23) (v := nI 16) dX0_coming_23 (by decide +kernel) ?_
          first | (refine wp_icmp_geN (pc := 25) (tgt := 86) dX0_coming_25 (by decide) (by first | with_reducible assumption | omega) (by first | with_reducible assumption | omega) (fun c_25 => ?_) (fun c_25 => ?_)) | (refine wp_icmp_ge (pc := 25) (tgt := 86) dX0_coming_25 (by decide) (fun c_25 => ?_) (fun c_25 => ?_))
          · exact absurd c_25 (by omega)
          · refine wp_iload (pc := 28) dX0_coming_28 rfl ?_
            refine wp_iload (pc := 30) dX0_coming_30 rfl ?_
            first | (refine wp_icmp_eqN (pc := 32) (tgt := 86) dX0_coming_32 (by decide) (by first | with_reducible assumption | omega) (by first | with_reducible assumption | omega) (fun c_32 => ?_) (fun c_32 => ?_)) | (refine wp_icmp_eq (pc := 32) (tgt := 86) dX0_coming_32 (by decide) (fun c_32 => ?_) (fun c_32 => ?_))
            · refine wp_iload (pc := 86) dX0_coming_86 rfl ?_
              refine wp_ireturn (pc := 88) dX0_coming_88 rfl ?_
              exact pq_i (congrArg nI hfin)
            · exact absurd he c_32
        · have hpos := hv.pos he
          refine wp_iload (pc := 21) dX0_coming_21 rfl ?_
          refine wp_bipush (pc := 23) (v := nI 16) dX0_coming_23 (by decide +kernel) ?_
          first | (refine wp_icmp_geN (pc := 25) (tgt := 86) dX0_coming_25 (by decide) (by first | with_reducible assumption | omega) (by first | with_reducible assumption | omega) (fun c_25 => ?_) (fun c_25 => ?_)) | (refine wp_icmp_ge (pc := 25) (tgt := 86) dX0_coming_25 (by decide) (fun c_25 => ?_) (fun c_25 => ?_))
          · exact absurd c_25 (by omega)
          · refine wp_iload (pc := 28) dX0_coming_28 rfl ?_
            refine wp_iload (pc := 30) dX0_coming_30 rfl ?_
            first | (refine wp_icmp_eqN (pc := 32) (tgt := 86) dX0_coming_32 (by decide) (by first | with_reducible assumption | omega) (by first | with_reducible assumption | omega) (fun c_32 => ?_) (fun c_32 => ?_)) | (refine wp_icmp_eq (pc := 32) (tgt := 86) dX0_coming_32 (by decide) (fun c_32 => ?_) (fun c_32 => ?_))
            · exact absurd c_32 he
            · refine wp_iload (pc := 35) dX0_coming_35 rfl ?_
              refine wp_iload (pc := 37) dX0_coming_37 rfl ?_
              refine wp_iconst (pc := 39) (v := (-1)) dX0_coming_39 (by decide +kernel) ?_
              refine wp_ixor (pc := 40) dX0_coming_40 ?_
              refine wp_iand (pc := 41) dX0_coming_41 ?_
              rw [mset_minus]
              refine wp_cSI1 (pc := 42) dX0_coming_42 lm_X0_62 m_X5_lowest (Nat.le_of_ble_eq_true rfl) (sp_X5_lowest hpos hl3) (fun x_42 I_42 J_42 h_42 => ?_)
              obtain ⟨⟨k, hk, hb, rfl⟩, rfl, rfl⟩ := h_42
              rw [mset_bit' _ hk, Bool.and_eq_true, Bool.not_eq_true'] at hb
              have hkn : k < w * h := (hv.2.2.2.1 k hb.1).lt hc hRn
              have hgo := hv.go hk hb.1 hb.2
              refine wp_istore (pc := 45) dX0_coming_45 (by decide) ?_
              refine wp_iload (pc := 47) dX0_coming_47 rfl ?_
              refine wp_iconst (pc := 49) (v := nI 1) dX0_coming_49 (by decide +kernel) ?_
              refine wp_iload (pc := 50) dX0_coming_50 rfl ?_
              first | (refine wp_ishl1 (pc := 52) dX0_coming_52 (by first | with_reducible assumption | omega) ?_) | (refine wp_ishlN (pc := 52) dX0_coming_52 (by first | with_reducible assumption | omega) (by first | with_reducible assumption | omega) ?_) | (refine wp_ishl (pc := 52) dX0_coming_52 ?_)
              first | (refine wp_iorN (pc := 53) dX0_coming_53 ?_) | (refine wp_ior (pc := 53) dX0_coming_53 ?_)
              rw [set_t hk]
              refine wp_istore (pc := 54) dX0_coming_54 (by decide) ?_
              refine wp_iload (pc := 56) dX0_coming_56 rfl ?_
              refine wp_aload_n (pc := 58) (i := 0) dX0_coming_58 rfl rfl (by first | with_reducible assumption | rfl) ?_
              refine wp_iload_n (pc := 59) (i := 1) dX0_coming_59 rfl rfl ?_
              refine wp_iload (pc := 60) dX0_coming_60 rfl ?_
              refine wp_aload_n (pc := 62) (i := 0) dX0_coming_62 rfl rfl (by first | with_reducible assumption | rfl) ?_
              refine wp_iload_n (pc := 63) (i := 1) dX0_coming_63 rfl rfl ?_
              refine wp_iload (pc := 64) dX0_coming_64 rfl ?_
              refine wp_iload_n (pc := 66) (i := 3) dX0_coming_66 rfl rfl ?_
              refine wp_cVP3 (pc := 67) (ci := 0) dX0_coming_67 lm_X0_65 m_X0_aimed (by first | with_reducible assumption | rfl) (by first | with_reducible assumption | rfl) (by decide) rfl (Nat.le_of_ble_eq_true rfl) (sp_X0_aimed hF hs hkn) ?_
              refine wp_cVP3 (pc := 70) (ci := 0) dX0_coming_70 lm_X0_68 m_X0_going (by first | with_reducible assumption | rfl) (by first | with_reducible assumption | rfl) (by decide) rfl (Nat.le_of_ble_eq_true rfl) (sp_X0_going hF hs hkn) ?_
              refine wp_iload_n (pc := 73) (i := 3) dX0_coming_73 rfl rfl ?_
              refine wp_iconst (pc := 74) (v := (-1)) dX0_coming_74 (by decide +kernel) ?_
              refine wp_ixor (pc := 75) dX0_coming_75 ?_
              refine wp_iand (pc := 76) dX0_coming_76 ?_
              rw [mset_minus]
              first | (refine wp_iorN (pc := 77) dX0_coming_77 ?_) | (refine wp_ior (pc := 77) dX0_coming_77 ?_)
              rw [mset_or]
              refine wp_istore (pc := 78) dX0_coming_78 (by decide) ?_
              first | (refine wp_iincN (pc := 80) (m := 1) dX0_coming_80 rfl rfl (by decide) ?_) | (refine wp_iinc (pc := 80) dX0_coming_80 rfl rfl (by decide) ?_)
              refine wp_goto (pc := 83) (tgt := 21) dX0_coming_83 (by decide) ?_
              refine wp_drop 7 ?_
              exact ih (i + 1) _ _ (by omega) hgo
    refine call_of_wp (by decide) (Nat.le_of_ble_eq_true rfl) ?_
    have hk1 : ¬ kdI s = -1 := fun z => h2 ((kd_no hs).mp z)
    refine wp_iload_n (pc := 0) (i := 1) dX0_coming_0 rfl rfl ?_
    refine wp_cSP1 (pc := 1) dX0_coming_1 lm_X0_47 m_X5_kindOf (Nat.le_of_ble_eq_true rfl) (sp_X5_kindOf (by first | with_reducible assumption | omega)) ?_
    refine wp_iconst (pc := 4) (v := (-1)) dX0_coming_4 (by decide +kernel) ?_
    refine wp_icmp_ne (pc := 5) (tgt := 10) dX0_coming_5 (by decide) (fun c_5 => ?_) (fun c_5 => ?_)
    · refine wp_iconst (pc := 10) (v := nI 1) dX0_coming_10 (by decide +kernel) ?_
      refine wp_iload_n (pc := 11) (i := 2) dX0_coming_11 rfl rfl ?_
      first | (refine wp_ishl1 (pc := 12) dX0_coming_12 (by first | with_reducible assumption | omega) ?_) | (refine wp_ishlN (pc := 12) dX0_coming_12 (by first | with_reducible assumption | omega) (by first | with_reducible assumption | omega) ?_) | (refine wp_ishl (pc := 12) dX0_coming_12 ?_)
      rw [mset_one hc16]
      refine wp_istore (pc := 13) dX0_coming_13 (by decide) ?_
      refine wp_iconst (pc := 15) (v := nI 0) dX0_coming_15 (by decide +kernel) ?_
      refine wp_istore (pc := 16) dX0_coming_16 (by decide) ?_
      refine wp_iconst (pc := 18) (v := nI 0) dX0_coming_18 (by decide +kernel) ?_
      refine wp_istore (pc := 19) dX0_coming_19 (by decide) ?_
      have h0 := loop 16 0 _ _ rfl CInv.start
      rw [mset_none] at h0
      exact h0
    · exact absurd c_5 hk1
set_option maxHeartbeats 16000000 in
theorem sp_X0_threatened {w h last s c : Nat} {D : Nat → Bool} (hF : Fld w h last I) (hs : s < 12) (hc : c < w * h) : CALL ΩC (d + 4) kX0_threatened [.ref 3, .int (nI s), .int (nI c), .int (nI (mset D))] I J (PQ (.int (nI (mset (thrP w h s D c (w * h))))) I J) := by
  have hwh := wh16 hF.1.2.1 hF.1.2.2.2
  have eF : I 3 8 = nI (w * h) := hF.2.2.2.2.1
  have hm := mset_lt (comP w h s D c)
  have loop : ∀ m k, m + k = w * h → WP ΩC (d + 4) kX0_threatened 15 [(0, .ref 3), (1, .int (nI s)), (2, .int (nI c)), (3, .int (nI (mset D))), (4, .int (nI (mset (comP w h s D c)))), (5, .int (nI (mset (thrP w h s D c k)))), (6, .int (nI k))] [] I J (PQ (.int (nI (mset (thrP w h s D c (w * h))))) I J) := by
    intro m
    induction m with
    | zero =>
      intro k hk
      have hk' : k = w * h := (Nat.zero_add k).symm.trans hk
      refine wp_iload (pc := 15) dX0_threatened_15 rfl ?_
      refine wp_aload_n (pc := 17) (i := 0) dX0_threatened_17 rfl rfl (by first | with_reducible assumption | rfl) ?_
      refine wp_getI (pc := 18) dX0_threatened_18 lf_X0_37 (by first | with_reducible assumption | rfl) (by first | with_reducible assumption | rfl) rfl ?_
      rw [eF]
      first | (refine wp_icmp_geN (pc := 21) (tgt := 53) dX0_threatened_21 (by decide) (by first | with_reducible assumption | omega) (by first | with_reducible assumption | omega) (fun c_21 => ?_) (fun c_21 => ?_)) | (refine wp_icmp_ge (pc := 21) (tgt := 53) dX0_threatened_21 (by decide) (fun c_21 => ?_) (fun c_21 => ?_))
      · refine wp_iload (pc := 53) dX0_threatened_53 rfl ?_
        refine wp_ireturn (pc := 55) dX0_threatened_55 rfl ?_
        exact pq_i (by rw [hk'])
      · exact absurd (show w * h ≤ k by omega) (by omega)
    | succ m ih =>
      intro k hk
      have hkn : k < w * h := by omega
      have hk16 : k < 16 := by omega
      have hbit := mset_bit' (comP w h s D c) hk16
      refine wp_iload (pc := 15) dX0_threatened_15 rfl ?_
      refine wp_aload_n (pc := 17) (i := 0) dX0_threatened_17 rfl rfl (by first | with_reducible assumption | rfl) ?_
      refine wp_getI (pc := 18) dX0_threatened_18 lf_X0_37 (by first | with_reducible assumption | rfl) (by first | with_reducible assumption | rfl) rfl ?_
      rw [eF]
      first | (refine wp_icmp_geN (pc := 21) (tgt := 53) dX0_threatened_21 (by decide) (by first | with_reducible assumption | omega) (by first | with_reducible assumption | omega) (fun c_21 => ?_) (fun c_21 => ?_)) | (refine wp_icmp_ge (pc := 21) (tgt := 53) dX0_threatened_21 (by decide) (fun c_21 => ?_) (fun c_21 => ?_))
      · exact absurd c_21 (by omega)
      · refine wp_iload (pc := 24) dX0_threatened_24 rfl ?_
        refine wp_iload (pc := 26) dX0_threatened_26 rfl ?_
        refine wp_cSP2 (pc := 28) dX0_threatened_28 lm_X0_74 m_X5_has (Nat.le_of_ble_eq_true rfl) (sp_X5_has (by first | with_reducible assumption | omega) (by first | with_reducible assumption | omega)) ?_
        rw [hbit]
        refine wp_if_eqB (pc := 31) (tgt := 47) dX0_threatened_31 (by decide) (fun c_31 => ?_) (fun c_31 => ?_)
        · first | (refine wp_iincN (pc := 47) (m := 1) dX0_threatened_47 rfl rfl (by decide) ?_) | (refine wp_iinc (pc := 47) dX0_threatened_47 rfl rfl (by decide) ?_)
          refine wp_goto (pc := 50) (tgt := 15) dX0_threatened_50 (by decide) ?_
          first
            | (have g : comP w h s D c k = false := c_31
               have e : mset (thrP w h s D c (k + 1)) = mset (thrP w h s D c k) := mset_eq fun t _ => by simp [thrP, anK, g]
               have h0 := ih (k + 1) (by omega)
               rw [e] at h0
               exact h0)
            | (have g : comP w h s D c k = true := c_31
               have e : mset (thrP w h s D c (k + 1)) = mset (fun t => thrP w h s D c k t || aimP w h s D k t) := mset_eq fun t _ => by simp [thrP, anK, g]
               have h0 := ih (k + 1) (by omega)
               rw [e] at h0
               exact h0)
        · refine wp_iload (pc := 34) dX0_threatened_34 rfl ?_
          refine wp_aload_n (pc := 36) (i := 0) dX0_threatened_36 rfl rfl (by first | with_reducible assumption | rfl) ?_
          refine wp_iload_n (pc := 37) (i := 1) dX0_threatened_37 rfl rfl ?_
          refine wp_iload (pc := 38) dX0_threatened_38 rfl ?_
          refine wp_iload_n (pc := 40) (i := 3) dX0_threatened_40 rfl rfl ?_
          refine wp_cVP3 (pc := 41) (ci := 0) dX0_threatened_41 lm_X0_65 m_X0_aimed (by first | with_reducible assumption | rfl) (by first | with_reducible assumption | rfl) (by decide) rfl (Nat.le_of_ble_eq_true rfl) (sp_X0_aimed hF hs hkn) ?_
          first | (refine wp_iorN (pc := 44) dX0_threatened_44 ?_) | (refine wp_ior (pc := 44) dX0_threatened_44 ?_)
          rw [mset_or]
          refine wp_istore (pc := 45) dX0_threatened_45 (by decide) ?_
          first | (refine wp_iincN (pc := 47) (m := 1) dX0_threatened_47 rfl rfl (by decide) ?_) | (refine wp_iinc (pc := 47) dX0_threatened_47 rfl rfl (by decide) ?_)
          refine wp_goto (pc := 50) (tgt := 15) dX0_threatened_50 (by decide) ?_
          first
            | (have g : comP w h s D c k = false := c_31
               have e : mset (thrP w h s D c (k + 1)) = mset (thrP w h s D c k) := mset_eq fun t _ => by simp [thrP, anK, g]
               have h0 := ih (k + 1) (by omega)
               rw [e] at h0
               exact h0)
            | (have g : comP w h s D c k = true := c_31
               have e : mset (thrP w h s D c (k + 1)) = mset (fun t => thrP w h s D c k t || aimP w h s D k t) := mset_eq fun t _ => by simp [thrP, anK, g]
               have h0 := ih (k + 1) (by omega)
               rw [e] at h0
               exact h0)
  refine call_of_wp (by decide) (Nat.le_of_ble_eq_true rfl) ?_
  refine wp_aload_n (pc := 0) (i := 0) dX0_threatened_0 rfl rfl (by first | with_reducible assumption | rfl) ?_
  refine wp_iload_n (pc := 1) (i := 1) dX0_threatened_1 rfl rfl ?_
  refine wp_iload_n (pc := 2) (i := 2) dX0_threatened_2 rfl rfl ?_
  refine wp_iload_n (pc := 3) (i := 3) dX0_threatened_3 rfl rfl ?_
  refine wp_cVP3 (pc := 4) (ci := 0) dX0_threatened_4 lm_X0_71 m_X0_coming (by first | with_reducible assumption | rfl) (by first | with_reducible assumption | rfl) (by decide) rfl (Nat.le_of_ble_eq_true rfl) (sp_X0_coming (by with_reducible assumption) (by first | with_reducible assumption | omega) (by first | with_reducible assumption | omega)) ?_
  refine wp_istore (pc := 7) dX0_threatened_7 (by decide) ?_
  refine wp_iconst (pc := 9) (v := nI 0) dX0_threatened_9 (by decide +kernel) ?_
  refine wp_istore (pc := 10) dX0_threatened_10 (by decide) ?_
  refine wp_iconst (pc := 12) (v := nI 0) dX0_threatened_12 (by decide +kernel) ?_
  refine wp_istore (pc := 13) dX0_threatened_13 (by decide) ?_
  have h0 := loop (w * h) 0 rfl
  have e0 : mset (thrP w h s D c 0) = 0 := mset_zero.mpr (fun _ _ => rfl)
  rw [e0] at h0
  exact h0
set_option maxHeartbeats 16000000 in
theorem sp_X0_hanging {w h last c : Nat} {O : Nat → Bool} (hF : Fld w h last I) (hc : c < w * h) : CALL ΩC (d + 2) kX0_hanging [.ref 3, .int (nI c), .int (nI (mset O))] I J (PQ (.int (nI (mset (clB (hgR w h O) c)))) I J) := by
  have hwh := wh16 hF.1.2.1 hF.1.2.2.2
  have hc16 : c < 16 := by omega
  have hR : ∀ a b, hgR w h O a b = true → b < 16 := fun a b z => Nat.lt_of_lt_of_le (hgR_t a b z) hwh
  have hRn : ∀ a b, hgR w h O a b = true → b < w * h := hgR_t
  have hT := hF.2.2.2.2.2
  have loop : ∀ m i (C E : Nat → Bool), m + i = 16 → CInv (hgR w h O) c i C E → WP ΩC (d + 2) kX0_hanging 10 [(0, .ref 3), (1, .int (nI c)), (2, .int (nI (mset O))), (3, .int (nI (mset C))), (4, .int (nI (mset E))), (5, .int (nI i))] [] I J (PQ (.int (nI (mset (clB (hgR w h O) c)))) I J) := by
    intro m
    induction m with
    | zero =>
      intro i C E hi hv
      have hi' : i = 16 := (Nat.zero_add i).symm.trans hi
      subst hi'
      have hfin := hv.full hc16 hR
      refine wp_iload (pc := 10) dX0_hanging_10 rfl ?_
      refine wp_bipush (pc := 12) (v := nI 16) dX0_hanging_12 (by decide +kernel) ?_
      first | (refine wp_icmp_geN (pc := 14) (tgt := 63) dX0_hanging_14 (by decide) (by first | with_reducible assumption | omega) (by first | with_reducible assumption | omega) (fun c_14 => ?_) (fun c_14 => ?_)) | (refine wp_icmp_ge (pc := 14) (tgt := 63) dX0_hanging_14 (by decide) (fun c_14 => ?_) (fun c_14 => ?_))
      · refine wp_iload_n (pc := 63) (i := 3) dX0_hanging_63 rfl rfl ?_
        refine wp_ireturn (pc := 64) dX0_hanging_64 rfl ?_
        exact pq_i (congrArg nI hfin)
      · exact absurd (show 16 ≤ 16 by omega) c_14
    | succ m ih =>
      intro i C E hi hv
      have hi16 : i < 16 := by omega
      have hl1 := mset_lt C
      have hl2 := mset_lt E
      have hl3 := mset_lt (fun t => C t && !E t)
      by_cases he : mset C = mset E
      · have hfin := hv.stop hc16 hR he
        refine wp_iload (pc := 10) dX0_hanging_10 rfl ?_
        refine wp_bipush (pc := 12) (v := nI 16) dX0_hanging_12 (by decide +kernel) ?_
        first | (refine wp_icmp_geN (pc := 14) (tgt := 63) dX0_hanging_14 (by decide) (by first | with_reducible assumption | omega) (by first | with_reducible assumption | omega) (fun c_14 => ?_) (fun c_14 => ?_)) | (refine wp_icmp_ge (pc := 14) (tgt := 63) dX0_hanging_14 (by decide) (fun c_14 => ?_) (fun c_14 => ?_))
        · exact absurd c_14 (by omega)
        · refine wp_iload_n (pc := 17) (i := 3) dX0_hanging_17 rfl rfl ?_
          refine wp_iload (pc := 18) dX0_hanging_18 rfl ?_
          first | (refine wp_icmp_eqN (pc := 20) (tgt := 63) dX0_hanging_20 (by decide) (by first | with_reducible assumption | omega) (by first | with_reducible assumption | omega) (fun c_20 => ?_) (fun c_20 => ?_)) | (refine wp_icmp_eq (pc := 20) (tgt := 63) dX0_hanging_20 (by decide) (fun c_20 => ?_) (fun c_20 => ?_))
          · refine wp_iload_n (pc := 63) (i := 3) dX0_hanging_63 rfl rfl ?_
            refine wp_ireturn (pc := 64) dX0_hanging_64 rfl ?_
            exact pq_i (congrArg nI hfin)
          · exact absurd he c_20
      · have hpos := hv.pos he
        have hA : ∀ k, k < w * h → I 5 k = nI (mset (kst w h k)) := fun k hk => (hT k hk).2.1
        refine wp_iload (pc := 10) dX0_hanging_10 rfl ?_
        refine wp_bipush (pc := 12) (v := nI 16) dX0_hanging_12 (by decide +kernel) ?_
        first | (refine wp_icmp_geN (pc := 14) (tgt := 63) dX0_hanging_14 (by decide) (by first | with_reducible assumption | omega) (by first | with_reducible assumption | omega) (fun c_14 => ?_) (fun c_14 => ?_)) | (refine wp_icmp_ge (pc := 14) (tgt := 63) dX0_hanging_14 (by decide) (fun c_14 => ?_) (fun c_14 => ?_))
        · exact absurd c_14 (by omega)
        · refine wp_iload_n (pc := 17) (i := 3) dX0_hanging_17 rfl rfl ?_
          refine wp_iload (pc := 18) dX0_hanging_18 rfl ?_
          first | (refine wp_icmp_eqN (pc := 20) (tgt := 63) dX0_hanging_20 (by decide) (by first | with_reducible assumption | omega) (by first | with_reducible assumption | omega) (fun c_20 => ?_) (fun c_20 => ?_)) | (refine wp_icmp_eq (pc := 20) (tgt := 63) dX0_hanging_20 (by decide) (fun c_20 => ?_) (fun c_20 => ?_))
          · exact absurd c_20 he
          · refine wp_iload_n (pc := 23) (i := 3) dX0_hanging_23 rfl rfl ?_
            refine wp_iload (pc := 24) dX0_hanging_24 rfl ?_
            refine wp_iconst (pc := 26) (v := (-1)) dX0_hanging_26 (by decide +kernel) ?_
            refine wp_ixor (pc := 27) dX0_hanging_27 ?_
            refine wp_iand (pc := 28) dX0_hanging_28 ?_
            rw [mset_minus]
            refine wp_cSI1 (pc := 29) dX0_hanging_29 lm_X0_62 m_X5_lowest (Nat.le_of_ble_eq_true rfl) (sp_X5_lowest hpos hl3) (fun x_29 I_29 J_29 h_29 => ?_)
            obtain ⟨⟨k, hk, hb, rfl⟩, rfl, rfl⟩ := h_29
            rw [mset_bit' _ hk, Bool.and_eq_true, Bool.not_eq_true'] at hb
            have hkn : k < w * h := (hv.2.2.2.1 k hb.1).lt hc hRn
            have hgo := hv.go hk hb.1 hb.2
            have eA := hA k hkn
            refine wp_istore (pc := 32) dX0_hanging_32 (by decide) ?_
            refine wp_iload (pc := 34) dX0_hanging_34 rfl ?_
            refine wp_iconst (pc := 36) (v := nI 1) dX0_hanging_36 (by decide +kernel) ?_
            refine wp_iload (pc := 37) dX0_hanging_37 rfl ?_
            first | (refine wp_ishl1 (pc := 39) dX0_hanging_39 (by first | with_reducible assumption | omega) ?_) | (refine wp_ishlN (pc := 39) dX0_hanging_39 (by first | with_reducible assumption | omega) (by first | with_reducible assumption | omega) ?_) | (refine wp_ishl (pc := 39) dX0_hanging_39 ?_)
            first | (refine wp_iorN (pc := 40) dX0_hanging_40 ?_) | (refine wp_ior (pc := 40) dX0_hanging_40 ?_)
            rw [set_t hk]
            refine wp_istore (pc := 41) dX0_hanging_41 (by decide) ?_
            refine wp_iload_n (pc := 43) (i := 3) dX0_hanging_43 rfl rfl ?_
            refine wp_aload_n (pc := 44) (i := 0) dX0_hanging_44 rfl rfl (by first | with_reducible assumption | rfl) ?_
            refine wp_getR (pc := 45) dX0_hanging_45 lf_X0_15 (by first | with_reducible assumption | rfl) (by first | with_reducible assumption | rfl) rfl (by first | with_reducible assumption | rfl) (by first | with_reducible assumption | rfl) ?_
            refine wp_iload (pc := 48) dX0_hanging_48 rfl ?_
            refine wp_cSP2 (pc := 50) dX0_hanging_50 lm_X0_51 m_X5_at (Nat.le_of_ble_eq_true rfl) (sp_X5_at (by first | with_reducible assumption | rfl) (by first | with_reducible assumption | rfl) (by first | with_reducible assumption | omega) (by decide)) ?_
            rw [eA]
            refine wp_iload_n (pc := 53) (i := 2) dX0_hanging_53 rfl rfl ?_
            first | (refine wp_iandN (pc := 54) dX0_hanging_54 ?_) | (refine wp_iand (pc := 54) dX0_hanging_54 ?_)
            rw [mset_and]
            first | (refine wp_iorN (pc := 55) dX0_hanging_55 ?_) | (refine wp_ior (pc := 55) dX0_hanging_55 ?_)
            rw [mset_or]
            refine wp_istore_n (pc := 56) (i := 3) dX0_hanging_56 rfl (by decide) ?_
            first | (refine wp_iincN (pc := 57) (m := 1) dX0_hanging_57 rfl rfl (by decide) ?_) | (refine wp_iinc (pc := 57) dX0_hanging_57 rfl rfl (by decide) ?_)
            refine wp_goto (pc := 60) (tgt := 10) dX0_hanging_60 (by decide) ?_
            refine wp_drop 6 ?_
            exact ih (i + 1) _ _ (by omega) hgo
  refine call_of_wp (by decide) (Nat.le_of_ble_eq_true rfl) ?_
  refine wp_iconst (pc := 0) (v := nI 1) dX0_hanging_0 (by decide +kernel) ?_
  refine wp_iload_n (pc := 1) (i := 1) dX0_hanging_1 rfl rfl ?_
  first | (refine wp_ishl1 (pc := 2) dX0_hanging_2 (by first | with_reducible assumption | omega) ?_) | (refine wp_ishlN (pc := 2) dX0_hanging_2 (by first | with_reducible assumption | omega) (by first | with_reducible assumption | omega) ?_) | (refine wp_ishl (pc := 2) dX0_hanging_2 ?_)
  rw [mset_one hc16]
  refine wp_istore_n (pc := 3) (i := 3) dX0_hanging_3 rfl (by decide) ?_
  refine wp_iconst (pc := 4) (v := nI 0) dX0_hanging_4 (by decide +kernel) ?_
  refine wp_istore (pc := 5) dX0_hanging_5 (by decide) ?_
  refine wp_iconst (pc := 7) (v := nI 0) dX0_hanging_7 (by decide +kernel) ?_
  refine wp_istore (pc := 8) dX0_hanging_8 (by decide) ?_
  have h0 := loop 16 0 _ _ rfl CInv.start
  rw [mset_none] at h0
  exact h0
end CLO
