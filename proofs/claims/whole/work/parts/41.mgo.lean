/-! THE REFERENCE: aimsOf, going, canOf -/
theorem un_K {w h c t : Nat} {F : Nat → Bool} : ((((((((false || (cat w h (cxx w c + (-1)) (cyy w c + (-1)) == some t)) || (cat w h (cxx w c + (0)) (cyy w c + (-1)) == some t)) || (cat w h (cxx w c + (1)) (cyy w c + (-1)) == some t)) || (cat w h (cxx w c + (-1)) (cyy w c + (0)) == some t)) || (cat w h (cxx w c + (1)) (cyy w c + (0)) == some t)) || (cat w h (cxx w c + (-1)) (cyy w c + (1)) == some t)) || (cat w h (cxx w c + (0)) (cyy w c + (1)) == some t)) || (cat w h (cxx w c + (1)) (cyy w c + (1)) == some t)) = kst w h c t := by
  simp only [kst, anK, nbr, dX, dY, Bool.false_or]
  ac_rfl
theorem un_R {w h c t : Nat} {F : Nat → Bool} : ((((false || ray w h F 0 3 (nbr w h c 0) t) || ray w h F 6 3 (nbr w h c 6) t) || ray w h F 2 3 (nbr w h c 2) t) || ray w h F 4 3 (nbr w h c 4) t) = lin w h 0 F c t := by
  simp only [lin, anK, Bool.false_or, Nat.reduceMul, Nat.reduceAdd]
  ac_rfl
theorem un_B {w h c t : Nat} {F : Nat → Bool} : ((((false || ray w h F 7 3 (nbr w h c 7) t) || ray w h F 1 3 (nbr w h c 1) t) || ray w h F 5 3 (nbr w h c 5) t) || ray w h F 3 3 (nbr w h c 3) t) = lin w h 1 F c t := by
  simp only [lin, anK, Bool.false_or, Nat.reduceMul, Nat.reduceAdd]
  ac_rfl
theorem un_N {w h c t : Nat} {F : Nat → Bool} : ((((false || ((cat w h (cxx w c + (-2)) (cyy w c + (-1)) == some t) || (cat w h (cxx w c + (-1)) (cyy w c + (-2)) == some t))) || ((cat w h (cxx w c + (2)) (cyy w c + (-1)) == some t) || (cat w h (cxx w c + (1)) (cyy w c + (-2)) == some t))) || ((cat w h (cxx w c + (-2)) (cyy w c + (1)) == some t) || (cat w h (cxx w c + (-1)) (cyy w c + (2)) == some t))) || ((cat w h (cxx w c + (2)) (cyy w c + (1)) == some t) || (cat w h (cxx w c + (1)) (cyy w c + (2)) == some t))) = nst w h c t := by
  simp only [nst, anK, lep, eX, eY, Bool.false_or]
  ac_rfl
theorem un_P {w h c t : Nat} {F : Nat → Bool} : ((false || (cat w h (cxx w c + (-1)) (cyy w c + (-1)) == some t)) || (cat w h (cxx w c + (1)) (cyy w c + (-1)) == some t)) = sla w h 0 c t := by
  simp [sla, ahd, Int.sub_eq_add_neg]
theorem un_Q {w h c t : Nat} {F : Nat → Bool} : ((false || (cat w h (cxx w c + (-1)) (cyy w c + (1)) == some t)) || (cat w h (cxx w c + (1)) (cyy w c + (1)) == some t)) = sla w h 1 c t := by
  simp [sla, ahd, Int.sub_eq_add_neg]
section MGO
variable {d : Nat} {I : MemI} {J : MemJ}
set_option maxHeartbeats 16000000 in
theorem sp_X6_aimsOf {w h k c s : Nat} {b : Bd} {nb : Bool} (hW : WH w h I) (hL : LV (w * h) k b I) (hs : ∀ c, c < 16 → b.1 c < 12) (hk : k < 4) (hc : c < w * h) (h2 : 2 ≤ s) (hs12 : s < 12) : CALL ΩM (d + 3) kX6_aimsOf [.ref 0, .int (nI k), .int (nI (asc s)), .int (nI c), .int (bI nb)] I J (PQ (.int (nI (mset (aimP w h s (nfr nb b.1) c)))) I J) := by
  match s, h2, hs12 with
  | 2, _, _ =>
    have g := am_K (d := d) (J := J) (s := 2) (nb := nb) hW hL hs hk hc (by decide) rfl
    rw [show mset _ = mset (aimP w h 2 (nfr nb b.1) c) from mset_eq fun t _ => un_K (F := fun _ => false)] at g
    exact g
  | 3, _, _ =>
    have g := am_R (d := d) (J := J) (s := 3) (nb := nb) hW hL hs hk hc (by decide) rfl
    rw [show mset _ = mset (aimP w h 3 (nfr nb b.1) c) from mset_eq fun t _ => un_R] at g
    exact g
  | 4, _, _ =>
    have g := am_B (d := d) (J := J) (s := 4) (nb := nb) hW hL hs hk hc (by decide) rfl
    rw [show mset _ = mset (aimP w h 4 (nfr nb b.1) c) from mset_eq fun t _ => un_B] at g
    exact g
  | 5, _, _ =>
    have g := am_N (d := d) (J := J) (s := 5) (nb := nb) hW hL hs hk hc (by decide) rfl
    rw [show mset _ = mset (aimP w h 5 (nfr nb b.1) c) from mset_eq fun t _ => un_N (F := fun _ => false)] at g
    exact g
  | 6, _, _ =>
    have g := am_P (d := d) (J := J) (s := 6) (nb := nb) hW hL hs hk hc (by decide) rfl rfl
    rw [show mset _ = mset (aimP w h 6 (nfr nb b.1) c) from mset_eq fun t _ => un_P (F := fun _ => false)] at g
    exact g
  | 7, _, _ =>
    have g := am_K (d := d) (J := J) (s := 7) (nb := nb) hW hL hs hk hc (by decide) rfl
    rw [show mset _ = mset (aimP w h 7 (nfr nb b.1) c) from mset_eq fun t _ => un_K (F := fun _ => false)] at g
    exact g
  | 8, _, _ =>
    have g := am_R (d := d) (J := J) (s := 8) (nb := nb) hW hL hs hk hc (by decide) rfl
    rw [show mset _ = mset (aimP w h 8 (nfr nb b.1) c) from mset_eq fun t _ => un_R] at g
    exact g
  | 9, _, _ =>
    have g := am_B (d := d) (J := J) (s := 9) (nb := nb) hW hL hs hk hc (by decide) rfl
    rw [show mset _ = mset (aimP w h 9 (nfr nb b.1) c) from mset_eq fun t _ => un_B] at g
    exact g
  | 10, _, _ =>
    have g := am_N (d := d) (J := J) (s := 10) (nb := nb) hW hL hs hk hc (by decide) rfl
    rw [show mset _ = mset (aimP w h 10 (nfr nb b.1) c) from mset_eq fun t _ => un_N (F := fun _ => false)] at g
    exact g
  | 11, _, _ =>
    have g := am_Q (d := d) (J := J) (s := 11) (nb := nb) hW hL hs hk hc (by decide) rfl rfl
    rw [show mset _ = mset (aimP w h 11 (nfr nb b.1) c) from mset_eq fun t _ => un_Q (F := fun _ => false)] at g
    exact g
  | n + 12, _, hs12 => omega
theorem kdA_80 : ∀ s, s < 12 → 2 ≤ s → (kdA s = 80 ↔ kdI s = nI 4) := by decide +kernel
theorem sdI_80 : ∀ s, s < 12 → 2 ≤ s → (sdI s = nI 0 ∧ sd s = 0) ∨ (sdI s = nI 1 ∧ sd s = 1) := by decide +kernel
theorem kdA_lt : ∀ s, s < 12 → kdA s < 100 := by decide +kernel
theorem set_cut {P R : Nat → Bool} {n k : Nat} (hk : k < 16) (v : Bool) (hv : R k = v) (g : mset (fun t => decide (t < k) && R t) = n) : (if v = true then n ||| 2 ^ k else n) = mset (fun t => decide (t < k + 1) && R t) := by
  have e : ∀ t, (decide (t < k + 1) && R t) = ((decide (t < k) && R t) || (decide (t = k) && R k)) := fun t => by
    by_cases h1 : t = k
    · subst h1; simp
    · by_cases h2 : t < k
      · have : t < k + 1 := by omega
        simp [h1, h2, this]
      · have : ¬ t < k + 1 := by omega
        simp [h1, h2, this]
  cases v
  · rw [if_neg Bool.false_ne_true, ← g]
    exact mset_eq fun t _ => by rw [e t, hv, Bool.and_false, Bool.or_false]
  · rw [if_pos rfl, ← g, set_t hk]
    refine mset_eq fun t _ => ?_
    rw [e t, hv, Bool.and_true]
    unfold upB
    by_cases h1 : t = k
    · rw [if_pos h1, decide_eq_true h1, Bool.or_true]
    · rw [if_neg h1, decide_eq_false h1, Bool.or_false]
set_option maxHeartbeats 16000000 in
theorem sp_X6_going {w h k c s : Nat} {b : Bd} {nb : Bool} (hW : WH w h I) (hL : LV (w * h) k b I) (hs : ∀ c, c < 16 → b.1 c < 12) (hk : k < 4) (hc : c < w * h) (h2 : 2 ≤ s) (hs12 : s < 12) : CALL ΩM (d + 4) kX6_going [.ref 0, .int (nI k), .int (nI (asc s)), .int (nI c), .int (bI nb)] I J (PQ (.int (nI (mset (fun t => gngP w h s (aimP w h s (nfr nb b.1) c) c t && !nfr nb b.1 t)))) I J) := by
  have n16 := (WH_n hW).2
  have e0 := hW.2.1
  have e1 := hW.2.2
  have ha := asc_lt s
  have hkf := sp_X6_kindOf (Ω := ΩM) (d := d + 2) (I := I) (J := J) hs12
  have hsf := sp_X6_sideOf (Ω := ΩM) (d := d + 3) (I := I) (J := J) (b := asc s) (by omega)
  rw [sdB_asc s hs12] at hsf
  have hkl := kdA_lt s hs12
  have hmm := mset_lt (gngP w h s (aimP w h s (nfr nb b.1) c) c)
  have loop : ∀ m t, m + t = w * h → WP ΩM (d + 4) kX6_going 47 [(0, .ref 0), (1, .int (nI k)), (2, .int (nI (asc s))), (3, .int (nI c)), (4, .int (bI nb)), (5, .int (nI (mset (gngP w h s (aimP w h s (nfr nb b.1) c) c)))), (6, .int (nI (mset (fun i => decide (i < t) && !nfr nb b.1 i)))), (7, .int (nI t))] [] I J (PQ (.int (nI (mset (fun t => gngP w h s (aimP w h s (nfr nb b.1) c) c t && !nfr nb b.1 t)))) I J) := by
    intro m
    induction m with
    | zero =>
      intro t ht
      have ht' : t = w * h := (Nat.zero_add t).symm.trans ht
      have e : mset (fun i => gngP w h s (aimP w h s (nfr nb b.1) c) c i && (decide (i < w * h) && !nfr nb b.1 i)) = mset (fun t => gngP w h s (aimP w h s (nfr nb b.1) c) c t && !nfr nb b.1 t) := mset_eq fun i _ => by
        cases hg : gngP w h s (aimP w h s (nfr nb b.1) c) c i
        · rfl
        · rw [decide_eq_true (gng_t (fun z => aim_t z) hg), Bool.true_and]
      rw [ht']
      refine wp_iload (pc := 47) dX6_going_47 rfl ?_
      refine wp_aload_n (pc := 49) (i := 0) dX6_going_49 rfl rfl (by first | with_reducible assumption | rfl) ?_
      refine wp_getI (pc := 50) dX6_going_50 lf_X6_47 (by first | with_reducible assumption | rfl) (by first | with_reducible assumption | rfl) rfl ?_
      rw [e0]
      refine wp_aload_n (pc := 53) (i := 0) dX6_going_53 rfl rfl (by first | with_reducible assumption | rfl) ?_
      refine wp_getI (pc := 54) dX6_going_54 lf_X6_51 (by first | with_reducible assumption | rfl) (by first | with_reducible assumption | rfl) rfl ?_
      rw [e1]
      first | (refine wp_imulN (pc := 57) dX6_going_57 ?_) | (refine wp_imul (pc := 57) dX6_going_57 ?_)
      first | (refine wp_icmp_geN (pc := 58) (tgt := 92) dX6_going_58 (by decide) (by first | with_reducible assumption | omega) (by first | with_reducible assumption | omega) (fun c_58 => ?_) (fun c_58 => ?_)) | (refine wp_icmp_ge (pc := 58) (tgt := 92) dX6_going_58 (by decide) (fun c_58 => ?_) (fun c_58 => ?_))
      · refine wp_iload (pc := 92) dX6_going_92 rfl ?_
        refine wp_iload (pc := 94) dX6_going_94 rfl ?_
        first | (refine wp_iandN (pc := 96) dX6_going_96 ?_) | (refine wp_iand (pc := 96) dX6_going_96 ?_)
        rw [mset_and, e]
        refine wp_ireturn (pc := 97) dX6_going_97 rfl ?_
        exact pq_i rfl
      · exact absurd (Nat.le_refl _) c_58
    | succ m ih =>
      intro t ht
      have htn : t < w * h := by omega
      have hfr := sp_X6_isFree (d := d + 3) (J := J) (nb := nb) hL hs n16 hk htn
      have h0 := ih (t + 1) (by omega)
      have hcut := set_cut (P := fun _ => false) (R := fun i => !nfr nb b.1 i) (k := t) (by omega) _ rfl rfl
      clear ih
      cases hv : nfr nb b.1 t
      · rw [hv] at hfr hcut
        rw [← hcut] at h0
        refine wp_iload (pc := 47) dX6_going_47 rfl ?_
        refine wp_aload_n (pc := 49) (i := 0) dX6_going_49 rfl rfl (by first | with_reducible assumption | rfl) ?_
        refine wp_getI (pc := 50) dX6_going_50 lf_X6_47 (by first | with_reducible assumption | rfl) (by first | with_reducible assumption | rfl) rfl ?_
        rw [e0]
        refine wp_aload_n (pc := 53) (i := 0) dX6_going_53 rfl rfl (by first | with_reducible assumption | rfl) ?_
        refine wp_getI (pc := 54) dX6_going_54 lf_X6_51 (by first | with_reducible assumption | rfl) (by first | with_reducible assumption | rfl) rfl ?_
        rw [e1]
        first | (refine wp_imulN (pc := 57) dX6_going_57 ?_) | (refine wp_imul (pc := 57) dX6_going_57 ?_)
        first | (refine wp_icmp_geN (pc := 58) (tgt := 92) dX6_going_58 (by decide) (by first | with_reducible assumption | omega) (by first | with_reducible assumption | omega) (fun c_58 => ?_) (fun c_58 => ?_)) | (refine wp_icmp_ge (pc := 58) (tgt := 92) dX6_going_58 (by decide) (fun c_58 => ?_) (fun c_58 => ?_))
        · exact absurd c_58 (by omega)
        · refine wp_iload (pc := 61) dX6_going_61 rfl ?_
          refine wp_aload_n (pc := 63) (i := 0) dX6_going_63 rfl rfl (by first | with_reducible assumption | rfl) ?_
          refine wp_iload_n (pc := 64) (i := 1) dX6_going_64 rfl rfl ?_
          refine wp_iload (pc := 65) dX6_going_65 rfl ?_
          refine wp_iload (pc := 67) dX6_going_67 rfl ?_
          refine wp_cVP3 (pc := 69) (ci := 6) dX6_going_69 lm_X6_101 m_X6_isFree (by first | with_reducible assumption | rfl) (by first | with_reducible assumption | rfl) (by decide) rfl (Nat.le_of_ble_eq_true rfl) hfr ?_
          refine wp_if_eqB (pc := 72) (tgt := 82) dX6_going_72 (by decide) (fun c_72 => ?_) (fun c_72 => ?_)
          · exact Bool.noConfusion c_72
          · refine wp_iconst (pc := 75) (v := nI 1) dX6_going_75 (by decide +kernel) ?_
            refine wp_iload (pc := 76) dX6_going_76 rfl ?_
            first | (refine wp_ishl1 (pc := 78) dX6_going_78 (by first | with_reducible assumption | omega) ?_) | (refine wp_ishlN (pc := 78) dX6_going_78 (by first | with_reducible assumption | omega) (by first | with_reducible assumption | omega) ?_) | (refine wp_ishl (pc := 78) dX6_going_78 ?_)
            refine wp_goto (pc := 79) (tgt := 83) dX6_going_79 (by decide) ?_
            first | (refine wp_iorN (pc := 83) dX6_going_83 ?_) | (refine wp_ior (pc := 83) dX6_going_83 ?_)
            refine wp_istore (pc := 84) dX6_going_84 (by decide) ?_
            first | (refine wp_iincN (pc := 86) (m := 1) dX6_going_86 rfl rfl (by decide) ?_) | (refine wp_iinc (pc := 86) dX6_going_86 rfl rfl (by decide) ?_)
            refine wp_goto (pc := 89) (tgt := 47) dX6_going_89 (by decide) ?_
            exact h0
      · rw [hv] at hfr hcut
        rw [← hcut] at h0
        refine wp_iload (pc := 47) dX6_going_47 rfl ?_
        refine wp_aload_n (pc := 49) (i := 0) dX6_going_49 rfl rfl (by first | with_reducible assumption | rfl) ?_
        refine wp_getI (pc := 50) dX6_going_50 lf_X6_47 (by first | with_reducible assumption | rfl) (by first | with_reducible assumption | rfl) rfl ?_
        rw [e0]
        refine wp_aload_n (pc := 53) (i := 0) dX6_going_53 rfl rfl (by first | with_reducible assumption | rfl) ?_
        refine wp_getI (pc := 54) dX6_going_54 lf_X6_51 (by first | with_reducible assumption | rfl) (by first | with_reducible assumption | rfl) rfl ?_
        rw [e1]
        first | (refine wp_imulN (pc := 57) dX6_going_57 ?_) | (refine wp_imul (pc := 57) dX6_going_57 ?_)
        first | (refine wp_icmp_geN (pc := 58) (tgt := 92) dX6_going_58 (by decide) (by first | with_reducible assumption | omega) (by first | with_reducible assumption | omega) (fun c_58 => ?_) (fun c_58 => ?_)) | (refine wp_icmp_ge (pc := 58) (tgt := 92) dX6_going_58 (by decide) (fun c_58 => ?_) (fun c_58 => ?_))
        · exact absurd c_58 (by omega)
        · refine wp_iload (pc := 61) dX6_going_61 rfl ?_
          refine wp_aload_n (pc := 63) (i := 0) dX6_going_63 rfl rfl (by first | with_reducible assumption | rfl) ?_
          refine wp_iload_n (pc := 64) (i := 1) dX6_going_64 rfl rfl ?_
          refine wp_iload (pc := 65) dX6_going_65 rfl ?_
          refine wp_iload (pc := 67) dX6_going_67 rfl ?_
          refine wp_cVP3 (pc := 69) (ci := 6) dX6_going_69 lm_X6_101 m_X6_isFree (by first | with_reducible assumption | rfl) (by first | with_reducible assumption | rfl) (by decide) rfl (Nat.le_of_ble_eq_true rfl) hfr ?_
          refine wp_if_eqB (pc := 72) (tgt := 82) dX6_going_72 (by decide) (fun c_72 => ?_) (fun c_72 => ?_)
          · refine wp_iconst (pc := 82) (v := nI 0) dX6_going_82 (by decide +kernel) ?_
            refine wp_ior (pc := 83) dX6_going_83 ?_
            rw [show ∀ x : Int32, x ||| nI 0 = x from fun x => by rw [show nI 0 = (0 : Int32) from rfl, Int32.or_zero]]
            refine wp_istore (pc := 84) dX6_going_84 (by decide) ?_
            first | (refine wp_iincN (pc := 86) (m := 1) dX6_going_86 rfl rfl (by decide) ?_) | (refine wp_iinc (pc := 86) dX6_going_86 rfl rfl (by decide) ?_)
            refine wp_goto (pc := 89) (tgt := 47) dX6_going_89 (by decide) ?_
            exact h0
          · exact Bool.noConfusion c_72
  have h00 := loop (w * h) 0 rfl
  have ez : mset (fun i => decide (i < 0) && !nfr nb b.1 i) = 0 := mset_zero.mpr (fun i _ => by simp)
  rw [ez] at h00
  by_cases h80 : kdA s = 80
  · have h4 := (kdA_80 s hs12 h2).mp h80
    rw [h80] at hkf
    have eg : ∀ t, gngP w h s (aimP w h s (nfr nb b.1) c) c t = stp w h (sd s) c t := fun t => by unfold gngP; rw [if_pos h4]
    have cut : ∀ v, obN (cat w h (cxx w c + 0) (cyy w c + v)) = mset (fun t => cat w h (cxx w c + 0) (cyy w c + v) == some t) := fun v => by
      have g := st_or (P := fun _ => false) (x := cxx w c + 0) (y := cyy w c + v) n16
      rw [mset_none, Nat.zero_or] at g
      rw [g]
      exact mset_eq fun t _ => by simp
    rcases sdI_80 s hs12 h2 with ⟨d1, d2⟩ | ⟨d1, d2⟩
    · have es : obN (cat w h (cxx w c + 0) (cyy w c + (-1))) = mset (gngP w h s (aimP w h s (nfr nb b.1) c) c) := by
        rw [cut]
        exact mset_eq fun t _ => by rw [eg, d2]; simp [stp, ahd]
      have hst := sp_X6_step (d := d + 1) (J := J) (x := 0) (y := -1) hW hc (by omega) (by omega)
      rw [es] at hst
      rw [d1] at hsf
      refine call_of_wp (by decide) (Nat.le_of_ble_eq_true rfl) ?_
      refine wp_iload_n (pc := 0) (i := 2) dX6_going_0 rfl rfl ?_
      refine wp_cSP1 (pc := 1) dX6_going_1 lm_X6_105 m_X6_kindOf (Nat.le_of_ble_eq_true rfl) hkf ?_
      refine wp_bipush (pc := 4) (v := nI 80) dX6_going_4 (by decide +kernel) ?_
      first | (refine wp_icmp_neN (pc := 6) (tgt := 30) dX6_going_6 (by decide) (by first | with_reducible assumption | omega) (by first | with_reducible assumption | omega) (fun c_6 => ?_) (fun c_6 => ?_)) | (refine wp_icmp_ne (pc := 6) (tgt := 30) dX6_going_6 (by decide) (fun c_6 => ?_) (fun c_6 => ?_))
      · exact absurd rfl c_6
      · refine wp_aload_n (pc := 9) (i := 0) dX6_going_9 rfl rfl (by first | with_reducible assumption | rfl) ?_
        refine wp_iload_n (pc := 10) (i := 3) dX6_going_10 rfl rfl ?_
        refine wp_iconst (pc := 11) (v := nI 0) dX6_going_11 (by decide +kernel) ?_
        refine wp_iload_n (pc := 12) (i := 2) dX6_going_12 rfl rfl ?_
        refine wp_cSP1 (pc := 13) dX6_going_13 lm_X6_65 m_X6_sideOf (Nat.le_of_ble_eq_true rfl) hsf ?_
        refine wp_if_neN (pc := 16) (tgt := 23) dX6_going_16 (by decide) (by first | with_reducible assumption | omega) (fun c_16 => ?_) (fun c_16 => ?_)
        · exact absurd rfl c_16
        · refine wp_iconst (pc := 19) (v := (-1)) dX6_going_19 (by decide +kernel) ?_
          refine wp_goto (pc := 20) (tgt := 24) dX6_going_20 (by decide) ?_
          refine wp_cVP3 (pc := 24) (ci := 6) dX6_going_24 lm_X6_108 m_X6_step (by first | with_reducible assumption | rfl) (by first | with_reducible assumption | rfl) (by decide) rfl (Nat.le_of_ble_eq_true rfl) hst ?_
          refine wp_goto (pc := 27) (tgt := 39) dX6_going_27 (by decide) ?_
          refine wp_istore (pc := 39) dX6_going_39 (by decide) ?_
          refine wp_iconst (pc := 41) (v := nI 0) dX6_going_41 (by decide +kernel) ?_
          refine wp_istore (pc := 42) dX6_going_42 (by decide) ?_
          refine wp_iconst (pc := 44) (v := nI 0) dX6_going_44 (by decide +kernel) ?_
          refine wp_istore (pc := 45) dX6_going_45 (by decide) ?_
          exact h00
    · have es : obN (cat w h (cxx w c + 0) (cyy w c + 1)) = mset (gngP w h s (aimP w h s (nfr nb b.1) c) c) := by
        rw [cut]
        exact mset_eq fun t _ => by rw [eg, d2]; simp [stp, ahd]
      have hst := sp_X6_step (d := d + 1) (J := J) (x := 0) (y := 1) hW hc (by omega) (by omega)
      rw [es] at hst
      rw [d1] at hsf
      refine call_of_wp (by decide) (Nat.le_of_ble_eq_true rfl) ?_
      refine wp_iload_n (pc := 0) (i := 2) dX6_going_0 rfl rfl ?_
      refine wp_cSP1 (pc := 1) dX6_going_1 lm_X6_105 m_X6_kindOf (Nat.le_of_ble_eq_true rfl) hkf ?_
      refine wp_bipush (pc := 4) (v := nI 80) dX6_going_4 (by decide +kernel) ?_
      first | (refine wp_icmp_neN (pc := 6) (tgt := 30) dX6_going_6 (by decide) (by first | with_reducible assumption | omega) (by first | with_reducible assumption | omega) (fun c_6 => ?_) (fun c_6 => ?_)) | (refine wp_icmp_ne (pc := 6) (tgt := 30) dX6_going_6 (by decide) (fun c_6 => ?_) (fun c_6 => ?_))
      · exact absurd rfl c_6
      · refine wp_aload_n (pc := 9) (i := 0) dX6_going_9 rfl rfl (by first | with_reducible assumption | rfl) ?_
        refine wp_iload_n (pc := 10) (i := 3) dX6_going_10 rfl rfl ?_
        refine wp_iconst (pc := 11) (v := nI 0) dX6_going_11 (by decide +kernel) ?_
        refine wp_iload_n (pc := 12) (i := 2) dX6_going_12 rfl rfl ?_
        refine wp_cSP1 (pc := 13) dX6_going_13 lm_X6_65 m_X6_sideOf (Nat.le_of_ble_eq_true rfl) hsf ?_
        refine wp_if_neN (pc := 16) (tgt := 23) dX6_going_16 (by decide) (by first | with_reducible assumption | omega) (fun c_16 => ?_) (fun c_16 => ?_)
        · refine wp_iconst (pc := 23) (v := nI 1) dX6_going_23 (by decide +kernel) ?_
          refine wp_cVP3 (pc := 24) (ci := 6) dX6_going_24 lm_X6_108 m_X6_step (by first | with_reducible assumption | rfl) (by first | with_reducible assumption | rfl) (by decide) rfl (Nat.le_of_ble_eq_true rfl) hst ?_
          refine wp_goto (pc := 27) (tgt := 39) dX6_going_27 (by decide) ?_
          refine wp_istore (pc := 39) dX6_going_39 (by decide) ?_
          refine wp_iconst (pc := 41) (v := nI 0) dX6_going_41 (by decide +kernel) ?_
          refine wp_istore (pc := 42) dX6_going_42 (by decide) ?_
          refine wp_iconst (pc := 44) (v := nI 0) dX6_going_44 (by decide +kernel) ?_
          refine wp_istore (pc := 45) dX6_going_45 (by decide) ?_
          exact h00
        · exact absurd c_16 (by decide)
  · have h4 : ¬ kdI s = nI 4 := fun z => h80 ((kdA_80 s hs12 h2).mpr z)
    have es : mset (aimP w h s (nfr nb b.1) c) = mset (gngP w h s (aimP w h s (nfr nb b.1) c) c) := mset_eq fun t _ => by unfold gngP; rw [if_neg h4]
    have hai := sp_X6_aimsOf (d := d) (J := J) (nb := nb) hW hL hs hk hc h2 hs12
    rw [es] at hai
    refine call_of_wp (by decide) (Nat.le_of_ble_eq_true rfl) ?_
    refine wp_iload_n (pc := 0) (i := 2) dX6_going_0 rfl rfl ?_
    refine wp_cSP1 (pc := 1) dX6_going_1 lm_X6_105 m_X6_kindOf (Nat.le_of_ble_eq_true rfl) hkf ?_
    refine wp_bipush (pc := 4) (v := nI 80) dX6_going_4 (by decide +kernel) ?_
    first | (refine wp_icmp_neN (pc := 6) (tgt := 30) dX6_going_6 (by decide) (by first | with_reducible assumption | omega) (by first | with_reducible assumption | omega) (fun c_6 => ?_) (fun c_6 => ?_)) | (refine wp_icmp_ne (pc := 6) (tgt := 30) dX6_going_6 (by decide) (fun c_6 => ?_) (fun c_6 => ?_))
    · refine wp_aload_n (pc := 30) (i := 0) dX6_going_30 rfl rfl (by first | with_reducible assumption | rfl) ?_
      refine wp_iload_n (pc := 31) (i := 1) dX6_going_31 rfl rfl ?_
      refine wp_iload_n (pc := 32) (i := 2) dX6_going_32 rfl rfl ?_
      refine wp_iload_n (pc := 33) (i := 3) dX6_going_33 rfl rfl ?_
      refine wp_iload (pc := 34) dX6_going_34 rfl ?_
      refine wp_cVP4 (pc := 36) (ci := 6) dX6_going_36 lm_X6_115 m_X6_aimsOf (by first | with_reducible assumption | rfl) (by first | with_reducible assumption | rfl) (by decide) rfl (Nat.le_of_ble_eq_true rfl) hai ?_
      refine wp_istore (pc := 39) dX6_going_39 (by decide) ?_
      refine wp_iconst (pc := 41) (v := nI 0) dX6_going_41 (by decide +kernel) ?_
      refine wp_istore (pc := 42) dX6_going_42 (by decide) ?_
      refine wp_iconst (pc := 44) (v := nI 0) dX6_going_44 (by decide +kernel) ?_
      refine wp_istore (pc := 45) dX6_going_45 (by decide) ?_
      exact h00
    · exact absurd c_6 h80
theorem menP_sd {g : Nat → Nat} {s t : Nat} (hs : s < 2) (hg : g t < 12) : (sdI (g t) = nI s) ↔ menP g s t = true := by
  have h1 := sd_w (g t) hg
  have h2 := sd_b (g t) hg
  rw [decide_eq_decide] at h1 h2
  rcases (show s = 0 ∨ s = 1 by omega) with rfl | rfl
  · rw [show nI 0 = (0 : Int32) from rfl, h1]
    simp [menP, wht]
  · rw [h2]
    simp [menP, blk]
theorem nfr_f {g : Nat → Nat} : nfr false g = ful g := rfl
theorem nfr_t {g : Nat → Nat} : nfr true g = ded g := rfl
set_option maxHeartbeats 16000000 in
theorem sp_X6_canOf {w h k c : Nat} {b : Bd} (hW : WH w h I) (hL : LV (w * h) k b I) (hs : ∀ c, c < 16 → b.1 c < 12) (hk : k < 4) (hc : c < w * h) : CALL ΩM (d + 5) kX6_canOf [.ref 0, .int (nI k), .int (nI c)] I J (PQ (.int (nI (mset (reaP w h b.1 c)))) I J) := by
  have n16 := (WH_n hW).2
  have e0 := hW.2.1
  have e1 := hW.2.2
  have ec := (hL.1 c hc).1
  have hsc := hs c (by omega)
  have ha := asc_lt (b.1 c)
  have hsf := sp_X6_sideOf (Ω := ΩM) (d := d + 4) (I := I) (J := J) (b := asc (b.1 c)) (by omega)
  rw [sdB_asc _ hsc] at hsf
  by_cases h2 : b.1 c < 2
  · have e9 : sdI (b.1 c) = -9 := by unfold sdI; rw [if_pos h2]
    rw [e9] at hsf
    refine call_of_wp (by decide) (Nat.le_of_ble_eq_true rfl) ?_
    refine wp_aload_n (pc := 0) (i := 0) dX6_canOf_0 rfl rfl (by first | with_reducible assumption | rfl) ?_
    refine wp_getR (pc := 1) dX6_canOf_1 lf_X6_7 (by first | with_reducible assumption | rfl) (by first | with_reducible assumption | rfl) rfl (by first | with_reducible assumption | rfl) (by first | with_reducible assumption | rfl) ?_
    refine wp_bipush (pc := 4) (v := nI 16) dX6_canOf_4 (by decide +kernel) ?_
    refine wp_iload_n (pc := 6) (i := 1) dX6_canOf_6 rfl rfl ?_
    first | (refine wp_imulN (pc := 7) dX6_canOf_7 ?_) | (refine wp_imul (pc := 7) dX6_canOf_7 ?_)
    refine wp_iload_n (pc := 8) (i := 2) dX6_canOf_8 rfl rfl ?_
    first | (refine wp_iaddN (pc := 9) dX6_canOf_9 ?_) | (refine wp_iadd (pc := 9) dX6_canOf_9 ?_)
    refine wp_iald (pc := 10) dX6_canOf_10 (by first | with_reducible assumption | rfl) (by first | with_reducible assumption | rfl) (by first | with_reducible assumption | omega) (by first | decide | omega) ?_
    rw [ec]
    refine wp_istore_n (pc := 11) (i := 3) dX6_canOf_11 rfl (by decide) ?_
    refine wp_iload_n (pc := 12) (i := 3) dX6_canOf_12 rfl rfl ?_
    refine wp_cSP1 (pc := 13) dX6_canOf_13 lm_X6_65 m_X6_sideOf (Nat.le_of_ble_eq_true rfl) hsf ?_
    refine wp_istore (pc := 16) dX6_canOf_16 (by decide) ?_
    refine wp_iload (pc := 18) dX6_canOf_18 rfl ?_
    refine wp_bipush (pc := 20) (v := (-9)) dX6_canOf_20 (by decide +kernel) ?_
    refine wp_icmp_ne (pc := 22) (tgt := 27) dX6_canOf_22 (by decide) (fun c_22 => ?_) (fun c_22 => ?_)
    · exact absurd rfl c_22
    · refine wp_iconst (pc := 25) (v := nI 0) dX6_canOf_25 (by decide +kernel) ?_
      refine wp_ireturn (pc := 26) dX6_canOf_26 rfl ?_
      exact pq_i (congrArg nI (mset_zero.mpr (fun t _ => by unfold reaP; rw [if_pos h2])).symm)
  · have e9 : sdI (b.1 c) = nI (sd (b.1 c)) := sd_i _ hsc (by omega)
    have hsd := sd_lt (b.1 c)
    have hne : ¬ nI (sd (b.1 c)) = -9 := nine_ne hsd
    rw [e9] at hsf
    have hgo := sp_X6_going (d := d) (J := J) (nb := false) hW hL hs hk hc (by omega) hsc
    have hai := sp_X6_aimsOf (d := d + 1) (J := J) (nb := false) hW hL hs hk hc (by omega) hsc
    rw [nfr_f] at hgo hai
    have loop : ∀ m t, m + t = w * h → WP ΩM (d + 5) kX6_canOf 33 [(0, .ref 0), (1, .int (nI k)), (2, .int (nI c)), (3, .int (nI (asc (b.1 c)))), (4, .int (nI (sd (b.1 c)))), (5, .int (nI (mset (fun i => decide (i < t) && menP b.1 (1 - sd (b.1 c)) i)))), (6, .int (nI t))] [] I J (PQ (.int (nI (mset (reaP w h b.1 c)))) I J) := by
      intro m
      induction m with
      | zero =>
        intro t ht
        have ht' : t = w * h := (Nat.zero_add t).symm.trans ht
        have e : mset (fun i => (gngP w h (b.1 c) (aimP w h (b.1 c) (ful b.1) c) c i && !ful b.1 i) || (aimP w h (b.1 c) (ful b.1) c i && (decide (i < w * h) && menP b.1 (1 - sd (b.1 c)) i))) = mset (reaP w h b.1 c) := mset_eq fun i _ => by
          unfold reaP
          rw [if_neg h2]
          cases hg : aimP w h (b.1 c) (ful b.1) c i
          · rfl
          · rw [decide_eq_true (aim_t hg), Bool.true_and]
        rw [ht']
        refine wp_iload (pc := 33) dX6_canOf_33 rfl ?_
        refine wp_aload_n (pc := 35) (i := 0) dX6_canOf_35 rfl rfl (by first | with_reducible assumption | rfl) ?_
        refine wp_getI (pc := 36) dX6_canOf_36 lf_X6_47 (by first | with_reducible assumption | rfl) (by first | with_reducible assumption | rfl) rfl ?_
        rw [e0]
        refine wp_aload_n (pc := 39) (i := 0) dX6_canOf_39 rfl rfl (by first | with_reducible assumption | rfl) ?_
        refine wp_getI (pc := 40) dX6_canOf_40 lf_X6_51 (by first | with_reducible assumption | rfl) (by first | with_reducible assumption | rfl) rfl ?_
        rw [e1]
        first | (refine wp_imulN (pc := 43) dX6_canOf_43 ?_) | (refine wp_imul (pc := 43) dX6_canOf_43 ?_)
        first | (refine wp_icmp_geN (pc := 44) (tgt := 88) dX6_canOf_44 (by decide) (by first | with_reducible assumption | omega) (by first | with_reducible assumption | omega) (fun c_44 => ?_) (fun c_44 => ?_)) | (refine wp_icmp_ge (pc := 44) (tgt := 88) dX6_canOf_44 (by decide) (fun c_44 => ?_) (fun c_44 => ?_))
        · refine wp_aload_n (pc := 88) (i := 0) dX6_canOf_88 rfl rfl (by first | with_reducible assumption | rfl) ?_
          refine wp_iload_n (pc := 89) (i := 1) dX6_canOf_89 rfl rfl ?_
          refine wp_iload_n (pc := 90) (i := 3) dX6_canOf_90 rfl rfl ?_
          refine wp_iload_n (pc := 91) (i := 2) dX6_canOf_91 rfl rfl ?_
          refine wp_iconst (pc := 92) (v := bI false) dX6_canOf_92 (by decide +kernel) ?_
          refine wp_cVP4 (pc := 93) (ci := 6) dX6_canOf_93 lm_X6_119 m_X6_going (by first | with_reducible assumption | rfl) (by first | with_reducible assumption | rfl) (by decide) rfl (Nat.le_of_ble_eq_true rfl) hgo ?_
          refine wp_aload_n (pc := 96) (i := 0) dX6_canOf_96 rfl rfl (by first | with_reducible assumption | rfl) ?_
          refine wp_iload_n (pc := 97) (i := 1) dX6_canOf_97 rfl rfl ?_
          refine wp_iload_n (pc := 98) (i := 3) dX6_canOf_98 rfl rfl ?_
          refine wp_iload_n (pc := 99) (i := 2) dX6_canOf_99 rfl rfl ?_
          refine wp_iconst (pc := 100) (v := bI false) dX6_canOf_100 (by decide +kernel) ?_
          refine wp_cVP4 (pc := 101) (ci := 6) dX6_canOf_101 lm_X6_115 m_X6_aimsOf (by first | with_reducible assumption | rfl) (by first | with_reducible assumption | rfl) (by decide) rfl (Nat.le_of_ble_eq_true rfl) hai ?_
          refine wp_iload (pc := 104) dX6_canOf_104 rfl ?_
          first | (refine wp_iandN (pc := 106) dX6_canOf_106 ?_) | (refine wp_iand (pc := 106) dX6_canOf_106 ?_)
          rw [mset_and]
          first | (refine wp_iorN (pc := 107) dX6_canOf_107 ?_) | (refine wp_ior (pc := 107) dX6_canOf_107 ?_)
          rw [mset_or, e]
          refine wp_ireturn (pc := 108) dX6_canOf_108 rfl ?_
          exact pq_i rfl
        · exact absurd (Nat.le_refl _) c_44
      | succ m ih =>
        intro t ht
        have htn : t < w * h := by omega
        have et := (hL.1 t htn).1
        have hst := hs t (by omega)
        have hat := asc_lt (b.1 t)
        have hsf2 := sp_X6_sideOf (Ω := ΩM) (d := d + 4) (I := I) (J := J) (b := asc (b.1 t)) (by omega)
        rw [sdB_asc _ hst] at hsf2
        have hms := menP_sd (g := b.1) (s := 1 - sd (b.1 c)) (t := t) (by omega) hst
        have h0 := ih (t + 1) (by omega)
        have hcut := set_cut (P := fun _ => false) (R := fun i => menP b.1 (1 - sd (b.1 c)) i) (k := t) (by omega) _ rfl rfl
        clear ih
        cases hv : menP b.1 (1 - sd (b.1 c)) t
        · rw [hv] at hcut hms
          have hn : ¬ sdI (b.1 t) = nI (1 - sd (b.1 c)) := fun z => Bool.false_ne_true (hms.mp z)
          rw [← hcut] at h0
          refine wp_iload (pc := 33) dX6_canOf_33 rfl ?_
          refine wp_aload_n (pc := 35) (i := 0) dX6_canOf_35 rfl rfl (by first | with_reducible assumption | rfl) ?_
          refine wp_getI (pc := 36) dX6_canOf_36 lf_X6_47 (by first | with_reducible assumption | rfl) (by first | with_reducible assumption | rfl) rfl ?_
          rw [e0]
          refine wp_aload_n (pc := 39) (i := 0) dX6_canOf_39 rfl rfl (by first | with_reducible assumption | rfl) ?_
          refine wp_getI (pc := 40) dX6_canOf_40 lf_X6_51 (by first | with_reducible assumption | rfl) (by first | with_reducible assumption | rfl) rfl ?_
          rw [e1]
          first | (refine wp_imulN (pc := 43) dX6_canOf_43 ?_) | (refine wp_imul (pc := 43) dX6_canOf_43 ?_)
          first | (refine wp_icmp_geN (pc := 44) (tgt := 88) dX6_canOf_44 (by decide) (by first | with_reducible assumption | omega) (by first | with_reducible assumption | omega) (fun c_44 => ?_) (fun c_44 => ?_)) | (refine wp_icmp_ge (pc := 44) (tgt := 88) dX6_canOf_44 (by decide) (fun c_44 => ?_) (fun c_44 => ?_))
          · exact absurd c_44 (by omega)
          · refine wp_iload (pc := 47) dX6_canOf_47 rfl ?_
            refine wp_aload_n (pc := 49) (i := 0) dX6_canOf_49 rfl rfl (by first | with_reducible assumption | rfl) ?_
            refine wp_getR (pc := 50) dX6_canOf_50 lf_X6_7 (by first | with_reducible assumption | rfl) (by first | with_reducible assumption | rfl) rfl (by first | with_reducible assumption | rfl) (by first | with_reducible assumption | rfl) ?_
            refine wp_bipush (pc := 53) (v := nI 16) dX6_canOf_53 (by decide +kernel) ?_
            refine wp_iload_n (pc := 55) (i := 1) dX6_canOf_55 rfl rfl ?_
            first | (refine wp_imulN (pc := 56) dX6_canOf_56 ?_) | (refine wp_imul (pc := 56) dX6_canOf_56 ?_)
            refine wp_iload (pc := 57) dX6_canOf_57 rfl ?_
            first | (refine wp_iaddN (pc := 59) dX6_canOf_59 ?_) | (refine wp_iadd (pc := 59) dX6_canOf_59 ?_)
            refine wp_iald (pc := 60) dX6_canOf_60 (by first | with_reducible assumption | rfl) (by first | with_reducible assumption | rfl) (by first | with_reducible assumption | omega) (by first | decide | omega) ?_
            rw [et]
            refine wp_cSP1 (pc := 61) dX6_canOf_61 lm_X6_65 m_X6_sideOf (Nat.le_of_ble_eq_true rfl) hsf2 ?_
            refine wp_iconst (pc := 64) (v := nI 1) dX6_canOf_64 (by decide +kernel) ?_
            refine wp_iload (pc := 65) dX6_canOf_65 rfl ?_
            first | (refine wp_isubN (pc := 67) dX6_canOf_67 (by first | with_reducible assumption | omega) ?_) | (refine wp_isub (pc := 67) dX6_canOf_67 ?_)
            refine wp_icmp_ne (pc := 68) (tgt := 78) dX6_canOf_68 (by decide) (fun c_68 => ?_) (fun c_68 => ?_)
            · refine wp_iconst (pc := 78) (v := nI 0) dX6_canOf_78 (by decide +kernel) ?_
              refine wp_ior (pc := 79) dX6_canOf_79 ?_
              rw [show ∀ x : Int32, x ||| nI 0 = x from fun x => by rw [show nI 0 = (0 : Int32) from rfl, Int32.or_zero]]
              refine wp_istore (pc := 80) dX6_canOf_80 (by decide) ?_
              first | (refine wp_iincN (pc := 82) (m := 1) dX6_canOf_82 rfl rfl (by decide) ?_) | (refine wp_iinc (pc := 82) dX6_canOf_82 rfl rfl (by decide) ?_)
              refine wp_goto (pc := 85) (tgt := 33) dX6_canOf_85 (by decide) ?_
              exact h0
            · exact absurd c_68 hn
        · rw [hv] at hcut hms
          have hn : sdI (b.1 t) = nI (1 - sd (b.1 c)) := hms.mpr rfl
          rw [← hcut] at h0
          refine wp_iload (pc := 33) dX6_canOf_33 rfl ?_
          refine wp_aload_n (pc := 35) (i := 0) dX6_canOf_35 rfl rfl (by first | with_reducible assumption | rfl) ?_
          refine wp_getI (pc := 36) dX6_canOf_36 lf_X6_47 (by first | with_reducible assumption | rfl) (by first | with_reducible assumption | rfl) rfl ?_
          rw [e0]
          refine wp_aload_n (pc := 39) (i := 0) dX6_canOf_39 rfl rfl (by first | with_reducible assumption | rfl) ?_
          refine wp_getI (pc := 40) dX6_canOf_40 lf_X6_51 (by first | with_reducible assumption | rfl) (by first | with_reducible assumption | rfl) rfl ?_
          rw [e1]
          first | (refine wp_imulN (pc := 43) dX6_canOf_43 ?_) | (refine wp_imul (pc := 43) dX6_canOf_43 ?_)
          first | (refine wp_icmp_geN (pc := 44) (tgt := 88) dX6_canOf_44 (by decide) (by first | with_reducible assumption | omega) (by first | with_reducible assumption | omega) (fun c_44 => ?_) (fun c_44 => ?_)) | (refine wp_icmp_ge (pc := 44) (tgt := 88) dX6_canOf_44 (by decide) (fun c_44 => ?_) (fun c_44 => ?_))
          · exact absurd c_44 (by omega)
          · refine wp_iload (pc := 47) dX6_canOf_47 rfl ?_
            refine wp_aload_n (pc := 49) (i := 0) dX6_canOf_49 rfl rfl (by first | with_reducible assumption | rfl) ?_
            refine wp_getR (pc := 50) dX6_canOf_50 lf_X6_7 (by first | with_reducible assumption | rfl) (by first | with_reducible assumption | rfl) rfl (by first | with_reducible assumption | rfl) (by first | with_reducible assumption | rfl) ?_
            refine wp_bipush (pc := 53) (v := nI 16) dX6_canOf_53 (by decide +kernel) ?_
            refine wp_iload_n (pc := 55) (i := 1) dX6_canOf_55 rfl rfl ?_
            first | (refine wp_imulN (pc := 56) dX6_canOf_56 ?_) | (refine wp_imul (pc := 56) dX6_canOf_56 ?_)
            refine wp_iload (pc := 57) dX6_canOf_57 rfl ?_
            first | (refine wp_iaddN (pc := 59) dX6_canOf_59 ?_) | (refine wp_iadd (pc := 59) dX6_canOf_59 ?_)
            refine wp_iald (pc := 60) dX6_canOf_60 (by first | with_reducible assumption | rfl) (by first | with_reducible assumption | rfl) (by first | with_reducible assumption | omega) (by first | decide | omega) ?_
            rw [et]
            refine wp_cSP1 (pc := 61) dX6_canOf_61 lm_X6_65 m_X6_sideOf (Nat.le_of_ble_eq_true rfl) hsf2 ?_
            refine wp_iconst (pc := 64) (v := nI 1) dX6_canOf_64 (by decide +kernel) ?_
            refine wp_iload (pc := 65) dX6_canOf_65 rfl ?_
            first | (refine wp_isubN (pc := 67) dX6_canOf_67 (by first | with_reducible assumption | omega) ?_) | (refine wp_isub (pc := 67) dX6_canOf_67 ?_)
            refine wp_icmp_ne (pc := 68) (tgt := 78) dX6_canOf_68 (by decide) (fun c_68 => ?_) (fun c_68 => ?_)
            · exact absurd hn c_68
            · refine wp_iconst (pc := 71) (v := nI 1) dX6_canOf_71 (by decide +kernel) ?_
              refine wp_iload (pc := 72) dX6_canOf_72 rfl ?_
              first | (refine wp_ishl1 (pc := 74) dX6_canOf_74 (by first | with_reducible assumption | omega) ?_) | (refine wp_ishlN (pc := 74) dX6_canOf_74 (by first | with_reducible assumption | omega) (by first | with_reducible assumption | omega) ?_) | (refine wp_ishl (pc := 74) dX6_canOf_74 ?_)
              refine wp_goto (pc := 75) (tgt := 79) dX6_canOf_75 (by decide) ?_
              first | (refine wp_iorN (pc := 79) dX6_canOf_79 ?_) | (refine wp_ior (pc := 79) dX6_canOf_79 ?_)
              refine wp_istore (pc := 80) dX6_canOf_80 (by decide) ?_
              first | (refine wp_iincN (pc := 82) (m := 1) dX6_canOf_82 rfl rfl (by decide) ?_) | (refine wp_iinc (pc := 82) dX6_canOf_82 rfl rfl (by decide) ?_)
              refine wp_goto (pc := 85) (tgt := 33) dX6_canOf_85 (by decide) ?_
              exact h0
    have h00 := loop (w * h) 0 rfl
    have ez : mset (fun i => decide (i < 0) && menP b.1 (1 - sd (b.1 c)) i) = 0 := mset_zero.mpr (fun i _ => by simp)
    rw [ez] at h00
    refine call_of_wp (by decide) (Nat.le_of_ble_eq_true rfl) ?_
    refine wp_aload_n (pc := 0) (i := 0) dX6_canOf_0 rfl rfl (by first | with_reducible assumption | rfl) ?_
    refine wp_getR (pc := 1) dX6_canOf_1 lf_X6_7 (by first | with_reducible assumption | rfl) (by first | with_reducible assumption | rfl) rfl (by first | with_reducible assumption | rfl) (by first | with_reducible assumption | rfl) ?_
    refine wp_bipush (pc := 4) (v := nI 16) dX6_canOf_4 (by decide +kernel) ?_
    refine wp_iload_n (pc := 6) (i := 1) dX6_canOf_6 rfl rfl ?_
    first | (refine wp_imulN (pc := 7) dX6_canOf_7 ?_) | (refine wp_imul (pc := 7) dX6_canOf_7 ?_)
    refine wp_iload_n (pc := 8) (i := 2) dX6_canOf_8 rfl rfl ?_
    first | (refine wp_iaddN (pc := 9) dX6_canOf_9 ?_) | (refine wp_iadd (pc := 9) dX6_canOf_9 ?_)
    refine wp_iald (pc := 10) dX6_canOf_10 (by first | with_reducible assumption | rfl) (by first | with_reducible assumption | rfl) (by first | with_reducible assumption | omega) (by first | decide | omega) ?_
    rw [ec]
    refine wp_istore_n (pc := 11) (i := 3) dX6_canOf_11 rfl (by decide) ?_
    refine wp_iload_n (pc := 12) (i := 3) dX6_canOf_12 rfl rfl ?_
    refine wp_cSP1 (pc := 13) dX6_canOf_13 lm_X6_65 m_X6_sideOf (Nat.le_of_ble_eq_true rfl) hsf ?_
    refine wp_istore (pc := 16) dX6_canOf_16 (by decide) ?_
    refine wp_iload (pc := 18) dX6_canOf_18 rfl ?_
    refine wp_bipush (pc := 20) (v := (-9)) dX6_canOf_20 (by decide +kernel) ?_
    refine wp_icmp_ne (pc := 22) (tgt := 27) dX6_canOf_22 (by decide) (fun c_22 => ?_) (fun c_22 => ?_)
    · refine wp_iconst (pc := 27) (v := nI 0) dX6_canOf_27 (by decide +kernel) ?_
      refine wp_istore (pc := 28) dX6_canOf_28 (by decide) ?_
      refine wp_iconst (pc := 30) (v := nI 0) dX6_canOf_30 (by decide +kernel) ?_
      refine wp_istore (pc := 31) dX6_canOf_31 (by decide) ?_
      exact h00
    · exact absurd c_22 hne
end MGO
