/-! THE ROW OF PLIES, 2 -/
theorem anK_t {f : Nat → Option Nat} {t n N : Nat} (h : anK (fun k => f k == some t) n = true) (hf : ∀ k q, f k = some q → q < N) : t < N := by
  obtain ⟨k, -, hk⟩ := (anK_iff n).mp h
  exact hf k t (by simpa using hk)
theorem ray_t {w h k t : Nat} {F : Nat → Bool} : ∀ (n : Nat) (o : Option Nat), (∀ q, o = some q → q < w * h) → ray w h F k n o t = true → t < w * h
  | 0, _, _, hr => by simp [ray] at hr
  | _ + 1, none, _, hr => by simp [ray] at hr
  | n + 1, some q, ho, hr => by
    unfold ray at hr
    rw [Bool.or_eq_true] at hr
    rcases hr with h1 | h1
    · have e : q = t := by simpa using h1
      exact e ▸ ho q rfl
    · refine ray_t n _ (fun z hz => ?_) h1
      split at hz
      · cases hz
      · exact nbr_lt hz
theorem lin_t {w h fw c t : Nat} {F : Nat → Bool} (hr : lin w h fw F c t = true) : t < w * h := by
  obtain ⟨j, -, hj⟩ := (anK_iff 4).mp hr
  exact ray_t 3 _ (fun q hq => nbr_lt hq) hj
theorem cat_t2 {w h t : Nat} {x y : Int} (hr : (cat w h x y == some t) = true) : t < w * h := cat_lt (by simpa using hr)
theorem sla_t {w h s c t : Nat} (hr : sla w h s c t = true) : t < w * h := by
  unfold sla at hr
  rw [Bool.or_eq_true] at hr
  exact hr.elim cat_t2 cat_t2
theorem aim_t {w h s c t : Nat} {F : Nat → Bool} (hr : aimP w h s F c t = true) : t < w * h := by
  unfold aimP at hr
  split at hr
  · cases hr
  · split at hr
    · exact anK_t hr (fun k q hq => cat_lt hq)
    · exact lin_t hr
    · exact lin_t hr
    · exact anK_t hr (fun k q hq => cat_lt hq)
    · exact sla_t hr
theorem rea_t {w h c t : Nat} {g : Nat → Nat} (hr : reaP w h g c t = true) : t < w * h := by
  unfold reaP at hr
  split at hr
  · cases hr
  · rw [Bool.or_eq_true] at hr
    rcases hr with h1 | h1
    · rw [Bool.and_eq_true] at h1
      have h2 := h1.1
      unfold gngP at h2
      split at h2
      · exact cat_t2 h2
      · exact aim_t h2
    · rw [Bool.and_eq_true] at h1
      exact aim_t h1.1
theorem flt_add (P : Nat → Bool) (a m : Nat) : (List.range (a + m)).filter P = (List.range a).filter P ++ ((List.range m).filter (fun t => P (a + t))).map (fun t => a + t) := by
  rw [List.range_add, List.filter_append, List.filter_map]
  rfl
theorem flt_cut {R : Nat → Bool} {n m : Nat} (h : ∀ t, R t = true → t < n) (hn : n ≤ m) : (List.range m).filter R = (List.range n).filter R := by
  obtain ⟨k, rfl⟩ : ∃ k, m = n + k := ⟨m - n, by omega⟩
  rw [flt_add]
  have e : (List.range k).filter (fun t => R (n + t)) = [] := by
    rw [List.filter_eq_nil_iff]
    intro t _ ht
    have := h _ ht
    omega
  rw [e]; simp
theorem plL_f {w h f : Nat} {b : Bd} (hm : menP b.1 b.2.2.1 f = false) : plL w h b (16 * (f + 1)) = plL w h b (16 * f) := by
  unfold plL
  rw [Nat.mul_add, flt_add]
  have e : (List.range (16 * 1)).filter (fun t => plP w h b (16 * f + t)) = [] := by
    rw [List.filter_eq_nil_iff]
    intro t ht hp
    have ht := List.mem_range.mp ht
    unfold plP at hp
    rw [show (16 * f + t) / 16 = f by omega, hm] at hp
    cases hp
  rw [e]; simp
theorem plL_t {w h f : Nat} {b : Bd} (hwh : w * h ≤ 16) (hm : menP b.1 b.2.2.1 f = true) : plL w h b (16 * (f + 1)) = plL w h b (16 * f) ++ ((List.range (w * h)).filter (reaP w h b.1 f)).map (fun t => 16 * f + t) := by
  unfold plL
  rw [Nat.mul_add, flt_add]
  congr 2
  rw [← flt_cut (R := reaP w h b.1 f) (n := w * h) (m := 16) (fun t ht => rea_t ht) hwh]
  refine List.filter_congr (fun t ht => ?_)
  have ht := List.mem_range.mp ht
  unfold plP
  rw [show (16 * f + t) / 16 = f by omega, show (16 * f + t) % 16 = t by omega, hm]
  rfl
theorem plL_end {w h : Nat} {b : Bd} (hwh : w * h ≤ 16) (hn : ∀ c, w * h ≤ c → b.1 c = 0) : plL w h b (16 * (w * h)) = plL w h b 256 := by
  unfold plL
  refine (flt_cut (fun x hx => ?_) (by omega)).symm
  unfold plP at hx
  rw [Bool.and_eq_true] at hx
  rcases Nat.lt_or_ge (x / 16) (w * h) with h1 | h1
  · omega
  · have h2 := hx.1
    unfold menP wht blk at h2
    rw [hn _ h1] at h2
    split at h2 <;> simp at h2
section LS2
variable {d : Nat} {I : MemI} {J : MemJ}
set_option maxHeartbeats 16000000 in
theorem sp_X2_list {p w h last : Nat} {b : Bd} (hp : isP p) (hF : Fld w h last I) (hb : PL p b I J) (hs : ∀ c, c < 16 → b.1 c < 12) (hn : ∀ c, w * h ≤ c → b.1 c = 0) (ho : b.2.2.1 < 2) (hl3 : b.2.2.2 < 3) : CALL ΩC (d + 4) kX2_list [.ref p, .ref 3] I J (IQ (fun x I' J' => x = nI (PLY w h b).length ∧ I' = lsM p (PLY w h b) I ∧ J' = J)) := by
  have hwh := wh16 hF.1.2.1 hF.1.2.2.2
  have h10 : I p 10 = lsI b.2.2.2 := hb.1 10 (by omega) (by omega)
  by_cases hl : b.2.2.2 = 2
  · have e10 : ∀ l, lsM p l I p 10 = -9 := fun l => by rw [lsM_o (fun z => by omega) (fun z => by omega), h10, lsI, if_pos hl]
    have e9 : ∀ l, lsM p l I p 9 = nI b.2.2.1 := fun l => by rw [lsM_o (fun z => by omega) (fun z => by omega)]; exact hb.1 9 (by omega) (by omega)
    have e8 : ∀ l, lsM p l I 3 8 = nI (w * h) := fun l => (Fld_ls hp hF).2.2.2.2.1
    have loop : ∀ m f, m + f = w * h → WP ΩC (d + 4) kX2_list 27 [(0, .ref p), (1, .ref 3), (2, .int (nI (mset (menP b.1 b.2.2.1)))), (3, .int (nI f))] [] (lsM p (plL w h b (16 * f)) I) J (IQ (fun x I' J' => x = nI (PLY w h b).length ∧ I' = lsM p (PLY w h b) I ∧ J' = J)) := by
      obtain ⟨q1, q2, q3, q4, q5⟩ := isP_sh hp
      intro m
      induction m with
      | zero =>
        intro f hf
        have hf' : f = w * h := (Nat.zero_add f).symm.trans hf
        rw [hf', plL_end hwh hn]
        have hlen := plL_len (w := w) (h := h) (n := 256) ho (Nat.le_refl _)
        by_cases he : plL w h b 256 = []
        · have eP : PLY w h b = [256] := by unfold PLY; rw [if_neg (fun z => z hl), if_pos he]
          rw [he, eP]
          refine wp_iload_n (pc := 27) (i := 3) dX2_list_27 rfl rfl ?_
          refine wp_aload_n (pc := 28) (i := 1) dX2_list_28 rfl rfl (by first | with_reducible assumption | rfl) ?_
          refine wp_getI (pc := 29) dX2_list_29 lf_X2_99 (by first | with_reducible assumption | rfl) (by first | with_reducible assumption | rfl) rfl ?_
          rw [e8]
          first | (refine wp_icmp_geN (pc := 32) (tgt := 64) dX2_list_32 (by decide) (by first | with_reducible assumption | omega) (by first | with_reducible assumption | omega) (fun c_32 => ?_) (fun c_32 => ?_)) | (refine wp_icmp_ge (pc := 32) (tgt := 64) dX2_list_32 (by decide) (fun c_32 => ?_) (fun c_32 => ?_))
          · refine wp_aload_n (pc := 64) (i := 0) dX2_list_64 rfl rfl (by first | with_reducible assumption | rfl) ?_
            refine wp_getI (pc := 65) dX2_list_65 lf_X2_15 (by first | with_reducible assumption | rfl) (by first | with_reducible assumption | rfl) rfl ?_
            rw [lsM_2, show ([] : List Nat).length = 0 from rfl]
            refine wp_if_neN (pc := 68) (tgt := 83) dX2_list_68 (by decide) (by first | with_reducible assumption | omega) (fun c_68 => ?_) (fun c_68 => ?_)
            · exact absurd rfl c_68
            · refine wp_aload_n (pc := 71) (i := 0) dX2_list_71 rfl rfl (by first | with_reducible assumption | rfl) ?_
              refine wp_iconst (pc := 72) (v := nI 0) dX2_list_72 (by decide +kernel) ?_
              refine wp_bipush (pc := 73) (v := (-9)) dX2_list_73 (by decide +kernel) ?_
              refine wp_cVV2 (pc := 75) (ci := 2) dX2_list_75 lm_X2_114 m_X2_setPly (by first | with_reducible assumption | rfl) (by first | with_reducible assumption | rfl) (by decide) rfl (Nat.le_of_ble_eq_true rfl) (sp_X2_setPly (j := 0) hp (by decide)) (fun I_75 J_75 h_75 => ?_)
              obtain ⟨rfl, rfl⟩ := h_75
              refine wp_aload_n (pc := 78) (i := 0) dX2_list_78 rfl rfl (by first | with_reducible assumption | rfl) ?_
              refine wp_iconst (pc := 79) (v := nI 1) dX2_list_79 (by decide +kernel) ?_
              refine wp_putI (pc := 80) dX2_list_80 lf_X2_15 (by first | with_reducible assumption | rfl) (by first | with_reducible assumption | rfl) rfl rfl ?_
              have ea := lsM_add (p := p) (x := 256) (l := []) (I := I)
              rw [show uI (uI (lsM p [] I) (p + 5) 0 (-9)) p 2 (nI 1) = lsM p [256] I from ea]
              refine wp_aload_n (pc := 83) (i := 0) dX2_list_83 rfl rfl (by first | with_reducible assumption | rfl) ?_
              refine wp_getI (pc := 84) dX2_list_84 lf_X2_15 (by first | with_reducible assumption | rfl) (by first | with_reducible assumption | rfl) rfl ?_
              rw [lsM_2]
              refine wp_ireturn (pc := 87) dX2_list_87 rfl ?_
              exact iq_i ⟨rfl, rfl, rfl⟩
          · exact absurd (Nat.le_refl (w * h)) c_32
        · have eP : PLY w h b = plL w h b 256 := by unfold PLY; rw [if_neg (fun z => z hl), if_neg he]
          rw [eP]
          generalize plL w h b 256 = Ld at *
          have h0 : ¬ Ld.length = 0 := fun z => he (List.length_eq_zero_iff.mp z)
          refine wp_iload_n (pc := 27) (i := 3) dX2_list_27 rfl rfl ?_
          refine wp_aload_n (pc := 28) (i := 1) dX2_list_28 rfl rfl (by first | with_reducible assumption | rfl) ?_
          refine wp_getI (pc := 29) dX2_list_29 lf_X2_99 (by first | with_reducible assumption | rfl) (by first | with_reducible assumption | rfl) rfl ?_
          rw [e8]
          first | (refine wp_icmp_geN (pc := 32) (tgt := 64) dX2_list_32 (by decide) (by first | with_reducible assumption | omega) (by first | with_reducible assumption | omega) (fun c_32 => ?_) (fun c_32 => ?_)) | (refine wp_icmp_ge (pc := 32) (tgt := 64) dX2_list_32 (by decide) (fun c_32 => ?_) (fun c_32 => ?_))
          · refine wp_aload_n (pc := 64) (i := 0) dX2_list_64 rfl rfl (by first | with_reducible assumption | rfl) ?_
            refine wp_getI (pc := 65) dX2_list_65 lf_X2_15 (by first | with_reducible assumption | rfl) (by first | with_reducible assumption | rfl) rfl ?_
            rw [lsM_2]
            refine wp_if_neN (pc := 68) (tgt := 83) dX2_list_68 (by decide) (by first | with_reducible assumption | omega) (fun c_68 => ?_) (fun c_68 => ?_)
            · refine wp_aload_n (pc := 83) (i := 0) dX2_list_83 rfl rfl (by first | with_reducible assumption | rfl) ?_
              refine wp_getI (pc := 84) dX2_list_84 lf_X2_15 (by first | with_reducible assumption | rfl) (by first | with_reducible assumption | rfl) rfl ?_
              rw [lsM_2]
              refine wp_ireturn (pc := 87) dX2_list_87 rfl ?_
              exact iq_i ⟨rfl, rfl, rfl⟩
            · exact absurd c_68 h0
          · exact absurd (Nat.le_refl (w * h)) c_32
      | succ m ih =>
        intro f hf
        have hfn : f < w * h := by omega
        have hf16 : f < 16 := by omega
        have hm := mset_lt (menP b.1 b.2.2.1)
        have hbit := mset_bit' (menP b.1 b.2.2.1) hf16
        have hh := ih (f + 1) (by omega)
        clear ih
        refine wp_iload_n (pc := 27) (i := 3) dX2_list_27 rfl rfl ?_
        refine wp_aload_n (pc := 28) (i := 1) dX2_list_28 rfl rfl (by first | with_reducible assumption | rfl) ?_
        refine wp_getI (pc := 29) dX2_list_29 lf_X2_99 (by first | with_reducible assumption | rfl) (by first | with_reducible assumption | rfl) rfl ?_
        rw [e8]
        first | (refine wp_icmp_geN (pc := 32) (tgt := 64) dX2_list_32 (by decide) (by first | with_reducible assumption | omega) (by first | with_reducible assumption | omega) (fun c_32 => ?_) (fun c_32 => ?_)) | (refine wp_icmp_ge (pc := 32) (tgt := 64) dX2_list_32 (by decide) (fun c_32 => ?_) (fun c_32 => ?_))
        · exact absurd c_32 (by omega)
        · refine wp_iload_n (pc := 35) (i := 2) dX2_list_35 rfl rfl ?_
          refine wp_iload_n (pc := 36) (i := 3) dX2_list_36 rfl rfl ?_
          refine wp_cSP2 (pc := 37) dX2_list_37 lm_X2_102 m_X5_has (Nat.le_of_ble_eq_true rfl) (sp_X5_has (by first | with_reducible assumption | omega) (by first | with_reducible assumption | omega)) ?_
          rw [hbit]
          refine wp_if_eqB (pc := 40) (tgt := 58) dX2_list_40 (by decide) (fun c_40 => ?_) (fun c_40 => ?_)
          · first | (refine wp_iincN (pc := 58) (m := 1) dX2_list_58 rfl rfl (by decide) ?_) | (refine wp_iinc (pc := 58) dX2_list_58 rfl rfl (by decide) ?_)
            refine wp_goto (pc := 61) (tgt := 27) dX2_list_61 (by decide) ?_
            first
              | (have g1 : menP b.1 b.2.2.1 f = true := c_40
                 exact hh)
              | (have g2 : menP b.1 b.2.2.1 f = false := c_40
                 rw [plL_f g2] at hh
                 exact hh)
          · refine wp_aload_n (pc := 43) (i := 0) dX2_list_43 rfl rfl (by first | with_reducible assumption | rfl) ?_
            refine wp_iload_n (pc := 44) (i := 3) dX2_list_44 rfl rfl ?_
            refine wp_aload_n (pc := 45) (i := 0) dX2_list_45 rfl rfl (by first | with_reducible assumption | rfl) ?_
            refine wp_aload_n (pc := 46) (i := 1) dX2_list_46 rfl rfl (by first | with_reducible assumption | rfl) ?_
            refine wp_iload_n (pc := 47) (i := 3) dX2_list_47 rfl rfl ?_
            refine wp_cVP2 (pc := 48) (ci := 2) dX2_list_48 lm_X2_106 m_X2_reach (by first | with_reducible assumption | rfl) (by first | with_reducible assumption | rfl) (by decide) rfl (Nat.le_of_ble_eq_true rfl) (sp_X2_reach hp (Fld_ls hp hF) (PL_ls hp hp hb) hs hfn) ?_
            refine wp_aload_n (pc := 51) (i := 1) dX2_list_51 rfl rfl (by first | with_reducible assumption | rfl) ?_
            refine wp_getI (pc := 52) dX2_list_52 lf_X2_99 (by first | with_reducible assumption | rfl) (by first | with_reducible assumption | rfl) rfl ?_
            rw [e8]
            have hcap : (plL w h b (16 * f)).length + ((List.range (w * h)).filter (reaP w h b.1 f)).length ≤ 64 := by
              have h1 := plL_len (w := w) (h := h) (n := 16 * (f + 1)) ho (by omega)
              rw [plL_t hwh c_40, List.length_append, List.length_map] at h1
              exact h1
            refine wp_cVV3 (pc := 55) (ci := 2) dX2_list_55 lm_X2_110 m_X2_listFrom (by first | with_reducible assumption | rfl) (by first | with_reducible assumption | rfl) (by decide) rfl (Nat.le_of_ble_eq_true rfl) (sp_X2_listFrom hp hf16 hwh hcap) (fun I_55 J_55 h_55 => ?_)
            obtain ⟨rfl, rfl⟩ := h_55
            rw [← plL_t hwh c_40]
            first | (refine wp_iincN (pc := 58) (m := 1) dX2_list_58 rfl rfl (by decide) ?_) | (refine wp_iinc (pc := 58) dX2_list_58 rfl rfl (by decide) ?_)
            refine wp_goto (pc := 61) (tgt := 27) dX2_list_61 (by decide) ?_
            first
              | (have g1 : menP b.1 b.2.2.1 f = true := c_40
                 exact hh)
              | (have g2 : menP b.1 b.2.2.1 f = false := c_40
                 rw [plL_f g2] at hh
                 exact hh)
    refine call_of_wp (by decide) (Nat.le_of_ble_eq_true rfl) ?_
    obtain ⟨q1, q2, q3, q4, q5⟩ := isP_sh hp
    refine wp_aload_n (pc := 0) (i := 0) dX2_list_0 rfl rfl (by first | with_reducible assumption | rfl) ?_
    refine wp_iconst (pc := 1) (v := nI 0) dX2_list_1 (by decide +kernel) ?_
    refine wp_putI (pc := 2) dX2_list_2 lf_X2_15 (by first | with_reducible assumption | rfl) (by first | with_reducible assumption | rfl) rfl rfl ?_
    rw [lsM_0]
    refine wp_aload_n (pc := 5) (i := 0) dX2_list_5 rfl rfl (by first | with_reducible assumption | rfl) ?_
    refine wp_getI (pc := 6) dX2_list_6 lf_X2_41 (by first | with_reducible assumption | rfl) (by first | with_reducible assumption | rfl) rfl ?_
    rw [e10]
    refine wp_bipush (pc := 9) (v := (-9)) dX2_list_9 (by decide +kernel) ?_
    refine wp_icmp_eq (pc := 11) (tgt := 16) dX2_list_11 (by decide) (fun c_11 => ?_) (fun c_11 => ?_)
    · refine wp_aload_n (pc := 16) (i := 0) dX2_list_16 rfl rfl (by first | with_reducible assumption | rfl) ?_
      refine wp_aload_n (pc := 17) (i := 0) dX2_list_17 rfl rfl (by first | with_reducible assumption | rfl) ?_
      refine wp_getI (pc := 18) dX2_list_18 lf_X2_38 (by first | with_reducible assumption | rfl) (by first | with_reducible assumption | rfl) rfl ?_
      rw [e9]
      refine wp_cVP1 (pc := 21) (ci := 2) dX2_list_21 lm_X2_96 m_X2_men (by first | with_reducible assumption | rfl) (by first | with_reducible assumption | rfl) (by decide) rfl (Nat.le_of_ble_eq_true rfl) (sp_X2_men hp (PL_ls hp hp hb) ho) ?_
      refine wp_istore_n (pc := 24) (i := 2) dX2_list_24 rfl (by decide) ?_
      refine wp_iconst (pc := 25) (v := nI 0) dX2_list_25 (by decide +kernel) ?_
      refine wp_istore_n (pc := 26) (i := 3) dX2_list_26 rfl (by decide) ?_
      exact loop (w * h) 0 rfl
    · exact absurd rfl c_11
  · have e10 : lsM p [] I p 10 = nI b.2.2.2 := by rw [lsM_o (fun z => by omega) (fun z => by omega), h10, lsI, if_neg hl]
    have hne : ¬ nI b.2.2.2 = -9 := fun z => nI_pos (n := b.2.2.2) (by omega) (by rw [z]; decide)
    have eP : PLY w h b = [] := by unfold PLY; rw [if_pos hl]
    rw [eP]
    refine call_of_wp (by decide) (Nat.le_of_ble_eq_true rfl) ?_
    obtain ⟨q1, q2, q3, q4, q5⟩ := isP_sh hp
    refine wp_aload_n (pc := 0) (i := 0) dX2_list_0 rfl rfl (by first | with_reducible assumption | rfl) ?_
    refine wp_iconst (pc := 1) (v := nI 0) dX2_list_1 (by decide +kernel) ?_
    refine wp_putI (pc := 2) dX2_list_2 lf_X2_15 (by first | with_reducible assumption | rfl) (by first | with_reducible assumption | rfl) rfl rfl ?_
    rw [lsM_0]
    refine wp_aload_n (pc := 5) (i := 0) dX2_list_5 rfl rfl (by first | with_reducible assumption | rfl) ?_
    refine wp_getI (pc := 6) dX2_list_6 lf_X2_41 (by first | with_reducible assumption | rfl) (by first | with_reducible assumption | rfl) rfl ?_
    rw [e10]
    refine wp_bipush (pc := 9) (v := (-9)) dX2_list_9 (by decide +kernel) ?_
    refine wp_icmp_eq (pc := 11) (tgt := 16) dX2_list_11 (by decide) (fun c_11 => ?_) (fun c_11 => ?_)
    · exact absurd c_11 hne
    · refine wp_iconst (pc := 14) (v := nI 0) dX2_list_14 (by decide +kernel) ?_
      refine wp_ireturn (pc := 15) dX2_list_15 rfl ?_
      exact iq_i ⟨rfl, rfl, rfl⟩
end LS2
