/-! THE REFERENCE: make -/
/-- level `to` may be changed -/
def FM (to : Nat) (I I' : MemI) : Prop := ∀ a i, ¬ ((a = 1 ∨ a = 2) ∧ 16 * to ≤ i ∧ i < 16 * to + 16) → ¬ ((a = 3 ∨ a = 4) ∧ i = to) → I' a i = I a i
/-- a PLY that may be -/
def okP (n : Nat) (b : Bd) (x : Nat) : Prop := x = 256 ∨ (x < 256 ∧ x / 16 < n ∧ x % 16 < n ∧ 2 ≤ b.1 (x / 16) ∧ (b.1 (x % 16) = 0 ∨ menP b.1 (1 - b.2.2.1) (x % 16) = true))
theorem menP_s {g : Nat → Nat} {s c : Nat} (hs : s < 2) (h : menP g s c = true) : sd (g c) = s := by
  unfold menP at h
  split at h
  · rename_i h0
    have := of_decide_eq_true h
    unfold sd
    rw [if_pos this.2, h0]
  · have := of_decide_eq_true h
    unfold sd
    rw [if_neg (by omega)]
    omega
theorem plP_ok {w h x : Nat} {b : Bd} (hs : ∀ c, c < 16 → b.1 c < 12) (ho : b.2.2.1 < 2) (hz : ∀ c, w * h ≤ c → b.1 c = 0) (hx : x < 256) (hp : plP w h b x = true) : okP (w * h) b x := by
  have h1 := plP_leg hs hx hp
  rcases h1.1 with h2 | ⟨-, h3, h4⟩
  · omega
  · refine Or.inr ⟨hx, ?_, h1.2, h3, ?_⟩
    · rcases Nat.lt_or_ge (x / 16) (w * h) with k | k
      · exact k
      · have := hz _ k; omega
    · rcases h4 with h5 | h5
      · exact Or.inl h5
      · right
        unfold plP at hp
        rw [Bool.and_eq_true] at hp
        have hsd := menP_s ho hp.1
        have hr := hp.2
        unfold reaP at hr
        rw [if_neg (by omega)] at hr
        rw [Bool.or_eq_true, Bool.and_eq_true, Bool.and_eq_true, Bool.not_eq_true', ful_0, decide_eq_false_iff_not] at hr
        rcases hr with ⟨-, k⟩ | ⟨-, k⟩
        · omega
        · rw [hsd] at k; exact k
theorem PLY_ok {w h x : Nat} {b : Bd} (hB : Bok (w * h) b) (hx : x ∈ PLY w h b) : okP (w * h) b x := by
  rcases PLY_lt hx with h1 | h1
  · exact Or.inl h1
  · unfold PLY at hx
    split at hx
    · cases hx
    · split at hx
      · rw [List.mem_singleton] at hx; omega
      · unfold plL at hx
        rw [List.mem_filter] at hx
        exact plP_ok hB.1 hB.2.2.2.1 hB.2.2.2.2.2 h1 hx.2
theorem okP_leg {n x : Nat} {b : Bd} (h : okP n b x) : legX b x ∧ (x = 256 ∨ x % 16 < n) := by
  rcases h with h | ⟨h1, h2, h3, h4, h5⟩
  · exact ⟨Or.inl h, Or.inl h⟩
  · exact ⟨Or.inr ⟨h1, h4, h5.elim Or.inl (fun z => Or.inr (menP_2 z))⟩, Or.inr h3⟩
theorem asc_75 : ∀ s, s < 12 → (asc s = 75 ↔ s = 2) := by decide +kernel
theorem asc_107 : ∀ s, s < 12 → (asc s = 107 ↔ s = 7) := by decide +kernel
theorem kdA_75 : ∀ s, s < 12 → (kdA s = 75 ↔ (s = 2 ∨ s = 7)) := by decide +kernel
/-- a king of a side on a cell -/
def kgs (g : Nat → Nat) (s c : Nat) : Bool := kng g c && menP g s c
theorem kgs_0 {g : Nat → Nat} {c : Nat} : kgs g 0 c = decide (g c = 2) := by
  unfold kgs kng menP wht
  rw [if_pos rfl, ← Bool.decide_and]
  exact decide_eq_decide.mpr (by omega)
theorem kgs_1 {g : Nat → Nat} {c : Nat} : kgs g 1 c = decide (g c = 7) := by
  unfold kgs kng menP blk
  rw [if_neg (by decide), ← Bool.decide_and]
  exact decide_eq_decide.mpr (by omega)
theorem hasK_an {g : Nat → Nat} {s n : Nat} (hn : n ≤ 16) (hz : ∀ c, n ≤ c → g c = 0) : hasK g s = anK (kgs g s) n := by
  rw [Bool.eq_iff_iff, anK_iff]
  unfold hasK
  rw [decide_eq_true_iff]
  constructor
  · intro h
    rcases Classical.em (∃ k, k < n ∧ kgs g s k = true) with h1 | h1
    · exact h1
    · refine absurd (mset_zero.mpr fun c _ => ?_) h
      show kgs g s c = false
      cases hk : kgs g s c
      · rfl
      · rcases Nat.lt_or_ge c n with z | z
        · exact absurd ⟨c, z, hk⟩ h1
        · have := hz c z
          unfold kgs kng at hk
          rw [Bool.and_eq_true] at hk
          have := of_decide_eq_true hk.1
          omega
  · rintro ⟨k, hk, h1⟩ h2
    have h3 : kgs g s k = false := mset_zero.mp h2 k (by omega)
    rw [h1] at h3; cases h3
section MMK
variable {d : Nat} {I : MemI} {J : MemJ}
set_option maxHeartbeats 16000000 in
theorem sp_X6_hasKing {w h k s : Nat} {g : Nat → Nat} (hW : WH w h I) (hc : ∀ c, c < w * h → I 1 (16 * k + c) = nI (asc (g c))) (hs : ∀ c, c < 16 → g c < 12) (hk : k < 4) (hs2 : s < 2) : CALL ΩM d kX6_hasKing [.ref 0, .int (nI k), .int (nI s)] I J (PQ (.int (bI (anK (kgs g s) (w * h)))) I J) := by
  have n16 := (WH_n hW).2
  have e0 := hW.2.1
  have e1 := hW.2.2
  have loop : ∀ m c, m + c = w * h → WP ΩM d kX6_hasKing 5 [(0, .ref 0), (1, .int (nI k)), (2, .int (nI s)), (3, .int (bI (anK (kgs g s) c))), (4, .int (nI c))] [] I J (PQ (.int (bI (anK (kgs g s) (w * h)))) I J) := by
    intro m
    induction m with
    | zero =>
      intro c hcc
      have hc' : c = w * h := (Nat.zero_add c).symm.trans hcc
      rw [hc']
      refine wp_iload (pc := 5) dX6_hasKing_5 rfl ?_
      refine wp_aload_n (pc := 7) (i := 0) dX6_hasKing_7 rfl rfl (by first | with_reducible assumption | rfl) ?_
      refine wp_getI (pc := 8) dX6_hasKing_8 lf_X6_47 (by first | with_reducible assumption | rfl) (by first | with_reducible assumption | rfl) rfl ?_
      rw [e0]
      refine wp_aload_n (pc := 11) (i := 0) dX6_hasKing_11 rfl rfl (by first | with_reducible assumption | rfl) ?_
      refine wp_getI (pc := 12) dX6_hasKing_12 lf_X6_51 (by first | with_reducible assumption | rfl) (by first | with_reducible assumption | rfl) rfl ?_
      rw [e1]
      first | (refine wp_imulN (pc := 15) dX6_hasKing_15 ?_) | (refine wp_imul (pc := 15) dX6_hasKing_15 ?_)
      first | (refine wp_icmp_geN (pc := 16) (tgt := 61) dX6_hasKing_16 (by decide) (by first | with_reducible assumption | omega) (by first | with_reducible assumption | omega) (fun c_16 => ?_) (fun c_16 => ?_)) | (refine wp_icmp_ge (pc := 16) (tgt := 61) dX6_hasKing_16 (by decide) (fun c_16 => ?_) (fun c_16 => ?_))
      · refine wp_iload_n (pc := 61) (i := 3) dX6_hasKing_61 rfl rfl ?_
        refine wp_zreturn (pc := 62) dX6_hasKing_62 rfl (by first | exact bI_narrow _ | exact nI_narrow01 (by omega) | decide +kernel | assumption) ?_
        exact pq_i rfl
      · exact absurd (Nat.le_refl _) c_16
    | succ m ih =>
      intro c hcc
      have hcn : c < w * h := by omega
      have ec := hc c hcn
      have hsc := hs c (by omega)
      have hac := asc_lt (g c)
      have h0 := ih (c + 1) (by omega)
      rw [anK_s] at h0
      clear ih
      cases ha : anK (kgs g s) c
      · rw [ha, Bool.false_or] at h0
        rcases (show s = 0 ∨ s = 1 by omega) with rfl | rfl
        · rw [kgs_0] at h0
          have hh := asc_75 _ hsc
          refine wp_iload (pc := 5) dX6_hasKing_5 rfl ?_
          refine wp_aload_n (pc := 7) (i := 0) dX6_hasKing_7 rfl rfl (by first | with_reducible assumption | rfl) ?_
          refine wp_getI (pc := 8) dX6_hasKing_8 lf_X6_47 (by first | with_reducible assumption | rfl) (by first | with_reducible assumption | rfl) rfl ?_
          rw [e0]
          refine wp_aload_n (pc := 11) (i := 0) dX6_hasKing_11 rfl rfl (by first | with_reducible assumption | rfl) ?_
          refine wp_getI (pc := 12) dX6_hasKing_12 lf_X6_51 (by first | with_reducible assumption | rfl) (by first | with_reducible assumption | rfl) rfl ?_
          rw [e1]
          first | (refine wp_imulN (pc := 15) dX6_hasKing_15 ?_) | (refine wp_imul (pc := 15) dX6_hasKing_15 ?_)
          first | (refine wp_icmp_geN (pc := 16) (tgt := 61) dX6_hasKing_16 (by decide) (by first | with_reducible assumption | omega) (by first | with_reducible assumption | omega) (fun c_16 => ?_) (fun c_16 => ?_)) | (refine wp_icmp_ge (pc := 16) (tgt := 61) dX6_hasKing_16 (by decide) (fun c_16 => ?_) (fun c_16 => ?_))
          · exact absurd c_16 (by omega)
          · refine wp_iload_n (pc := 19) (i := 3) dX6_hasKing_19 rfl rfl ?_
            refine wp_if_neB (pc := 20) (tgt := 49) dX6_hasKing_20 (by decide) (fun c_20 => ?_) (fun c_20 => ?_)
            · exact Bool.noConfusion c_20
            · refine wp_aload_n (pc := 23) (i := 0) dX6_hasKing_23 rfl rfl (by first | with_reducible assumption | rfl) ?_
              refine wp_getR (pc := 24) dX6_hasKing_24 lf_X6_7 (by first | with_reducible assumption | rfl) (by first | with_reducible assumption | rfl) rfl (by first | with_reducible assumption | rfl) (by first | with_reducible assumption | rfl) ?_
              refine wp_bipush (pc := 27) (v := nI 16) dX6_hasKing_27 (by decide +kernel) ?_
              refine wp_iload_n (pc := 29) (i := 1) dX6_hasKing_29 rfl rfl ?_
              first | (refine wp_imulN (pc := 30) dX6_hasKing_30 ?_) | (refine wp_imul (pc := 30) dX6_hasKing_30 ?_)
              refine wp_iload (pc := 31) dX6_hasKing_31 rfl ?_
              first | (refine wp_iaddN (pc := 33) dX6_hasKing_33 ?_) | (refine wp_iadd (pc := 33) dX6_hasKing_33 ?_)
              refine wp_iald (pc := 34) dX6_hasKing_34 (by first | with_reducible assumption | rfl) (by first | with_reducible assumption | rfl) (by first | with_reducible assumption | omega) (by first | decide | omega) ?_
              rw [ec]
              refine wp_iload_n (pc := 35) (i := 2) dX6_hasKing_35 rfl rfl ?_
              refine wp_if_neN (pc := 36) (tgt := 44) dX6_hasKing_36 (by decide) (by first | with_reducible assumption | omega) (fun c_36 => ?_) (fun c_36 => ?_)
              · exact absurd rfl c_36
              · refine wp_bipush (pc := 39) (v := nI 75) dX6_hasKing_39 (by decide +kernel) ?_
                refine wp_goto (pc := 41) (tgt := 46) dX6_hasKing_41 (by decide) ?_
                first | (refine wp_icmp_neN (pc := 46) (tgt := 53) dX6_hasKing_46 (by decide) (by first | with_reducible assumption | omega) (by first | with_reducible assumption | omega) (fun c_46 => ?_) (fun c_46 => ?_)) | (refine wp_icmp_ne (pc := 46) (tgt := 53) dX6_hasKing_46 (by decide) (fun c_46 => ?_) (fun c_46 => ?_))
                · refine wp_iconst (pc := 53) (v := nI 0) dX6_hasKing_53 (by decide +kernel) ?_
                  refine wp_istore_n (pc := 54) (i := 3) dX6_hasKing_54 rfl (by decide) ?_
                  first | (refine wp_iincN (pc := 55) (m := 1) dX6_hasKing_55 rfl rfl (by decide) ?_) | (refine wp_iinc (pc := 55) dX6_hasKing_55 rfl rfl (by decide) ?_)
                  refine wp_goto (pc := 58) (tgt := 5) dX6_hasKing_58 (by decide) ?_
                  first
                    | (have q : asc (g c) = 75 := c_46; rw [decide_eq_true (hh.mp q), bI_t] at h0; exact h0)
                    | (have q : ¬ asc (g c) = 75 := c_46; rw [decide_eq_false (fun y => q (hh.mpr y)), bI_f] at h0; exact h0)
                · refine wp_iconst (pc := 49) (v := nI 1) dX6_hasKing_49 (by decide +kernel) ?_
                  refine wp_goto (pc := 50) (tgt := 54) dX6_hasKing_50 (by decide) ?_
                  refine wp_istore_n (pc := 54) (i := 3) dX6_hasKing_54 rfl (by decide) ?_
                  first | (refine wp_iincN (pc := 55) (m := 1) dX6_hasKing_55 rfl rfl (by decide) ?_) | (refine wp_iinc (pc := 55) dX6_hasKing_55 rfl rfl (by decide) ?_)
                  refine wp_goto (pc := 58) (tgt := 5) dX6_hasKing_58 (by decide) ?_
                  first
                    | (have q : asc (g c) = 75 := c_46; rw [decide_eq_true (hh.mp q), bI_t] at h0; exact h0)
                    | (have q : ¬ asc (g c) = 75 := c_46; rw [decide_eq_false (fun y => q (hh.mpr y)), bI_f] at h0; exact h0)
        · rw [kgs_1] at h0
          have hh := asc_107 _ hsc
          refine wp_iload (pc := 5) dX6_hasKing_5 rfl ?_
          refine wp_aload_n (pc := 7) (i := 0) dX6_hasKing_7 rfl rfl (by first | with_reducible assumption | rfl) ?_
          refine wp_getI (pc := 8) dX6_hasKing_8 lf_X6_47 (by first | with_reducible assumption | rfl) (by first | with_reducible assumption | rfl) rfl ?_
          rw [e0]
          refine wp_aload_n (pc := 11) (i := 0) dX6_hasKing_11 rfl rfl (by first | with_reducible assumption | rfl) ?_
          refine wp_getI (pc := 12) dX6_hasKing_12 lf_X6_51 (by first | with_reducible assumption | rfl) (by first | with_reducible assumption | rfl) rfl ?_
          rw [e1]
          first | (refine wp_imulN (pc := 15) dX6_hasKing_15 ?_) | (refine wp_imul (pc := 15) dX6_hasKing_15 ?_)
          first | (refine wp_icmp_geN (pc := 16) (tgt := 61) dX6_hasKing_16 (by decide) (by first | with_reducible assumption | omega) (by first | with_reducible assumption | omega) (fun c_16 => ?_) (fun c_16 => ?_)) | (refine wp_icmp_ge (pc := 16) (tgt := 61) dX6_hasKing_16 (by decide) (fun c_16 => ?_) (fun c_16 => ?_))
          · exact absurd c_16 (by omega)
          · refine wp_iload_n (pc := 19) (i := 3) dX6_hasKing_19 rfl rfl ?_
            refine wp_if_neB (pc := 20) (tgt := 49) dX6_hasKing_20 (by decide) (fun c_20 => ?_) (fun c_20 => ?_)
            · exact Bool.noConfusion c_20
            · refine wp_aload_n (pc := 23) (i := 0) dX6_hasKing_23 rfl rfl (by first | with_reducible assumption | rfl) ?_
              refine wp_getR (pc := 24) dX6_hasKing_24 lf_X6_7 (by first | with_reducible assumption | rfl) (by first | with_reducible assumption | rfl) rfl (by first | with_reducible assumption | rfl) (by first | with_reducible assumption | rfl) ?_
              refine wp_bipush (pc := 27) (v := nI 16) dX6_hasKing_27 (by decide +kernel) ?_
              refine wp_iload_n (pc := 29) (i := 1) dX6_hasKing_29 rfl rfl ?_
              first | (refine wp_imulN (pc := 30) dX6_hasKing_30 ?_) | (refine wp_imul (pc := 30) dX6_hasKing_30 ?_)
              refine wp_iload (pc := 31) dX6_hasKing_31 rfl ?_
              first | (refine wp_iaddN (pc := 33) dX6_hasKing_33 ?_) | (refine wp_iadd (pc := 33) dX6_hasKing_33 ?_)
              refine wp_iald (pc := 34) dX6_hasKing_34 (by first | with_reducible assumption | rfl) (by first | with_reducible assumption | rfl) (by first | with_reducible assumption | omega) (by first | decide | omega) ?_
              rw [ec]
              refine wp_iload_n (pc := 35) (i := 2) dX6_hasKing_35 rfl rfl ?_
              refine wp_if_neN (pc := 36) (tgt := 44) dX6_hasKing_36 (by decide) (by first | with_reducible assumption | omega) (fun c_36 => ?_) (fun c_36 => ?_)
              · refine wp_bipush (pc := 44) (v := nI 107) dX6_hasKing_44 (by decide +kernel) ?_
                first | (refine wp_icmp_neN (pc := 46) (tgt := 53) dX6_hasKing_46 (by decide) (by first | with_reducible assumption | omega) (by first | with_reducible assumption | omega) (fun c_46 => ?_) (fun c_46 => ?_)) | (refine wp_icmp_ne (pc := 46) (tgt := 53) dX6_hasKing_46 (by decide) (fun c_46 => ?_) (fun c_46 => ?_))
                · refine wp_iconst (pc := 53) (v := nI 0) dX6_hasKing_53 (by decide +kernel) ?_
                  refine wp_istore_n (pc := 54) (i := 3) dX6_hasKing_54 rfl (by decide) ?_
                  first | (refine wp_iincN (pc := 55) (m := 1) dX6_hasKing_55 rfl rfl (by decide) ?_) | (refine wp_iinc (pc := 55) dX6_hasKing_55 rfl rfl (by decide) ?_)
                  refine wp_goto (pc := 58) (tgt := 5) dX6_hasKing_58 (by decide) ?_
                  first
                    | (have q : asc (g c) = 107 := c_46; rw [decide_eq_true (hh.mp q), bI_t] at h0; exact h0)
                    | (have q : ¬ asc (g c) = 107 := c_46; rw [decide_eq_false (fun y => q (hh.mpr y)), bI_f] at h0; exact h0)
                · refine wp_iconst (pc := 49) (v := nI 1) dX6_hasKing_49 (by decide +kernel) ?_
                  refine wp_goto (pc := 50) (tgt := 54) dX6_hasKing_50 (by decide) ?_
                  refine wp_istore_n (pc := 54) (i := 3) dX6_hasKing_54 rfl (by decide) ?_
                  first | (refine wp_iincN (pc := 55) (m := 1) dX6_hasKing_55 rfl rfl (by decide) ?_) | (refine wp_iinc (pc := 55) dX6_hasKing_55 rfl rfl (by decide) ?_)
                  refine wp_goto (pc := 58) (tgt := 5) dX6_hasKing_58 (by decide) ?_
                  first
                    | (have q : asc (g c) = 107 := c_46; rw [decide_eq_true (hh.mp q), bI_t] at h0; exact h0)
                    | (have q : ¬ asc (g c) = 107 := c_46; rw [decide_eq_false (fun y => q (hh.mpr y)), bI_f] at h0; exact h0)
              · exact absurd c_36 (by decide)
      · rw [ha, Bool.true_or, bI_t] at h0
        refine wp_iload (pc := 5) dX6_hasKing_5 rfl ?_
        refine wp_aload_n (pc := 7) (i := 0) dX6_hasKing_7 rfl rfl (by first | with_reducible assumption | rfl) ?_
        refine wp_getI (pc := 8) dX6_hasKing_8 lf_X6_47 (by first | with_reducible assumption | rfl) (by first | with_reducible assumption | rfl) rfl ?_
        rw [e0]
        refine wp_aload_n (pc := 11) (i := 0) dX6_hasKing_11 rfl rfl (by first | with_reducible assumption | rfl) ?_
        refine wp_getI (pc := 12) dX6_hasKing_12 lf_X6_51 (by first | with_reducible assumption | rfl) (by first | with_reducible assumption | rfl) rfl ?_
        rw [e1]
        first | (refine wp_imulN (pc := 15) dX6_hasKing_15 ?_) | (refine wp_imul (pc := 15) dX6_hasKing_15 ?_)
        first | (refine wp_icmp_geN (pc := 16) (tgt := 61) dX6_hasKing_16 (by decide) (by first | with_reducible assumption | omega) (by first | with_reducible assumption | omega) (fun c_16 => ?_) (fun c_16 => ?_)) | (refine wp_icmp_ge (pc := 16) (tgt := 61) dX6_hasKing_16 (by decide) (fun c_16 => ?_) (fun c_16 => ?_))
        · exact absurd c_16 (by omega)
        · refine wp_iload_n (pc := 19) (i := 3) dX6_hasKing_19 rfl rfl ?_
          refine wp_if_neB (pc := 20) (tgt := 49) dX6_hasKing_20 (by decide) (fun c_20 => ?_) (fun c_20 => ?_)
          · refine wp_iconst (pc := 49) (v := nI 1) dX6_hasKing_49 (by decide +kernel) ?_
            refine wp_goto (pc := 50) (tgt := 54) dX6_hasKing_50 (by decide) ?_
            refine wp_istore_n (pc := 54) (i := 3) dX6_hasKing_54 rfl (by decide) ?_
            first | (refine wp_iincN (pc := 55) (m := 1) dX6_hasKing_55 rfl rfl (by decide) ?_) | (refine wp_iinc (pc := 55) dX6_hasKing_55 rfl rfl (by decide) ?_)
            refine wp_goto (pc := 58) (tgt := 5) dX6_hasKing_58 (by decide) ?_
            exact h0
          · exact Bool.noConfusion c_20
  have h00 := loop (w * h) 0 rfl
  rw [show anK (kgs g s) 0 = false from rfl, bI_f] at h00
  refine call_of_wp (by decide) (Nat.le_of_ble_eq_true rfl) ?_
  refine wp_iconst (pc := 0) (v := nI 0) dX6_hasKing_0 (by decide +kernel) ?_
  refine wp_istore_n (pc := 1) (i := 3) dX6_hasKing_1 rfl (by decide) ?_
  refine wp_iconst (pc := 2) (v := nI 0) dX6_hasKing_2 (by decide +kernel) ?_
  refine wp_istore (pc := 3) dX6_hasKing_3 (by decide) ?_
  exact h00
/-- while the cells are copied -/
def CPY (n lv to c : Nat) (b : Bd) (I I2 : MemI) : Prop := (∀ j, c ≤ j → j < 16 → I2 1 (16 * lv + j) = nI (ccd n b.1 j) ∧ I2 2 (16 * lv + j) = nI (b.2.1 j)) ∧ (∀ j, j < c → j < 16 → I2 1 (16 * to + j) = nI (ccd n (ageG b) j) ∧ I2 2 (16 * to + j) = nI (ageT b j)) ∧ ∀ a i, ¬ ((a = 1 ∨ a = 2) ∧ 16 * to ≤ i ∧ i < 16 * to + 16) → I2 a i = I a i
theorem CPY_s {n lv to c : Nat} {b : Bd} {I I2 : MemI} (h : CPY n lv to c b I I2) (hc : c < 16) : CPY n lv to (c + 1) b I (uI (uI I2 1 (16 * to + c) (nI (ccd n (ageG b) c))) 2 (16 * to + c) (nI (ageT b c))) := by
  obtain ⟨h1, h2, h3⟩ := h
  refine ⟨fun j z1 z2 => ?_, fun j z1 z2 => ?_, fun a i z => ?_⟩
  · have : ¬ 16 * lv + j = 16 * to + c := by omega
    have := h1 j (by omega) z2
    simp [uI, *]
  · by_cases e : j = c
    · subst e
      simp [uI]
    · have := h2 j (by omega) z2
      simp [uI, e, this]
  · have y1 : ¬ (a = 2 ∧ i = 16 * to + c) := fun y => z ⟨Or.inr y.1, by omega, by omega⟩
    have y2 : ¬ (a = 1 ∧ i = 16 * to + c) := fun y => z ⟨Or.inl y.1, by omega, by omega⟩
    rw [← h3 a i z]
    show (if a = 2 ∧ i = 16 * to + c then _ else (if a = 1 ∧ i = 16 * to + c then _ else I2 a i)) = I2 a i
    rw [if_neg y1, if_neg y2]
/-- behind the copying: on, lost, the PLY itself -/
theorem mk_tail {w h last lv to x : Nat} {b : Bd} {I3 : MemI} (hW : WH w h I3) (hla : I3 0 2 = nI last) (hB : Bok (w * h) b) (hl : b.2.2.2 = 2) (hok : okP (w * h) b x) (hto : to < 4) (hK : ∀ c, c < 16 → I3 1 (16 * to + c) = nI (ccd (w * h) (ageG b) c) ∧ I3 2 (16 * to + c) = nI (ageT b c)) (h3 : I3 3 to = nI (1 - b.2.2.1)) (h4 : I3 4 to = -9) : WP ΩM (d + 3) kX6_make 127 [(0, .ref 0), (1, .int (nI lv)), (2, .int (nI to)), (3, .int (nI (encM x))), (4, .int (nI b.2.2.1))] [] I3 J (IQ (fun r I' J' => r = bI (felB b x) ∧ LX (w * h) to (mkB last b x) I' ∧ FM to I3 I' ∧ J' = J)) := by
  have n16 := (WH_n hW).2
  have ho := hB.2.2.2.1
  by_cases hx : x = 256
  · have eM : mkB last b x = (ageG b, ageT b, 1 - b.2.2.1, b.2.2.2) := by unfold mkB; rw [if_pos hx]
    have ef : felB b x = false := by unfold felB; rw [decide_eq_true hx]; rfl
    have ee : encM x = 999 := if_pos hx
    rw [eM, ef, ee]
    refine wp_iload_n (pc := 127) (i := 3) dX6_make_127 rfl rfl ?_
    refine wp_sipush (pc := 128) (v := nI 999) dX6_make_128 (by decide +kernel) ?_
    first | (refine wp_icmp_neN (pc := 131) (tgt := 136) dX6_make_131 (by decide) (by first | with_reducible assumption | omega) (by first | with_reducible assumption | omega) (fun c_131 => ?_) (fun c_131 => ?_)) | (refine wp_icmp_ne (pc := 131) (tgt := 136) dX6_make_131 (by decide) (fun c_131 => ?_) (fun c_131 => ?_))
    · exact absurd rfl c_131
    · refine wp_iconst (pc := 134) (v := nI 0) dX6_make_134 (by decide +kernel) ?_
      refine wp_ireturn (pc := 135) dX6_make_135 rfl ?_
      refine iq_i ⟨rfl, ⟨hK, h3, ?_⟩, fun _ _ _ _ => rfl, rfl⟩
      rw [h4]
      show (-9 : Int32) = lsI b.2.2.2
      rw [hl]; rfl
  · obtain ⟨hx2, hfn, htn, hf2, ht2⟩ := hok.resolve_left hx
    have ee : encM x = x := if_neg hx
    have eM : mkB last b x = if ageG b (x % 16) = 0 then (up (up (ageG b) (x % 16) (ageG b (x / 16))) (x / 16) 0, ageT b, 1 - b.2.2.1, b.2.2.2) else fal last (ageG b, ageT b, 1 - b.2.2.1, b.2.2.2) (x % 16) := by
      unfold mkB
      rw [if_neg hx]
    have ef : felB b x = thr b (x % 16) := by unfold felB; rw [decide_eq_false hx]; rfl
    rw [eM, ef, ee]
    clear eM ef ee
    have hf16 : x / 16 < 16 := by omega
    have ht16 : x % 16 < 16 := by omega
    have hxl : x < 2147483648 := by omega
    have hx999 : ¬ x = 999 := by omega
    clear hok hx
    have agf : ∀ c, c < 16 → ¬ b.1 c = 1 → ageG b c = b.1 c := fun c h1 h2 => by
      unfold ageG
      rw [if_neg (fun z => h2 (hB.2.2.1 c h1 (by omega)))]
    have ht1 : ¬ b.1 (x % 16) = 1 := by
      rcases ht2 with z | z
      · omega
      · have := menP_2 z; omega
    have eGt := agf _ ht16 ht1
    have eGf := agf _ hf16 (by omega)
    have hst := hB.1 _ ht16
    have hat := asc_lt (b.1 (x % 16))
    have kt := (hK _ ht16).1
    have kf := (hK _ hf16).1
    have ct : ccd (w * h) (ageG b) (x % 16) = asc (b.1 (x % 16)) := by unfold ccd; rw [if_pos htn, eGt]
    have cf : ccd (w * h) (ageG b) (x / 16) = asc (b.1 (x / 16)) := by unfold ccd; rw [if_pos hfn, eGf]
    rw [ct] at kt
    rw [cf] at kf
    rw [eGt, eGf]
    have hsf := sp_X6_sideOf (Ω := ΩM) (d := d + 2) (I := I3) (J := J) (b := asc (b.1 (x % 16))) (by omega)
    rw [sdB_asc _ hst] at hsf
    have hzG : ∀ c, w * h ≤ c → ageG b c = 0 := fun c hc => by
      have := hB.2.2.2.2.2 c hc
      unfold ageG
      split
      · rfl
      · exact this
    by_cases h0 : b.1 (x % 16) = 0
    · rw [if_pos h0]
      have e9 : sdI (b.1 (x % 16)) = -9 := by unfold sdI; rw [if_pos (by omega)]
      have eT : thr b (x % 16) = false := by
        unfold thr kng
        rw [h0]
        rfl
      rw [e9] at hsf
      rw [eT]
      have hfin : LX (w * h) to (up (up (ageG b) (x % 16) (b.1 (x / 16))) (x / 16) 0, ageT b, 1 - b.2.2.1, b.2.2.2) (uI (uI I3 1 (16 * to + x % 16) (nI (asc (b.1 (x / 16))))) 1 (16 * to + x / 16) (nI 46)) := by
        refine ⟨fun c hc => ⟨?_, ?_⟩, ?_, ?_⟩
        · show (if 1 = 1 ∧ 16 * to + c = 16 * to + x / 16 then nI 46 else (if 1 = 1 ∧ 16 * to + c = 16 * to + x % 16 then nI (asc (b.1 (x / 16))) else I3 1 (16 * to + c))) = nI (ccd (w * h) (up (up (ageG b) (x % 16) (b.1 (x / 16))) (x / 16) 0) c)
          by_cases e1 : c = x / 16
          · rw [if_pos ⟨rfl, by omega⟩]
            unfold ccd
            rw [if_pos (by omega), e1, up_s]
            rfl
          · rw [if_neg (fun y => e1 (by omega))]
            by_cases e2 : c = x % 16
            · rw [if_pos ⟨rfl, by omega⟩]
              unfold ccd
              rw [if_pos (by omega), up_n e1, e2, up_s]
            · rw [if_neg (fun y => e2 (by omega)), (hK c hc).1]
              unfold ccd
              rw [up_n e1, up_n e2]
        · show (if 2 = 1 ∧ _ then _ else (if 2 = 1 ∧ _ then _ else I3 2 (16 * to + c))) = _
          rw [if_neg (fun y => by have := y.1; omega), if_neg (fun y => by have := y.1; omega)]
          exact (hK c hc).2
        · show I3 3 to = _
          exact h3
        · show I3 4 to = lsI b.2.2.2
          rw [h4, hl]; rfl
      have hF : FM to I3 (uI (uI I3 1 (16 * to + x % 16) (nI (asc (b.1 (x / 16))))) 1 (16 * to + x / 16) (nI 46)) := fun a i z1 z2 => by
        show (if a = 1 ∧ i = 16 * to + x / 16 then nI 46 else (if a = 1 ∧ i = 16 * to + x % 16 then _ else I3 a i)) = I3 a i
        rw [if_neg (fun y => z1 ⟨Or.inl y.1, by omega, by omega⟩), if_neg (fun y => z1 ⟨Or.inl y.1, by omega, by omega⟩)]
      generalize hFF : x / 16 = F at *
      generalize hTT : x % 16 = T at *
      refine wp_iload_n (pc := 127) (i := 3) dX6_make_127 rfl rfl ?_
      refine wp_sipush (pc := 128) (v := nI 999) dX6_make_128 (by decide +kernel) ?_
      first | (refine wp_icmp_neN (pc := 131) (tgt := 136) dX6_make_131 (by decide) (by first | with_reducible assumption | omega) (by first | with_reducible assumption | omega) (fun c_131 => ?_) (fun c_131 => ?_)) | (refine wp_icmp_ne (pc := 131) (tgt := 136) dX6_make_131 (by decide) (fun c_131 => ?_) (fun c_131 => ?_))
      · refine wp_bipush (pc := 136) (v := nI 16) dX6_make_136 (by decide +kernel) ?_
        refine wp_iload_n (pc := 138) (i := 2) dX6_make_138 rfl rfl ?_
        first | (refine wp_imulN (pc := 139) dX6_make_139 ?_) | (refine wp_imul (pc := 139) dX6_make_139 ?_)
        refine wp_iload_n (pc := 140) (i := 3) dX6_make_140 rfl rfl ?_
        refine wp_bipush (pc := 141) (v := nI 16) dX6_make_141 (by decide +kernel) ?_
        refine wp_idivN (pc := 143) dX6_make_143 (by first | with_reducible assumption | omega) (by first | with_reducible assumption | omega) (by first | with_reducible assumption | omega) ?_
        rw [hFF]
        first | (refine wp_iaddN (pc := 144) dX6_make_144 ?_) | (refine wp_iadd (pc := 144) dX6_make_144 ?_)
        refine wp_istore (pc := 145) dX6_make_145 (by decide) ?_
        refine wp_bipush (pc := 147) (v := nI 16) dX6_make_147 (by decide +kernel) ?_
        refine wp_iload_n (pc := 149) (i := 2) dX6_make_149 rfl rfl ?_
        first | (refine wp_imulN (pc := 150) dX6_make_150 ?_) | (refine wp_imul (pc := 150) dX6_make_150 ?_)
        refine wp_iload_n (pc := 151) (i := 3) dX6_make_151 rfl rfl ?_
        refine wp_bipush (pc := 152) (v := nI 16) dX6_make_152 (by decide +kernel) ?_
        refine wp_iremN (pc := 154) dX6_make_154 (by first | with_reducible assumption | omega) (by first | with_reducible assumption | omega) (by first | with_reducible assumption | omega) ?_
        rw [hTT]
        first | (refine wp_iaddN (pc := 155) dX6_make_155 ?_) | (refine wp_iadd (pc := 155) dX6_make_155 ?_)
        refine wp_istore (pc := 156) dX6_make_156 (by decide) ?_
        refine wp_aload_n (pc := 158) (i := 0) dX6_make_158 rfl rfl (by first | with_reducible assumption | rfl) ?_
        refine wp_getR (pc := 159) dX6_make_159 lf_X6_7 (by first | with_reducible assumption | rfl) (by first | with_reducible assumption | rfl) rfl (by first | with_reducible assumption | rfl) (by first | with_reducible assumption | rfl) ?_
        refine wp_iload (pc := 162) dX6_make_162 rfl ?_
        refine wp_iald (pc := 164) dX6_make_164 (by first | with_reducible assumption | rfl) (by first | with_reducible assumption | rfl) (by first | with_reducible assumption | omega) (by first | decide | omega) ?_
        rw [kt]
        refine wp_istore (pc := 165) dX6_make_165 (by decide) ?_
        refine wp_iload (pc := 167) dX6_make_167 rfl ?_
        refine wp_cSP1 (pc := 169) dX6_make_169 lm_X6_65 m_X6_sideOf (Nat.le_of_ble_eq_true rfl) hsf ?_
        refine wp_bipush (pc := 172) (v := (-9)) dX6_make_172 (by decide +kernel) ?_
        refine wp_icmp_ne (pc := 174) (tgt := 202) dX6_make_174 (by decide) (fun c_174 => ?_) (fun c_174 => ?_)
        · exact absurd rfl c_174
        · refine wp_aload_n (pc := 177) (i := 0) dX6_make_177 rfl rfl (by first | with_reducible assumption | rfl) ?_
          refine wp_getR (pc := 178) dX6_make_178 lf_X6_7 (by first | with_reducible assumption | rfl) (by first | with_reducible assumption | rfl) rfl (by first | with_reducible assumption | rfl) (by first | with_reducible assumption | rfl) ?_
          refine wp_iload (pc := 181) dX6_make_181 rfl ?_
          refine wp_aload_n (pc := 183) (i := 0) dX6_make_183 rfl rfl (by first | with_reducible assumption | rfl) ?_
          refine wp_getR (pc := 184) dX6_make_184 lf_X6_7 (by first | with_reducible assumption | rfl) (by first | with_reducible assumption | rfl) rfl (by first | with_reducible assumption | rfl) (by first | with_reducible assumption | rfl) ?_
          refine wp_iload (pc := 187) dX6_make_187 rfl ?_
          refine wp_iald (pc := 189) dX6_make_189 (by first | with_reducible assumption | rfl) (by first | with_reducible assumption | rfl) (by first | with_reducible assumption | omega) (by first | decide | omega) ?_
          rw [kf]
          refine wp_iast (pc := 190) dX6_make_190 (by first | with_reducible assumption | rfl) (by first | with_reducible assumption | rfl) (by first | with_reducible assumption | omega) (by first | decide | omega) ?_
          refine wp_aload_n (pc := 191) (i := 0) dX6_make_191 rfl rfl (by first | with_reducible assumption | rfl) ?_
          refine wp_getR (pc := 192) dX6_make_192 lf_X6_7 (by first | with_reducible assumption | rfl) (by first | with_reducible assumption | rfl) rfl (by first | with_reducible assumption | rfl) (by first | with_reducible assumption | rfl) ?_
          refine wp_iload (pc := 195) dX6_make_195 rfl ?_
          refine wp_bipush (pc := 197) (v := nI 46) dX6_make_197 (by decide +kernel) ?_
          refine wp_iast (pc := 199) dX6_make_199 (by first | with_reducible assumption | rfl) (by first | with_reducible assumption | rfl) (by first | with_reducible assumption | omega) (by first | decide | omega) ?_
          refine wp_iconst (pc := 200) (v := nI 0) dX6_make_200 (by decide +kernel) ?_
          refine wp_ireturn (pc := 201) dX6_make_201 rfl ?_
          exact iq_i ⟨rfl, hfin, hF, rfl⟩
      · exact absurd c_131 hx999
    · rw [if_neg h0]
      have hmt := ht2.resolve_left h0
      have hsdt := menP_s (g := b.1) (s := 1 - b.2.2.1) (c := x % 16) (by omega) hmt
      have h2t := menP_2 hmt
      have e9 : sdI (b.1 (x % 16)) = nI (1 - b.2.2.1) := by rw [sd_i _ hst h2t, hsdt]
      have hne : ¬ nI (1 - b.2.2.1) = -9 := nine_ne (by omega)
      rw [e9] at hsf
      have eT : thr b (x % 16) = kng b.1 (x % 16) := by
        unfold thr
        rw [hmt, Bool.and_true]
      rw [eT]
      have hgU : ∀ c, c < 16 → up (ageG b) (x % 16) 1 c < 12 := fun c hc => by
        have := hB.1 c hc
        have : ageG b c < 12 := by unfold ageG; split <;> omega
        rcases up_cs (ageG b) (x % 16) 1 c with z | z <;> omega
      have hW4 : WH w h (uI (uI I3 1 (16 * to + x % 16) (nI 35)) 2 (16 * to + x % 16) (nI last)) := WH_fr hW (fun i => rfl)
      have hcel : ∀ c, c < w * h → uI (uI I3 1 (16 * to + x % 16) (nI 35)) 2 (16 * to + x % 16) (nI last) 1 (16 * to + c) = nI (asc (up (ageG b) (x % 16) 1 c)) := fun c hc => by
        show (if 1 = 1 ∧ 16 * to + c = 16 * to + x % 16 then nI 35 else I3 1 (16 * to + c)) = _
        by_cases e2 : c = x % 16
        · rw [if_pos ⟨rfl, by omega⟩, e2, up_s]; rfl
        · rw [if_neg (fun y => e2 (by omega)), up_n e2, (hK c (by omega)).1]
          unfold ccd
          rw [if_pos hc]
      have hhk := sp_X6_hasKing (d := d + 2) (J := J) (s := 1 - b.2.2.1) hW4 hcel hgU hto (by omega)
      have ehk : anK (kgs (up (ageG b) (x % 16) 1) (1 - b.2.2.1)) (w * h) = hasK (up (ageG b) (x % 16) 1) (1 - b.2.2.1) := (hasK_an n16 (fun c hc => by
        rw [up_n (by omega)]; exact hzG c hc)).symm
      rw [ehk] at hhk
      have hkf := sp_X6_kindOf (Ω := ΩM) (d := d + 1) (I := uI (uI I3 1 (16 * to + x % 16) (nI 35)) 2 (16 * to + x % 16) (nI last)) (J := J) hst
      have hk75 := kdA_75 _ hst
      have hkl := kdA_lt _ hst
      have kg : kng b.1 (x % 16) = decide (kdA (b.1 (x % 16)) = 75) := by
        unfold kng
        exact decide_eq_decide.mpr hk75.symm
      have kgG : kng (ageG b) (x % 16) = kng b.1 (x % 16) := by
        unfold kng
        rw [eGt]
      have eF : fal last (ageG b, ageT b, 1 - b.2.2.1, b.2.2.2) (x % 16) = (up (ageG b) (x % 16) 1, up (ageT b) (x % 16) last, 1 - b.2.2.1, if kng b.1 (x % 16) = true ∧ hasK (up (ageG b) (x % 16) 1) (1 - b.2.2.1) = false then 1 - b.2.2.1 else 2) := by
        unfold fal
        show (_, _, _, if kng (ageG b) (x % 16) = true ∧ hasK (up (ageG b) (x % 16) 1) (sd (ageG b (x % 16))) = false then sd (ageG b (x % 16)) else b.2.2.2) = _
        rw [kgG, eGt, hsdt, hl]
      rw [eF]
      have hfin : ∀ v (L : Int32), L = lsI v → LX (w * h) to (up (ageG b) (x % 16) 1, up (ageT b) (x % 16) last, 1 - b.2.2.1, v) (uI (uI (uI I3 1 (16 * to + x % 16) (nI 35)) 2 (16 * to + x % 16) (nI last)) 4 to L) := by
        intro v L hv
        refine ⟨fun c hc => ⟨?_, ?_⟩, ?_, ?_⟩
        · show (if 1 = 1 ∧ 16 * to + c = 16 * to + x % 16 then nI 35 else I3 1 (16 * to + c)) = nI (ccd (w * h) (up (ageG b) (x % 16) 1) c)
          by_cases e2 : c = x % 16
          · rw [if_pos ⟨rfl, by omega⟩]
            unfold ccd
            rw [if_pos (by omega), e2, up_s]; rfl
          · rw [if_neg (fun y => e2 (by omega)), (hK c hc).1]
            unfold ccd
            rw [up_n e2]
        · show (if 2 = 2 ∧ 16 * to + c = 16 * to + x % 16 then nI last else I3 2 (16 * to + c)) = nI (up (ageT b) (x % 16) last c)
          by_cases e2 : c = x % 16
          · rw [if_pos ⟨rfl, by omega⟩, e2, up_s]
          · rw [if_neg (fun y => e2 (by omega)), (hK c hc).2, up_n e2]
        · show I3 3 to = _
          exact h3
        · show (if 4 = 4 ∧ to = to then L else _) = lsI v
          rw [if_pos ⟨rfl, rfl⟩]; exact hv
      have hF : ∀ L, FM to I3 (uI (uI (uI I3 1 (16 * to + x % 16) (nI 35)) 2 (16 * to + x % 16) (nI last)) 4 to L) := fun L a i z1 z2 => by
        show (if a = 4 ∧ i = to then L else (if a = 2 ∧ i = 16 * to + x % 16 then nI last else (if a = 1 ∧ i = 16 * to + x % 16 then nI 35 else I3 a i))) = I3 a i
        rw [if_neg (fun y => z2 ⟨Or.inr y.1, y.2⟩), if_neg (fun y => z1 ⟨Or.inr y.1, by omega, by omega⟩), if_neg (fun y => z1 ⟨Or.inl y.1, by omega, by omega⟩)]
      have hla4 : uI I3 1 (16 * to + x % 16) (nI 35) 0 2 = nI last := hla
      generalize hasK (up (ageG b) (x % 16) 1) (1 - b.2.2.1) = hv at hhk ⊢
      clear eF ehk hcel hgU hW4 hzG kgG eT eGt eGf agf hK kf cf ct hf16 hfn hf2 hmt ht2 hk75 h2t hsdt
      rw [kg]
      clear kg
      generalize kdA (b.1 (x % 16)) = kk at hkf hkl ⊢
      generalize hFF : x / 16 = F at *
      generalize hTT : x % 16 = T at *
      have l1 : nI (1 - b.2.2.1) = lsI (1 - b.2.2.1) := (lsI_n (by omega)).symm
      by_cases hkk : kk = 75
      · rw [decide_eq_true hkk]
        cases hv
        · have hf1 := hfin _ _ l1
          rw [if_pos ⟨rfl, rfl⟩]
          refine wp_iload_n (pc := 127) (i := 3) dX6_make_127 rfl rfl ?_
          refine wp_sipush (pc := 128) (v := nI 999) dX6_make_128 (by decide +kernel) ?_
          first | (refine wp_icmp_neN (pc := 131) (tgt := 136) dX6_make_131 (by decide) (by first | with_reducible assumption | omega) (by first | with_reducible assumption | omega) (fun c_131 => ?_) (fun c_131 => ?_)) | (refine wp_icmp_ne (pc := 131) (tgt := 136) dX6_make_131 (by decide) (fun c_131 => ?_) (fun c_131 => ?_))
          · refine wp_bipush (pc := 136) (v := nI 16) dX6_make_136 (by decide +kernel) ?_
            refine wp_iload_n (pc := 138) (i := 2) dX6_make_138 rfl rfl ?_
            first | (refine wp_imulN (pc := 139) dX6_make_139 ?_) | (refine wp_imul (pc := 139) dX6_make_139 ?_)
            refine wp_iload_n (pc := 140) (i := 3) dX6_make_140 rfl rfl ?_
            refine wp_bipush (pc := 141) (v := nI 16) dX6_make_141 (by decide +kernel) ?_
            refine wp_idivN (pc := 143) dX6_make_143 (by first | with_reducible assumption | omega) (by first | with_reducible assumption | omega) (by first | with_reducible assumption | omega) ?_
            rw [hFF]
            first | (refine wp_iaddN (pc := 144) dX6_make_144 ?_) | (refine wp_iadd (pc := 144) dX6_make_144 ?_)
            refine wp_istore (pc := 145) dX6_make_145 (by decide) ?_
            refine wp_bipush (pc := 147) (v := nI 16) dX6_make_147 (by decide +kernel) ?_
            refine wp_iload_n (pc := 149) (i := 2) dX6_make_149 rfl rfl ?_
            first | (refine wp_imulN (pc := 150) dX6_make_150 ?_) | (refine wp_imul (pc := 150) dX6_make_150 ?_)
            refine wp_iload_n (pc := 151) (i := 3) dX6_make_151 rfl rfl ?_
            refine wp_bipush (pc := 152) (v := nI 16) dX6_make_152 (by decide +kernel) ?_
            refine wp_iremN (pc := 154) dX6_make_154 (by first | with_reducible assumption | omega) (by first | with_reducible assumption | omega) (by first | with_reducible assumption | omega) ?_
            rw [hTT]
            first | (refine wp_iaddN (pc := 155) dX6_make_155 ?_) | (refine wp_iadd (pc := 155) dX6_make_155 ?_)
            refine wp_istore (pc := 156) dX6_make_156 (by decide) ?_
            refine wp_aload_n (pc := 158) (i := 0) dX6_make_158 rfl rfl (by first | with_reducible assumption | rfl) ?_
            refine wp_getR (pc := 159) dX6_make_159 lf_X6_7 (by first | with_reducible assumption | rfl) (by first | with_reducible assumption | rfl) rfl (by first | with_reducible assumption | rfl) (by first | with_reducible assumption | rfl) ?_
            refine wp_iload (pc := 162) dX6_make_162 rfl ?_
            refine wp_iald (pc := 164) dX6_make_164 (by first | with_reducible assumption | rfl) (by first | with_reducible assumption | rfl) (by first | with_reducible assumption | omega) (by first | decide | omega) ?_
            rw [kt]
            refine wp_istore (pc := 165) dX6_make_165 (by decide) ?_
            refine wp_iload (pc := 167) dX6_make_167 rfl ?_
            refine wp_cSP1 (pc := 169) dX6_make_169 lm_X6_65 m_X6_sideOf (Nat.le_of_ble_eq_true rfl) hsf ?_
            refine wp_bipush (pc := 172) (v := (-9)) dX6_make_172 (by decide +kernel) ?_
            refine wp_icmp_ne (pc := 174) (tgt := 202) dX6_make_174 (by decide) (fun c_174 => ?_) (fun c_174 => ?_)
            · refine wp_aload_n (pc := 202) (i := 0) dX6_make_202 rfl rfl (by first | with_reducible assumption | rfl) ?_
              refine wp_getR (pc := 203) dX6_make_203 lf_X6_7 (by first | with_reducible assumption | rfl) (by first | with_reducible assumption | rfl) rfl (by first | with_reducible assumption | rfl) (by first | with_reducible assumption | rfl) ?_
              refine wp_iload (pc := 206) dX6_make_206 rfl ?_
              refine wp_bipush (pc := 208) (v := nI 35) dX6_make_208 (by decide +kernel) ?_
              refine wp_iast (pc := 210) dX6_make_210 (by first | with_reducible assumption | rfl) (by first | with_reducible assumption | rfl) (by first | with_reducible assumption | omega) (by first | decide | omega) ?_
              refine wp_aload_n (pc := 211) (i := 0) dX6_make_211 rfl rfl (by first | with_reducible assumption | rfl) ?_
              refine wp_getR (pc := 212) dX6_make_212 lf_X6_13 (by first | with_reducible assumption | rfl) (by first | with_reducible assumption | rfl) rfl (by first | with_reducible assumption | rfl) (by first | with_reducible assumption | rfl) ?_
              refine wp_iload (pc := 215) dX6_make_215 rfl ?_
              refine wp_aload_n (pc := 217) (i := 0) dX6_make_217 rfl rfl (by first | with_reducible assumption | rfl) ?_
              refine wp_getI (pc := 218) dX6_make_218 lf_X6_88 (by first | with_reducible assumption | rfl) (by first | with_reducible assumption | rfl) rfl ?_
              rw [hla4]
              refine wp_iast (pc := 221) dX6_make_221 (by first | with_reducible assumption | rfl) (by first | with_reducible assumption | rfl) (by first | with_reducible assumption | omega) (by first | decide | omega) ?_
              refine wp_iload (pc := 222) dX6_make_222 rfl ?_
              refine wp_cSP1 (pc := 224) dX6_make_224 lm_X6_105 m_X6_kindOf (Nat.le_of_ble_eq_true rfl) hkf ?_
              refine wp_bipush (pc := 227) (v := nI 75) dX6_make_227 (by decide +kernel) ?_
              first | (refine wp_icmp_neN (pc := 229) (tgt := 236) dX6_make_229 (by decide) (by first | with_reducible assumption | omega) (by first | with_reducible assumption | omega) (fun c_229 => ?_) (fun c_229 => ?_)) | (refine wp_icmp_ne (pc := 229) (tgt := 236) dX6_make_229 (by decide) (fun c_229 => ?_) (fun c_229 => ?_))
              · exact absurd hkk c_229
              · refine wp_iconst (pc := 232) (v := nI 1) dX6_make_232 (by decide +kernel) ?_
                refine wp_goto (pc := 233) (tgt := 237) dX6_make_233 (by decide) ?_
                refine wp_istore (pc := 237) dX6_make_237 (by decide) ?_
                refine wp_aload_n (pc := 239) (i := 0) dX6_make_239 rfl rfl (by first | with_reducible assumption | rfl) ?_
                refine wp_getR (pc := 240) dX6_make_240 lf_X6_19 (by first | with_reducible assumption | rfl) (by first | with_reducible assumption | rfl) rfl (by first | with_reducible assumption | rfl) (by first | with_reducible assumption | rfl) ?_
                refine wp_iload_n (pc := 243) (i := 2) dX6_make_243 rfl rfl ?_
                refine wp_iload (pc := 244) dX6_make_244 rfl ?_
                refine wp_if_eqN (pc := 246) (tgt := 268) dX6_make_246 (by decide) (by first | with_reducible assumption | omega) (fun c_246 => ?_) (fun c_246 => ?_)
                · exact absurd c_246 (by decide)
                · refine wp_aload_n (pc := 249) (i := 0) dX6_make_249 rfl rfl (by first | with_reducible assumption | rfl) ?_
                  refine wp_iload_n (pc := 250) (i := 2) dX6_make_250 rfl rfl ?_
                  refine wp_iconst (pc := 251) (v := nI 1) dX6_make_251 (by decide +kernel) ?_
                  refine wp_iload (pc := 252) dX6_make_252 rfl ?_
                  first | (refine wp_isubN (pc := 254) dX6_make_254 (by first | with_reducible assumption | omega) ?_) | (refine wp_isub (pc := 254) dX6_make_254 ?_)
                  refine wp_cVP2 (pc := 255) (ci := 6) dX6_make_255 lm_X6_126 m_X6_hasKing (by first | with_reducible assumption | rfl) (by first | with_reducible assumption | rfl) (by decide) rfl (Nat.le_of_ble_eq_true rfl) hhk ?_
                  refine wp_if_neB (pc := 258) (tgt := 268) dX6_make_258 (by decide) (fun c_258 => ?_) (fun c_258 => ?_)
                  · exact Bool.noConfusion c_258
                  · refine wp_iconst (pc := 261) (v := nI 1) dX6_make_261 (by decide +kernel) ?_
                    refine wp_iload (pc := 262) dX6_make_262 rfl ?_
                    first | (refine wp_isubN (pc := 264) dX6_make_264 (by first | with_reducible assumption | omega) ?_) | (refine wp_isub (pc := 264) dX6_make_264 ?_)
                    refine wp_goto (pc := 265) (tgt := 270) dX6_make_265 (by decide) ?_
                    refine wp_iast (pc := 270) dX6_make_270 (by first | with_reducible assumption | rfl) (by first | with_reducible assumption | rfl) (by first | with_reducible assumption | omega) (by first | decide | omega) ?_
                    refine wp_iload (pc := 271) dX6_make_271 rfl ?_
                    refine wp_if_eqN (pc := 273) (tgt := 280) dX6_make_273 (by decide) (by first | with_reducible assumption | omega) (fun c_273 => ?_) (fun c_273 => ?_)
                    · exact absurd c_273 (by decide)
                    · refine wp_iconst (pc := 276) (v := nI 1) dX6_make_276 (by decide +kernel) ?_
                      refine wp_goto (pc := 277) (tgt := 281) dX6_make_277 (by decide) ?_
                      refine wp_ireturn (pc := 281) dX6_make_281 rfl ?_
                      exact iq_i ⟨rfl, hf1, hF _, rfl⟩
            · exact absurd c_174 hne
          · exact absurd c_131 hx999
        · have hf1 := hfin 2 (-9) rfl
          rw [if_neg (fun y => Bool.noConfusion y.2)]
          refine wp_iload_n (pc := 127) (i := 3) dX6_make_127 rfl rfl ?_
          refine wp_sipush (pc := 128) (v := nI 999) dX6_make_128 (by decide +kernel) ?_
          first | (refine wp_icmp_neN (pc := 131) (tgt := 136) dX6_make_131 (by decide) (by first | with_reducible assumption | omega) (by first | with_reducible assumption | omega) (fun c_131 => ?_) (fun c_131 => ?_)) | (refine wp_icmp_ne (pc := 131) (tgt := 136) dX6_make_131 (by decide) (fun c_131 => ?_) (fun c_131 => ?_))
          · refine wp_bipush (pc := 136) (v := nI 16) dX6_make_136 (by decide +kernel) ?_
            refine wp_iload_n (pc := 138) (i := 2) dX6_make_138 rfl rfl ?_
            first | (refine wp_imulN (pc := 139) dX6_make_139 ?_) | (refine wp_imul (pc := 139) dX6_make_139 ?_)
            refine wp_iload_n (pc := 140) (i := 3) dX6_make_140 rfl rfl ?_
            refine wp_bipush (pc := 141) (v := nI 16) dX6_make_141 (by decide +kernel) ?_
            refine wp_idivN (pc := 143) dX6_make_143 (by first | with_reducible assumption | omega) (by first | with_reducible assumption | omega) (by first | with_reducible assumption | omega) ?_
            rw [hFF]
            first | (refine wp_iaddN (pc := 144) dX6_make_144 ?_) | (refine wp_iadd (pc := 144) dX6_make_144 ?_)
            refine wp_istore (pc := 145) dX6_make_145 (by decide) ?_
            refine wp_bipush (pc := 147) (v := nI 16) dX6_make_147 (by decide +kernel) ?_
            refine wp_iload_n (pc := 149) (i := 2) dX6_make_149 rfl rfl ?_
            first | (refine wp_imulN (pc := 150) dX6_make_150 ?_) | (refine wp_imul (pc := 150) dX6_make_150 ?_)
            refine wp_iload_n (pc := 151) (i := 3) dX6_make_151 rfl rfl ?_
            refine wp_bipush (pc := 152) (v := nI 16) dX6_make_152 (by decide +kernel) ?_
            refine wp_iremN (pc := 154) dX6_make_154 (by first | with_reducible assumption | omega) (by first | with_reducible assumption | omega) (by first | with_reducible assumption | omega) ?_
            rw [hTT]
            first | (refine wp_iaddN (pc := 155) dX6_make_155 ?_) | (refine wp_iadd (pc := 155) dX6_make_155 ?_)
            refine wp_istore (pc := 156) dX6_make_156 (by decide) ?_
            refine wp_aload_n (pc := 158) (i := 0) dX6_make_158 rfl rfl (by first | with_reducible assumption | rfl) ?_
            refine wp_getR (pc := 159) dX6_make_159 lf_X6_7 (by first | with_reducible assumption | rfl) (by first | with_reducible assumption | rfl) rfl (by first | with_reducible assumption | rfl) (by first | with_reducible assumption | rfl) ?_
            refine wp_iload (pc := 162) dX6_make_162 rfl ?_
            refine wp_iald (pc := 164) dX6_make_164 (by first | with_reducible assumption | rfl) (by first | with_reducible assumption | rfl) (by first | with_reducible assumption | omega) (by first | decide | omega) ?_
            rw [kt]
            refine wp_istore (pc := 165) dX6_make_165 (by decide) ?_
            refine wp_iload (pc := 167) dX6_make_167 rfl ?_
            refine wp_cSP1 (pc := 169) dX6_make_169 lm_X6_65 m_X6_sideOf (Nat.le_of_ble_eq_true rfl) hsf ?_
            refine wp_bipush (pc := 172) (v := (-9)) dX6_make_172 (by decide +kernel) ?_
            refine wp_icmp_ne (pc := 174) (tgt := 202) dX6_make_174 (by decide) (fun c_174 => ?_) (fun c_174 => ?_)
            · refine wp_aload_n (pc := 202) (i := 0) dX6_make_202 rfl rfl (by first | with_reducible assumption | rfl) ?_
              refine wp_getR (pc := 203) dX6_make_203 lf_X6_7 (by first | with_reducible assumption | rfl) (by first | with_reducible assumption | rfl) rfl (by first | with_reducible assumption | rfl) (by first | with_reducible assumption | rfl) ?_
              refine wp_iload (pc := 206) dX6_make_206 rfl ?_
              refine wp_bipush (pc := 208) (v := nI 35) dX6_make_208 (by decide +kernel) ?_
              refine wp_iast (pc := 210) dX6_make_210 (by first | with_reducible assumption | rfl) (by first | with_reducible assumption | rfl) (by first | with_reducible assumption | omega) (by first | decide | omega) ?_
              refine wp_aload_n (pc := 211) (i := 0) dX6_make_211 rfl rfl (by first | with_reducible assumption | rfl) ?_
              refine wp_getR (pc := 212) dX6_make_212 lf_X6_13 (by first | with_reducible assumption | rfl) (by first | with_reducible assumption | rfl) rfl (by first | with_reducible assumption | rfl) (by first | with_reducible assumption | rfl) ?_
              refine wp_iload (pc := 215) dX6_make_215 rfl ?_
              refine wp_aload_n (pc := 217) (i := 0) dX6_make_217 rfl rfl (by first | with_reducible assumption | rfl) ?_
              refine wp_getI (pc := 218) dX6_make_218 lf_X6_88 (by first | with_reducible assumption | rfl) (by first | with_reducible assumption | rfl) rfl ?_
              rw [hla4]
              refine wp_iast (pc := 221) dX6_make_221 (by first | with_reducible assumption | rfl) (by first | with_reducible assumption | rfl) (by first | with_reducible assumption | omega) (by first | decide | omega) ?_
              refine wp_iload (pc := 222) dX6_make_222 rfl ?_
              refine wp_cSP1 (pc := 224) dX6_make_224 lm_X6_105 m_X6_kindOf (Nat.le_of_ble_eq_true rfl) hkf ?_
              refine wp_bipush (pc := 227) (v := nI 75) dX6_make_227 (by decide +kernel) ?_
              first | (refine wp_icmp_neN (pc := 229) (tgt := 236) dX6_make_229 (by decide) (by first | with_reducible assumption | omega) (by first | with_reducible assumption | omega) (fun c_229 => ?_) (fun c_229 => ?_)) | (refine wp_icmp_ne (pc := 229) (tgt := 236) dX6_make_229 (by decide) (fun c_229 => ?_) (fun c_229 => ?_))
              · exact absurd hkk c_229
              · refine wp_iconst (pc := 232) (v := nI 1) dX6_make_232 (by decide +kernel) ?_
                refine wp_goto (pc := 233) (tgt := 237) dX6_make_233 (by decide) ?_
                refine wp_istore (pc := 237) dX6_make_237 (by decide) ?_
                refine wp_aload_n (pc := 239) (i := 0) dX6_make_239 rfl rfl (by first | with_reducible assumption | rfl) ?_
                refine wp_getR (pc := 240) dX6_make_240 lf_X6_19 (by first | with_reducible assumption | rfl) (by first | with_reducible assumption | rfl) rfl (by first | with_reducible assumption | rfl) (by first | with_reducible assumption | rfl) ?_
                refine wp_iload_n (pc := 243) (i := 2) dX6_make_243 rfl rfl ?_
                refine wp_iload (pc := 244) dX6_make_244 rfl ?_
                refine wp_if_eqN (pc := 246) (tgt := 268) dX6_make_246 (by decide) (by first | with_reducible assumption | omega) (fun c_246 => ?_) (fun c_246 => ?_)
                · exact absurd c_246 (by decide)
                · refine wp_aload_n (pc := 249) (i := 0) dX6_make_249 rfl rfl (by first | with_reducible assumption | rfl) ?_
                  refine wp_iload_n (pc := 250) (i := 2) dX6_make_250 rfl rfl ?_
                  refine wp_iconst (pc := 251) (v := nI 1) dX6_make_251 (by decide +kernel) ?_
                  refine wp_iload (pc := 252) dX6_make_252 rfl ?_
                  first | (refine wp_isubN (pc := 254) dX6_make_254 (by first | with_reducible assumption | omega) ?_) | (refine wp_isub (pc := 254) dX6_make_254 ?_)
                  refine wp_cVP2 (pc := 255) (ci := 6) dX6_make_255 lm_X6_126 m_X6_hasKing (by first | with_reducible assumption | rfl) (by first | with_reducible assumption | rfl) (by decide) rfl (Nat.le_of_ble_eq_true rfl) hhk ?_
                  refine wp_if_neB (pc := 258) (tgt := 268) dX6_make_258 (by decide) (fun c_258 => ?_) (fun c_258 => ?_)
                  · refine wp_bipush (pc := 268) (v := (-9)) dX6_make_268 (by decide +kernel) ?_
                    refine wp_iast (pc := 270) dX6_make_270 (by first | with_reducible assumption | rfl) (by first | with_reducible assumption | rfl) (by first | with_reducible assumption | omega) (by first | decide | omega) ?_
                    refine wp_iload (pc := 271) dX6_make_271 rfl ?_
                    refine wp_if_eqN (pc := 273) (tgt := 280) dX6_make_273 (by decide) (by first | with_reducible assumption | omega) (fun c_273 => ?_) (fun c_273 => ?_)
                    · exact absurd c_273 (by decide)
                    · refine wp_iconst (pc := 276) (v := nI 1) dX6_make_276 (by decide +kernel) ?_
                      refine wp_goto (pc := 277) (tgt := 281) dX6_make_277 (by decide) ?_
                      refine wp_ireturn (pc := 281) dX6_make_281 rfl ?_
                      exact iq_i ⟨rfl, hf1, hF _, rfl⟩
                  · exact Bool.noConfusion c_258
            · exact absurd c_174 hne
          · exact absurd c_131 hx999
      · rw [decide_eq_false hkk]
        have hf1 := hfin 2 (-9) rfl
        rw [if_neg (fun y => Bool.noConfusion y.1)]
        refine wp_iload_n (pc := 127) (i := 3) dX6_make_127 rfl rfl ?_
        refine wp_sipush (pc := 128) (v := nI 999) dX6_make_128 (by decide +kernel) ?_
        first | (refine wp_icmp_neN (pc := 131) (tgt := 136) dX6_make_131 (by decide) (by first | with_reducible assumption | omega) (by first | with_reducible assumption | omega) (fun c_131 => ?_) (fun c_131 => ?_)) | (refine wp_icmp_ne (pc := 131) (tgt := 136) dX6_make_131 (by decide) (fun c_131 => ?_) (fun c_131 => ?_))
        · refine wp_bipush (pc := 136) (v := nI 16) dX6_make_136 (by decide +kernel) ?_
          refine wp_iload_n (pc := 138) (i := 2) dX6_make_138 rfl rfl ?_
          first | (refine wp_imulN (pc := 139) dX6_make_139 ?_) | (refine wp_imul (pc := 139) dX6_make_139 ?_)
          refine wp_iload_n (pc := 140) (i := 3) dX6_make_140 rfl rfl ?_
          refine wp_bipush (pc := 141) (v := nI 16) dX6_make_141 (by decide +kernel) ?_
          refine wp_idivN (pc := 143) dX6_make_143 (by first | with_reducible assumption | omega) (by first | with_reducible assumption | omega) (by first | with_reducible assumption | omega) ?_
          rw [hFF]
          first | (refine wp_iaddN (pc := 144) dX6_make_144 ?_) | (refine wp_iadd (pc := 144) dX6_make_144 ?_)
          refine wp_istore (pc := 145) dX6_make_145 (by decide) ?_
          refine wp_bipush (pc := 147) (v := nI 16) dX6_make_147 (by decide +kernel) ?_
          refine wp_iload_n (pc := 149) (i := 2) dX6_make_149 rfl rfl ?_
          first | (refine wp_imulN (pc := 150) dX6_make_150 ?_) | (refine wp_imul (pc := 150) dX6_make_150 ?_)
          refine wp_iload_n (pc := 151) (i := 3) dX6_make_151 rfl rfl ?_
          refine wp_bipush (pc := 152) (v := nI 16) dX6_make_152 (by decide +kernel) ?_
          refine wp_iremN (pc := 154) dX6_make_154 (by first | with_reducible assumption | omega) (by first | with_reducible assumption | omega) (by first | with_reducible assumption | omega) ?_
          rw [hTT]
          first | (refine wp_iaddN (pc := 155) dX6_make_155 ?_) | (refine wp_iadd (pc := 155) dX6_make_155 ?_)
          refine wp_istore (pc := 156) dX6_make_156 (by decide) ?_
          refine wp_aload_n (pc := 158) (i := 0) dX6_make_158 rfl rfl (by first | with_reducible assumption | rfl) ?_
          refine wp_getR (pc := 159) dX6_make_159 lf_X6_7 (by first | with_reducible assumption | rfl) (by first | with_reducible assumption | rfl) rfl (by first | with_reducible assumption | rfl) (by first | with_reducible assumption | rfl) ?_
          refine wp_iload (pc := 162) dX6_make_162 rfl ?_
          refine wp_iald (pc := 164) dX6_make_164 (by first | with_reducible assumption | rfl) (by first | with_reducible assumption | rfl) (by first | with_reducible assumption | omega) (by first | decide | omega) ?_
          rw [kt]
          refine wp_istore (pc := 165) dX6_make_165 (by decide) ?_
          refine wp_iload (pc := 167) dX6_make_167 rfl ?_
          refine wp_cSP1 (pc := 169) dX6_make_169 lm_X6_65 m_X6_sideOf (Nat.le_of_ble_eq_true rfl) hsf ?_
          refine wp_bipush (pc := 172) (v := (-9)) dX6_make_172 (by decide +kernel) ?_
          refine wp_icmp_ne (pc := 174) (tgt := 202) dX6_make_174 (by decide) (fun c_174 => ?_) (fun c_174 => ?_)
          · refine wp_aload_n (pc := 202) (i := 0) dX6_make_202 rfl rfl (by first | with_reducible assumption | rfl) ?_
            refine wp_getR (pc := 203) dX6_make_203 lf_X6_7 (by first | with_reducible assumption | rfl) (by first | with_reducible assumption | rfl) rfl (by first | with_reducible assumption | rfl) (by first | with_reducible assumption | rfl) ?_
            refine wp_iload (pc := 206) dX6_make_206 rfl ?_
            refine wp_bipush (pc := 208) (v := nI 35) dX6_make_208 (by decide +kernel) ?_
            refine wp_iast (pc := 210) dX6_make_210 (by first | with_reducible assumption | rfl) (by first | with_reducible assumption | rfl) (by first | with_reducible assumption | omega) (by first | decide | omega) ?_
            refine wp_aload_n (pc := 211) (i := 0) dX6_make_211 rfl rfl (by first | with_reducible assumption | rfl) ?_
            refine wp_getR (pc := 212) dX6_make_212 lf_X6_13 (by first | with_reducible assumption | rfl) (by first | with_reducible assumption | rfl) rfl (by first | with_reducible assumption | rfl) (by first | with_reducible assumption | rfl) ?_
            refine wp_iload (pc := 215) dX6_make_215 rfl ?_
            refine wp_aload_n (pc := 217) (i := 0) dX6_make_217 rfl rfl (by first | with_reducible assumption | rfl) ?_
            refine wp_getI (pc := 218) dX6_make_218 lf_X6_88 (by first | with_reducible assumption | rfl) (by first | with_reducible assumption | rfl) rfl ?_
            rw [hla4]
            refine wp_iast (pc := 221) dX6_make_221 (by first | with_reducible assumption | rfl) (by first | with_reducible assumption | rfl) (by first | with_reducible assumption | omega) (by first | decide | omega) ?_
            refine wp_iload (pc := 222) dX6_make_222 rfl ?_
            refine wp_cSP1 (pc := 224) dX6_make_224 lm_X6_105 m_X6_kindOf (Nat.le_of_ble_eq_true rfl) hkf ?_
            refine wp_bipush (pc := 227) (v := nI 75) dX6_make_227 (by decide +kernel) ?_
            first | (refine wp_icmp_neN (pc := 229) (tgt := 236) dX6_make_229 (by decide) (by first | with_reducible assumption | omega) (by first | with_reducible assumption | omega) (fun c_229 => ?_) (fun c_229 => ?_)) | (refine wp_icmp_ne (pc := 229) (tgt := 236) dX6_make_229 (by decide) (fun c_229 => ?_) (fun c_229 => ?_))
            · refine wp_iconst (pc := 236) (v := nI 0) dX6_make_236 (by decide +kernel) ?_
              refine wp_istore (pc := 237) dX6_make_237 (by decide) ?_
              refine wp_aload_n (pc := 239) (i := 0) dX6_make_239 rfl rfl (by first | with_reducible assumption | rfl) ?_
              refine wp_getR (pc := 240) dX6_make_240 lf_X6_19 (by first | with_reducible assumption | rfl) (by first | with_reducible assumption | rfl) rfl (by first | with_reducible assumption | rfl) (by first | with_reducible assumption | rfl) ?_
              refine wp_iload_n (pc := 243) (i := 2) dX6_make_243 rfl rfl ?_
              refine wp_iload (pc := 244) dX6_make_244 rfl ?_
              refine wp_if_eqN (pc := 246) (tgt := 268) dX6_make_246 (by decide) (by first | with_reducible assumption | omega) (fun c_246 => ?_) (fun c_246 => ?_)
              · refine wp_bipush (pc := 268) (v := (-9)) dX6_make_268 (by decide +kernel) ?_
                refine wp_iast (pc := 270) dX6_make_270 (by first | with_reducible assumption | rfl) (by first | with_reducible assumption | rfl) (by first | with_reducible assumption | omega) (by first | decide | omega) ?_
                refine wp_iload (pc := 271) dX6_make_271 rfl ?_
                refine wp_if_eqN (pc := 273) (tgt := 280) dX6_make_273 (by decide) (by first | with_reducible assumption | omega) (fun c_273 => ?_) (fun c_273 => ?_)
                · refine wp_iconst (pc := 280) (v := nI 0) dX6_make_280 (by decide +kernel) ?_
                  refine wp_ireturn (pc := 281) dX6_make_281 rfl ?_
                  exact iq_i ⟨rfl, hf1, hF _, rfl⟩
                · exact absurd rfl c_273
              · exact absurd rfl c_246
            · exact absurd c_229 hkk
          · exact absurd c_174 hne
        · exact absurd c_131 hx999
set_option maxHeartbeats 16000000 in
theorem sp_X6_make {w h last lv to x : Nat} {b : Bd} (hW : WH w h I) (hla : I 0 2 = nI last) (hL : LX (w * h) lv b I) (hB : Bok (w * h) b) (hl : b.2.2.2 = 2) (hok : okP (w * h) b x) (hlv : lv < 4) (hto : to < 4) : CALL ΩM (d + 3) kX6_make [.ref 0, .int (nI lv), .int (nI to), .int (nI (encM x))] I J (IQ (fun r I' J' => r = bI (felB b x) ∧ LX (w * h) to (mkB last b x) I' ∧ FM to I I' ∧ J' = J)) := by
  have n16 := (WH_n hW).2
  have ho := hB.2.2.2.1
  have loop : ∀ m c (I2 : MemI) , m + c = 16 → CPY (w * h) lv to c b I I2 → WP ΩM (d + 3) kX6_make 3 [(0, .ref 0), (1, .int (nI lv)), (2, .int (nI to)), (3, .int (nI (encM x))), (4, .int (nI c))] [] I2 J (IQ (fun r I' J' => r = bI (felB b x) ∧ LX (w * h) to (mkB last b x) I' ∧ FM to I I' ∧ J' = J)) := by
    intro m
    induction m with
    | zero =>
      intro c I2 hc hcp
      have hc' : c = 16 := (Nat.zero_add c).symm.trans hc
      subst hc'
      have f3 : I2 3 lv = nI b.2.2.1 := by rw [hcp.2.2 3 lv (by omega)]; exact hL.2.1
      have hW2 : WH w h (uI (uI I2 3 to (nI (1 - b.2.2.1))) 4 to (-9)) := WH_fr hW (fun i => by
        show I2 0 i = I 0 i
        exact hcp.2.2 0 i (by omega))
      have hla2 : uI (uI I2 3 to (nI (1 - b.2.2.1))) 4 to (-9) 0 2 = nI last := by
        show I2 0 2 = _
        rw [hcp.2.2 0 2 (by omega)]; exact hla
      have hK2 : ∀ c, c < 16 → uI (uI I2 3 to (nI (1 - b.2.2.1))) 4 to (-9) 1 (16 * to + c) = nI (ccd (w * h) (ageG b) c) ∧ uI (uI I2 3 to (nI (1 - b.2.2.1))) 4 to (-9) 2 (16 * to + c) = nI (ageT b c) := fun c hc => hcp.2.1 c hc hc
      have htl := mk_tail (d := d) (J := J) (lv := lv) hW2 hla2 hB hl hok hto hK2 (by simp [uI]) (by simp [uI])
      have hfr : FM to I (uI (uI I2 3 to (nI (1 - b.2.2.1))) 4 to (-9)) := fun a i z1 z2 => by
        show (if a = 4 ∧ i = to then -9 else (if a = 3 ∧ i = to then _ else I2 a i)) = I a i
        rw [if_neg (fun y => z2 ⟨Or.inr y.1, y.2⟩), if_neg (fun y => z2 ⟨Or.inl y.1, y.2⟩)]
        exact hcp.2.2 a i z1
      have htl2 := wp_post (Q' := IQ (fun r I' J' => r = bI (felB b x) ∧ LX (w * h) to (mkB last b x) I' ∧ FM to I I' ∧ J' = J)) (fun r I' J' z => by
        obtain ⟨x1, y1, y2, y3, y4, y5⟩ := z
        exact ⟨x1, y1, y2, y3, fun a i k1 k2 => (y4 a i k1 k2).trans (hfr a i k1 k2), y5⟩) htl
      refine wp_iload (pc := 3) dX6_make_3 rfl ?_
      refine wp_bipush (pc := 5) (v := nI 16) dX6_make_5 (by decide +kernel) ?_
      first | (refine wp_icmp_geN (pc := 7) (tgt := 101) dX6_make_7 (by decide) (by first | with_reducible assumption | omega) (by first | with_reducible assumption | omega) (fun c_7 => ?_) (fun c_7 => ?_)) | (refine wp_icmp_ge (pc := 7) (tgt := 101) dX6_make_7 (by decide) (fun c_7 => ?_) (fun c_7 => ?_))
      · refine wp_aload_n (pc := 101) (i := 0) dX6_make_101 rfl rfl (by first | with_reducible assumption | rfl) ?_
        refine wp_getR (pc := 102) dX6_make_102 lf_X6_16 (by first | with_reducible assumption | rfl) (by first | with_reducible assumption | rfl) rfl (by first | with_reducible assumption | rfl) (by first | with_reducible assumption | rfl) ?_
        refine wp_iload_n (pc := 105) (i := 1) dX6_make_105 rfl rfl ?_
        refine wp_iald (pc := 106) dX6_make_106 (by first | with_reducible assumption | rfl) (by first | with_reducible assumption | rfl) (by first | with_reducible assumption | omega) (by first | decide | omega) ?_
        rw [f3]
        refine wp_istore (pc := 107) dX6_make_107 (by decide) ?_
        refine wp_aload_n (pc := 109) (i := 0) dX6_make_109 rfl rfl (by first | with_reducible assumption | rfl) ?_
        refine wp_getR (pc := 110) dX6_make_110 lf_X6_16 (by first | with_reducible assumption | rfl) (by first | with_reducible assumption | rfl) rfl (by first | with_reducible assumption | rfl) (by first | with_reducible assumption | rfl) ?_
        refine wp_iload_n (pc := 113) (i := 2) dX6_make_113 rfl rfl ?_
        refine wp_iconst (pc := 114) (v := nI 1) dX6_make_114 (by decide +kernel) ?_
        refine wp_iload (pc := 115) dX6_make_115 rfl ?_
        first | (refine wp_isubN (pc := 117) dX6_make_117 (by first | with_reducible assumption | omega) ?_) | (refine wp_isub (pc := 117) dX6_make_117 ?_)
        refine wp_iast (pc := 118) dX6_make_118 (by first | with_reducible assumption | rfl) (by first | with_reducible assumption | rfl) (by first | with_reducible assumption | omega) (by first | decide | omega) ?_
        refine wp_aload_n (pc := 119) (i := 0) dX6_make_119 rfl rfl (by first | with_reducible assumption | rfl) ?_
        refine wp_getR (pc := 120) dX6_make_120 lf_X6_19 (by first | with_reducible assumption | rfl) (by first | with_reducible assumption | rfl) rfl (by first | with_reducible assumption | rfl) (by first | with_reducible assumption | rfl) ?_
        refine wp_iload_n (pc := 123) (i := 2) dX6_make_123 rfl rfl ?_
        refine wp_bipush (pc := 124) (v := (-9)) dX6_make_124 (by decide +kernel) ?_
        refine wp_iast (pc := 126) dX6_make_126 (by first | with_reducible assumption | rfl) (by first | with_reducible assumption | rfl) (by first | with_reducible assumption | omega) (by first | decide | omega) ?_
        exact htl2
      · exact absurd (Nat.le_refl 16) c_7
    | succ m ih =>
      intro c I2 hc hcp
      have hc16 : c < 16 := by omega
      have e1 := (hcp.1 c (Nat.le_refl c) hc16).1
      have e2 := (hcp.1 c (Nat.le_refl c) hc16).2
      have hcp2 := CPY_s hcp hc16
      have h0 := ih (c + 1) _ (by omega) hcp2
      clear ih hcp2
      have ht10 := hB.2.1 c hc16
      have hcl : ccd (w * h) b.1 c < 128 := by
        unfold ccd
        split
        · exact asc_lt _
        · omega
      have ix1 : uI I2 1 (16 * to + c) (nI (ccd (w * h) (ageG b) c)) 2 (16 * lv + c) = nI (b.2.1 c) := e2
      by_cases t1 : b.2.1 c = 1
      · have hs1 := hB.2.2.1 c hc16 (by omega)
        have hcn : c < w * h := by
          rcases Nat.lt_or_ge c (w * h) with z | z
          · exact z
          · have := hB.2.2.2.2.2 c z; omega
        have c35 : ccd (w * h) b.1 c = 35 := by unfold ccd; rw [if_pos hcn, hs1]; rfl
        have c46 : ccd (w * h) (ageG b) c = 46 := by unfold ccd ageG; rw [if_pos hcn, if_pos t1]; rfl
        have tt : ageT b c = 0 := by unfold ageT; rw [t1]
        rw [c35] at e1
        rw [t1] at e2
        rw [c46, tt] at h0
        refine wp_iload (pc := 3) dX6_make_3 rfl ?_
        refine wp_bipush (pc := 5) (v := nI 16) dX6_make_5 (by decide +kernel) ?_
        first | (refine wp_icmp_geN (pc := 7) (tgt := 101) dX6_make_7 (by decide) (by first | with_reducible assumption | omega) (by first | with_reducible assumption | omega) (fun c_7 => ?_) (fun c_7 => ?_)) | (refine wp_icmp_ge (pc := 7) (tgt := 101) dX6_make_7 (by decide) (fun c_7 => ?_) (fun c_7 => ?_))
        · exact absurd c_7 (by omega)
        · refine wp_aload_n (pc := 10) (i := 0) dX6_make_10 rfl rfl (by first | with_reducible assumption | rfl) ?_
          refine wp_getR (pc := 11) dX6_make_11 lf_X6_7 (by first | with_reducible assumption | rfl) (by first | with_reducible assumption | rfl) rfl (by first | with_reducible assumption | rfl) (by first | with_reducible assumption | rfl) ?_
          refine wp_bipush (pc := 14) (v := nI 16) dX6_make_14 (by decide +kernel) ?_
          refine wp_iload_n (pc := 16) (i := 1) dX6_make_16 rfl rfl ?_
          first | (refine wp_imulN (pc := 17) dX6_make_17 ?_) | (refine wp_imul (pc := 17) dX6_make_17 ?_)
          refine wp_iload (pc := 18) dX6_make_18 rfl ?_
          first | (refine wp_iaddN (pc := 20) dX6_make_20 ?_) | (refine wp_iadd (pc := 20) dX6_make_20 ?_)
          refine wp_iald (pc := 21) dX6_make_21 (by first | with_reducible assumption | rfl) (by first | with_reducible assumption | rfl) (by first | with_reducible assumption | omega) (by first | decide | omega) ?_
          rw [e1]
          refine wp_istore (pc := 22) dX6_make_22 (by decide) ?_
          refine wp_aload_n (pc := 24) (i := 0) dX6_make_24 rfl rfl (by first | with_reducible assumption | rfl) ?_
          refine wp_getR (pc := 25) dX6_make_25 lf_X6_13 (by first | with_reducible assumption | rfl) (by first | with_reducible assumption | rfl) rfl (by first | with_reducible assumption | rfl) (by first | with_reducible assumption | rfl) ?_
          refine wp_bipush (pc := 28) (v := nI 16) dX6_make_28 (by decide +kernel) ?_
          refine wp_iload_n (pc := 30) (i := 1) dX6_make_30 rfl rfl ?_
          first | (refine wp_imulN (pc := 31) dX6_make_31 ?_) | (refine wp_imul (pc := 31) dX6_make_31 ?_)
          refine wp_iload (pc := 32) dX6_make_32 rfl ?_
          first | (refine wp_iaddN (pc := 34) dX6_make_34 ?_) | (refine wp_iadd (pc := 34) dX6_make_34 ?_)
          refine wp_iald (pc := 35) dX6_make_35 (by first | with_reducible assumption | rfl) (by first | with_reducible assumption | rfl) (by first | with_reducible assumption | omega) (by first | decide | omega) ?_
          rw [e2]
          refine wp_istore (pc := 36) dX6_make_36 (by decide) ?_
          refine wp_aload_n (pc := 38) (i := 0) dX6_make_38 rfl rfl (by first | with_reducible assumption | rfl) ?_
          refine wp_getR (pc := 39) dX6_make_39 lf_X6_7 (by first | with_reducible assumption | rfl) (by first | with_reducible assumption | rfl) rfl (by first | with_reducible assumption | rfl) (by first | with_reducible assumption | rfl) ?_
          refine wp_bipush (pc := 42) (v := nI 16) dX6_make_42 (by decide +kernel) ?_
          refine wp_iload_n (pc := 44) (i := 2) dX6_make_44 rfl rfl ?_
          first | (refine wp_imulN (pc := 45) dX6_make_45 ?_) | (refine wp_imul (pc := 45) dX6_make_45 ?_)
          refine wp_iload (pc := 46) dX6_make_46 rfl ?_
          first | (refine wp_iaddN (pc := 48) dX6_make_48 ?_) | (refine wp_iadd (pc := 48) dX6_make_48 ?_)
          refine wp_iload (pc := 49) dX6_make_49 rfl ?_
          refine wp_bipush (pc := 51) (v := nI 35) dX6_make_51 (by decide +kernel) ?_
          first | (refine wp_icmp_neN (pc := 53) (tgt := 67) dX6_make_53 (by decide) (by first | with_reducible assumption | omega) (by first | with_reducible assumption | omega) (fun c_53 => ?_) (fun c_53 => ?_)) | (refine wp_icmp_ne (pc := 53) (tgt := 67) dX6_make_53 (by decide) (fun c_53 => ?_) (fun c_53 => ?_))
          · exact absurd rfl c_53
          · refine wp_iload (pc := 56) dX6_make_56 rfl ?_
            refine wp_iconst (pc := 58) (v := nI 1) dX6_make_58 (by decide +kernel) ?_
            first | (refine wp_icmp_neN (pc := 59) (tgt := 67) dX6_make_59 (by decide) (by first | with_reducible assumption | omega) (by first | with_reducible assumption | omega) (fun c_59 => ?_) (fun c_59 => ?_)) | (refine wp_icmp_ne (pc := 59) (tgt := 67) dX6_make_59 (by decide) (fun c_59 => ?_) (fun c_59 => ?_))
            · exact absurd rfl c_59
            · refine wp_bipush (pc := 62) (v := nI 46) dX6_make_62 (by decide +kernel) ?_
              refine wp_goto (pc := 64) (tgt := 69) dX6_make_64 (by decide) ?_
              refine wp_iast (pc := 69) dX6_make_69 (by first | with_reducible assumption | rfl) (by first | with_reducible assumption | rfl) (by first | with_reducible assumption | omega) (by first | decide | omega) ?_
              refine wp_aload_n (pc := 70) (i := 0) dX6_make_70 rfl rfl (by first | with_reducible assumption | rfl) ?_
              refine wp_getR (pc := 71) dX6_make_71 lf_X6_13 (by first | with_reducible assumption | rfl) (by first | with_reducible assumption | rfl) rfl (by first | with_reducible assumption | rfl) (by first | with_reducible assumption | rfl) ?_
              refine wp_bipush (pc := 74) (v := nI 16) dX6_make_74 (by decide +kernel) ?_
              refine wp_iload_n (pc := 76) (i := 2) dX6_make_76 rfl rfl ?_
              first | (refine wp_imulN (pc := 77) dX6_make_77 ?_) | (refine wp_imul (pc := 77) dX6_make_77 ?_)
              refine wp_iload (pc := 78) dX6_make_78 rfl ?_
              first | (refine wp_iaddN (pc := 80) dX6_make_80 ?_) | (refine wp_iadd (pc := 80) dX6_make_80 ?_)
              refine wp_iload (pc := 81) dX6_make_81 rfl ?_
              first | (refine wp_if_leN (pc := 83) (tgt := 93) dX6_make_83 (by decide) (by first | with_reducible assumption | omega) (fun c_83 => ?_) (fun c_83 => ?_)) | (refine wp_if_le (pc := 83) (tgt := 93) dX6_make_83 (by decide) (fun c_83 => ?_) (fun c_83 => ?_))
              · exact absurd c_83 (by decide)
              · refine wp_iload (pc := 86) dX6_make_86 rfl ?_
                refine wp_iconst (pc := 88) (v := nI 1) dX6_make_88 (by decide +kernel) ?_
                first | (refine wp_isubN (pc := 89) dX6_make_89 (by first | with_reducible assumption | omega) ?_) | (refine wp_isub (pc := 89) dX6_make_89 ?_)
                refine wp_goto (pc := 90) (tgt := 94) dX6_make_90 (by decide) ?_
                refine wp_iast (pc := 94) dX6_make_94 (by first | with_reducible assumption | rfl) (by first | with_reducible assumption | rfl) (by first | with_reducible assumption | omega) (by first | decide | omega) ?_
                first | (refine wp_iincN (pc := 95) (m := 1) dX6_make_95 rfl rfl (by decide) ?_) | (refine wp_iinc (pc := 95) dX6_make_95 rfl rfl (by decide) ?_)
                refine wp_goto (pc := 98) (tgt := 3) dX6_make_98 (by decide) ?_
                refine wp_drop 5 ?_
                exact h0
      · have cG : ccd (w * h) (ageG b) c = ccd (w * h) b.1 c := by unfold ccd ageG; rw [if_neg t1]
        rw [cG] at h0
        generalize ccd (w * h) b.1 c = v at e1 hcl h0
        by_cases t0 : b.2.1 c = 0
        · have tt : ageT b c = 0 := by unfold ageT; rw [t0]
          rw [t0] at e2
          rw [tt] at h0
          refine wp_iload (pc := 3) dX6_make_3 rfl ?_
          refine wp_bipush (pc := 5) (v := nI 16) dX6_make_5 (by decide +kernel) ?_
          first | (refine wp_icmp_geN (pc := 7) (tgt := 101) dX6_make_7 (by decide) (by first | with_reducible assumption | omega) (by first | with_reducible assumption | omega) (fun c_7 => ?_) (fun c_7 => ?_)) | (refine wp_icmp_ge (pc := 7) (tgt := 101) dX6_make_7 (by decide) (fun c_7 => ?_) (fun c_7 => ?_))
          · exact absurd c_7 (by omega)
          · refine wp_aload_n (pc := 10) (i := 0) dX6_make_10 rfl rfl (by first | with_reducible assumption | rfl) ?_
            refine wp_getR (pc := 11) dX6_make_11 lf_X6_7 (by first | with_reducible assumption | rfl) (by first | with_reducible assumption | rfl) rfl (by first | with_reducible assumption | rfl) (by first | with_reducible assumption | rfl) ?_
            refine wp_bipush (pc := 14) (v := nI 16) dX6_make_14 (by decide +kernel) ?_
            refine wp_iload_n (pc := 16) (i := 1) dX6_make_16 rfl rfl ?_
            first | (refine wp_imulN (pc := 17) dX6_make_17 ?_) | (refine wp_imul (pc := 17) dX6_make_17 ?_)
            refine wp_iload (pc := 18) dX6_make_18 rfl ?_
            first | (refine wp_iaddN (pc := 20) dX6_make_20 ?_) | (refine wp_iadd (pc := 20) dX6_make_20 ?_)
            refine wp_iald (pc := 21) dX6_make_21 (by first | with_reducible assumption | rfl) (by first | with_reducible assumption | rfl) (by first | with_reducible assumption | omega) (by first | decide | omega) ?_
            rw [e1]
            refine wp_istore (pc := 22) dX6_make_22 (by decide) ?_
            refine wp_aload_n (pc := 24) (i := 0) dX6_make_24 rfl rfl (by first | with_reducible assumption | rfl) ?_
            refine wp_getR (pc := 25) dX6_make_25 lf_X6_13 (by first | with_reducible assumption | rfl) (by first | with_reducible assumption | rfl) rfl (by first | with_reducible assumption | rfl) (by first | with_reducible assumption | rfl) ?_
            refine wp_bipush (pc := 28) (v := nI 16) dX6_make_28 (by decide +kernel) ?_
            refine wp_iload_n (pc := 30) (i := 1) dX6_make_30 rfl rfl ?_
            first | (refine wp_imulN (pc := 31) dX6_make_31 ?_) | (refine wp_imul (pc := 31) dX6_make_31 ?_)
            refine wp_iload (pc := 32) dX6_make_32 rfl ?_
            first | (refine wp_iaddN (pc := 34) dX6_make_34 ?_) | (refine wp_iadd (pc := 34) dX6_make_34 ?_)
            refine wp_iald (pc := 35) dX6_make_35 (by first | with_reducible assumption | rfl) (by first | with_reducible assumption | rfl) (by first | with_reducible assumption | omega) (by first | decide | omega) ?_
            rw [e2]
            refine wp_istore (pc := 36) dX6_make_36 (by decide) ?_
            refine wp_aload_n (pc := 38) (i := 0) dX6_make_38 rfl rfl (by first | with_reducible assumption | rfl) ?_
            refine wp_getR (pc := 39) dX6_make_39 lf_X6_7 (by first | with_reducible assumption | rfl) (by first | with_reducible assumption | rfl) rfl (by first | with_reducible assumption | rfl) (by first | with_reducible assumption | rfl) ?_
            refine wp_bipush (pc := 42) (v := nI 16) dX6_make_42 (by decide +kernel) ?_
            refine wp_iload_n (pc := 44) (i := 2) dX6_make_44 rfl rfl ?_
            first | (refine wp_imulN (pc := 45) dX6_make_45 ?_) | (refine wp_imul (pc := 45) dX6_make_45 ?_)
            refine wp_iload (pc := 46) dX6_make_46 rfl ?_
            first | (refine wp_iaddN (pc := 48) dX6_make_48 ?_) | (refine wp_iadd (pc := 48) dX6_make_48 ?_)
            refine wp_iload (pc := 49) dX6_make_49 rfl ?_
            refine wp_bipush (pc := 51) (v := nI 35) dX6_make_51 (by decide +kernel) ?_
            first | (refine wp_icmp_neN (pc := 53) (tgt := 67) dX6_make_53 (by decide) (by first | with_reducible assumption | omega) (by first | with_reducible assumption | omega) (fun c_53 => ?_) (fun c_53 => ?_)) | (refine wp_icmp_ne (pc := 53) (tgt := 67) dX6_make_53 (by decide) (fun c_53 => ?_) (fun c_53 => ?_))
            · refine wp_iload (pc := 67) dX6_make_67 rfl ?_
              refine wp_iast (pc := 69) dX6_make_69 (by first | with_reducible assumption | rfl) (by first | with_reducible assumption | rfl) (by first | with_reducible assumption | omega) (by first | decide | omega) ?_
              refine wp_aload_n (pc := 70) (i := 0) dX6_make_70 rfl rfl (by first | with_reducible assumption | rfl) ?_
              refine wp_getR (pc := 71) dX6_make_71 lf_X6_13 (by first | with_reducible assumption | rfl) (by first | with_reducible assumption | rfl) rfl (by first | with_reducible assumption | rfl) (by first | with_reducible assumption | rfl) ?_
              refine wp_bipush (pc := 74) (v := nI 16) dX6_make_74 (by decide +kernel) ?_
              refine wp_iload_n (pc := 76) (i := 2) dX6_make_76 rfl rfl ?_
              first | (refine wp_imulN (pc := 77) dX6_make_77 ?_) | (refine wp_imul (pc := 77) dX6_make_77 ?_)
              refine wp_iload (pc := 78) dX6_make_78 rfl ?_
              first | (refine wp_iaddN (pc := 80) dX6_make_80 ?_) | (refine wp_iadd (pc := 80) dX6_make_80 ?_)
              refine wp_iload (pc := 81) dX6_make_81 rfl ?_
              first | (refine wp_if_leN (pc := 83) (tgt := 93) dX6_make_83 (by decide) (by first | with_reducible assumption | omega) (fun c_83 => ?_) (fun c_83 => ?_)) | (refine wp_if_le (pc := 83) (tgt := 93) dX6_make_83 (by decide) (fun c_83 => ?_) (fun c_83 => ?_))
              · refine wp_iconst (pc := 93) (v := nI 0) dX6_make_93 (by decide +kernel) ?_
                refine wp_iast (pc := 94) dX6_make_94 (by first | with_reducible assumption | rfl) (by first | with_reducible assumption | rfl) (by first | with_reducible assumption | omega) (by first | decide | omega) ?_
                first | (refine wp_iincN (pc := 95) (m := 1) dX6_make_95 rfl rfl (by decide) ?_) | (refine wp_iinc (pc := 95) dX6_make_95 rfl rfl (by decide) ?_)
                refine wp_goto (pc := 98) (tgt := 3) dX6_make_98 (by decide) ?_
                refine wp_drop 5 ?_
                exact h0
              · exact absurd c_83 (by decide)
            · refine wp_iload (pc := 56) dX6_make_56 rfl ?_
              refine wp_iconst (pc := 58) (v := nI 1) dX6_make_58 (by decide +kernel) ?_
              first | (refine wp_icmp_neN (pc := 59) (tgt := 67) dX6_make_59 (by decide) (by first | with_reducible assumption | omega) (by first | with_reducible assumption | omega) (fun c_59 => ?_) (fun c_59 => ?_)) | (refine wp_icmp_ne (pc := 59) (tgt := 67) dX6_make_59 (by decide) (fun c_59 => ?_) (fun c_59 => ?_))
              · refine wp_iload (pc := 67) dX6_make_67 rfl ?_
                refine wp_iast (pc := 69) dX6_make_69 (by first | with_reducible assumption | rfl) (by first | with_reducible assumption | rfl) (by first | with_reducible assumption | omega) (by first | decide | omega) ?_
                refine wp_aload_n (pc := 70) (i := 0) dX6_make_70 rfl rfl (by first | with_reducible assumption | rfl) ?_
                refine wp_getR (pc := 71) dX6_make_71 lf_X6_13 (by first | with_reducible assumption | rfl) (by first | with_reducible assumption | rfl) rfl (by first | with_reducible assumption | rfl) (by first | with_reducible assumption | rfl) ?_
                refine wp_bipush (pc := 74) (v := nI 16) dX6_make_74 (by decide +kernel) ?_
                refine wp_iload_n (pc := 76) (i := 2) dX6_make_76 rfl rfl ?_
                first | (refine wp_imulN (pc := 77) dX6_make_77 ?_) | (refine wp_imul (pc := 77) dX6_make_77 ?_)
                refine wp_iload (pc := 78) dX6_make_78 rfl ?_
                first | (refine wp_iaddN (pc := 80) dX6_make_80 ?_) | (refine wp_iadd (pc := 80) dX6_make_80 ?_)
                refine wp_iload (pc := 81) dX6_make_81 rfl ?_
                first | (refine wp_if_leN (pc := 83) (tgt := 93) dX6_make_83 (by decide) (by first | with_reducible assumption | omega) (fun c_83 => ?_) (fun c_83 => ?_)) | (refine wp_if_le (pc := 83) (tgt := 93) dX6_make_83 (by decide) (fun c_83 => ?_) (fun c_83 => ?_))
                · refine wp_iconst (pc := 93) (v := nI 0) dX6_make_93 (by decide +kernel) ?_
                  refine wp_iast (pc := 94) dX6_make_94 (by first | with_reducible assumption | rfl) (by first | with_reducible assumption | rfl) (by first | with_reducible assumption | omega) (by first | decide | omega) ?_
                  first | (refine wp_iincN (pc := 95) (m := 1) dX6_make_95 rfl rfl (by decide) ?_) | (refine wp_iinc (pc := 95) dX6_make_95 rfl rfl (by decide) ?_)
                  refine wp_goto (pc := 98) (tgt := 3) dX6_make_98 (by decide) ?_
                  refine wp_drop 5 ?_
                  exact h0
                · exact absurd c_83 (by decide)
              · exact absurd c_59 (by decide)
        · have tt : ageT b c = b.2.1 c - 1 := rfl
          rw [tt] at h0
          refine wp_iload (pc := 3) dX6_make_3 rfl ?_
          refine wp_bipush (pc := 5) (v := nI 16) dX6_make_5 (by decide +kernel) ?_
          first | (refine wp_icmp_geN (pc := 7) (tgt := 101) dX6_make_7 (by decide) (by first | with_reducible assumption | omega) (by first | with_reducible assumption | omega) (fun c_7 => ?_) (fun c_7 => ?_)) | (refine wp_icmp_ge (pc := 7) (tgt := 101) dX6_make_7 (by decide) (fun c_7 => ?_) (fun c_7 => ?_))
          · exact absurd c_7 (by omega)
          · refine wp_aload_n (pc := 10) (i := 0) dX6_make_10 rfl rfl (by first | with_reducible assumption | rfl) ?_
            refine wp_getR (pc := 11) dX6_make_11 lf_X6_7 (by first | with_reducible assumption | rfl) (by first | with_reducible assumption | rfl) rfl (by first | with_reducible assumption | rfl) (by first | with_reducible assumption | rfl) ?_
            refine wp_bipush (pc := 14) (v := nI 16) dX6_make_14 (by decide +kernel) ?_
            refine wp_iload_n (pc := 16) (i := 1) dX6_make_16 rfl rfl ?_
            first | (refine wp_imulN (pc := 17) dX6_make_17 ?_) | (refine wp_imul (pc := 17) dX6_make_17 ?_)
            refine wp_iload (pc := 18) dX6_make_18 rfl ?_
            first | (refine wp_iaddN (pc := 20) dX6_make_20 ?_) | (refine wp_iadd (pc := 20) dX6_make_20 ?_)
            refine wp_iald (pc := 21) dX6_make_21 (by first | with_reducible assumption | rfl) (by first | with_reducible assumption | rfl) (by first | with_reducible assumption | omega) (by first | decide | omega) ?_
            rw [e1]
            refine wp_istore (pc := 22) dX6_make_22 (by decide) ?_
            refine wp_aload_n (pc := 24) (i := 0) dX6_make_24 rfl rfl (by first | with_reducible assumption | rfl) ?_
            refine wp_getR (pc := 25) dX6_make_25 lf_X6_13 (by first | with_reducible assumption | rfl) (by first | with_reducible assumption | rfl) rfl (by first | with_reducible assumption | rfl) (by first | with_reducible assumption | rfl) ?_
            refine wp_bipush (pc := 28) (v := nI 16) dX6_make_28 (by decide +kernel) ?_
            refine wp_iload_n (pc := 30) (i := 1) dX6_make_30 rfl rfl ?_
            first | (refine wp_imulN (pc := 31) dX6_make_31 ?_) | (refine wp_imul (pc := 31) dX6_make_31 ?_)
            refine wp_iload (pc := 32) dX6_make_32 rfl ?_
            first | (refine wp_iaddN (pc := 34) dX6_make_34 ?_) | (refine wp_iadd (pc := 34) dX6_make_34 ?_)
            refine wp_iald (pc := 35) dX6_make_35 (by first | with_reducible assumption | rfl) (by first | with_reducible assumption | rfl) (by first | with_reducible assumption | omega) (by first | decide | omega) ?_
            rw [e2]
            refine wp_istore (pc := 36) dX6_make_36 (by decide) ?_
            refine wp_aload_n (pc := 38) (i := 0) dX6_make_38 rfl rfl (by first | with_reducible assumption | rfl) ?_
            refine wp_getR (pc := 39) dX6_make_39 lf_X6_7 (by first | with_reducible assumption | rfl) (by first | with_reducible assumption | rfl) rfl (by first | with_reducible assumption | rfl) (by first | with_reducible assumption | rfl) ?_
            refine wp_bipush (pc := 42) (v := nI 16) dX6_make_42 (by decide +kernel) ?_
            refine wp_iload_n (pc := 44) (i := 2) dX6_make_44 rfl rfl ?_
            first | (refine wp_imulN (pc := 45) dX6_make_45 ?_) | (refine wp_imul (pc := 45) dX6_make_45 ?_)
            refine wp_iload (pc := 46) dX6_make_46 rfl ?_
            first | (refine wp_iaddN (pc := 48) dX6_make_48 ?_) | (refine wp_iadd (pc := 48) dX6_make_48 ?_)
            refine wp_iload (pc := 49) dX6_make_49 rfl ?_
            refine wp_bipush (pc := 51) (v := nI 35) dX6_make_51 (by decide +kernel) ?_
            first | (refine wp_icmp_neN (pc := 53) (tgt := 67) dX6_make_53 (by decide) (by first | with_reducible assumption | omega) (by first | with_reducible assumption | omega) (fun c_53 => ?_) (fun c_53 => ?_)) | (refine wp_icmp_ne (pc := 53) (tgt := 67) dX6_make_53 (by decide) (fun c_53 => ?_) (fun c_53 => ?_))
            · refine wp_iload (pc := 67) dX6_make_67 rfl ?_
              refine wp_iast (pc := 69) dX6_make_69 (by first | with_reducible assumption | rfl) (by first | with_reducible assumption | rfl) (by first | with_reducible assumption | omega) (by first | decide | omega) ?_
              refine wp_aload_n (pc := 70) (i := 0) dX6_make_70 rfl rfl (by first | with_reducible assumption | rfl) ?_
              refine wp_getR (pc := 71) dX6_make_71 lf_X6_13 (by first | with_reducible assumption | rfl) (by first | with_reducible assumption | rfl) rfl (by first | with_reducible assumption | rfl) (by first | with_reducible assumption | rfl) ?_
              refine wp_bipush (pc := 74) (v := nI 16) dX6_make_74 (by decide +kernel) ?_
              refine wp_iload_n (pc := 76) (i := 2) dX6_make_76 rfl rfl ?_
              first | (refine wp_imulN (pc := 77) dX6_make_77 ?_) | (refine wp_imul (pc := 77) dX6_make_77 ?_)
              refine wp_iload (pc := 78) dX6_make_78 rfl ?_
              first | (refine wp_iaddN (pc := 80) dX6_make_80 ?_) | (refine wp_iadd (pc := 80) dX6_make_80 ?_)
              refine wp_iload (pc := 81) dX6_make_81 rfl ?_
              first | (refine wp_if_leN (pc := 83) (tgt := 93) dX6_make_83 (by decide) (by first | with_reducible assumption | omega) (fun c_83 => ?_) (fun c_83 => ?_)) | (refine wp_if_le (pc := 83) (tgt := 93) dX6_make_83 (by decide) (fun c_83 => ?_) (fun c_83 => ?_))
              · exact absurd c_83 t0
              · refine wp_iload (pc := 86) dX6_make_86 rfl ?_
                refine wp_iconst (pc := 88) (v := nI 1) dX6_make_88 (by decide +kernel) ?_
                first | (refine wp_isubN (pc := 89) dX6_make_89 (by first | with_reducible assumption | omega) ?_) | (refine wp_isub (pc := 89) dX6_make_89 ?_)
                refine wp_goto (pc := 90) (tgt := 94) dX6_make_90 (by decide) ?_
                refine wp_iast (pc := 94) dX6_make_94 (by first | with_reducible assumption | rfl) (by first | with_reducible assumption | rfl) (by first | with_reducible assumption | omega) (by first | decide | omega) ?_
                first | (refine wp_iincN (pc := 95) (m := 1) dX6_make_95 rfl rfl (by decide) ?_) | (refine wp_iinc (pc := 95) dX6_make_95 rfl rfl (by decide) ?_)
                refine wp_goto (pc := 98) (tgt := 3) dX6_make_98 (by decide) ?_
                refine wp_drop 5 ?_
                exact h0
            · refine wp_iload (pc := 56) dX6_make_56 rfl ?_
              refine wp_iconst (pc := 58) (v := nI 1) dX6_make_58 (by decide +kernel) ?_
              first | (refine wp_icmp_neN (pc := 59) (tgt := 67) dX6_make_59 (by decide) (by first | with_reducible assumption | omega) (by first | with_reducible assumption | omega) (fun c_59 => ?_) (fun c_59 => ?_)) | (refine wp_icmp_ne (pc := 59) (tgt := 67) dX6_make_59 (by decide) (fun c_59 => ?_) (fun c_59 => ?_))
              · refine wp_iload (pc := 67) dX6_make_67 rfl ?_
                refine wp_iast (pc := 69) dX6_make_69 (by first | with_reducible assumption | rfl) (by first | with_reducible assumption | rfl) (by first | with_reducible assumption | omega) (by first | decide | omega) ?_
                refine wp_aload_n (pc := 70) (i := 0) dX6_make_70 rfl rfl (by first | with_reducible assumption | rfl) ?_
                refine wp_getR (pc := 71) dX6_make_71 lf_X6_13 (by first | with_reducible assumption | rfl) (by first | with_reducible assumption | rfl) rfl (by first | with_reducible assumption | rfl) (by first | with_reducible assumption | rfl) ?_
                refine wp_bipush (pc := 74) (v := nI 16) dX6_make_74 (by decide +kernel) ?_
                refine wp_iload_n (pc := 76) (i := 2) dX6_make_76 rfl rfl ?_
                first | (refine wp_imulN (pc := 77) dX6_make_77 ?_) | (refine wp_imul (pc := 77) dX6_make_77 ?_)
                refine wp_iload (pc := 78) dX6_make_78 rfl ?_
                first | (refine wp_iaddN (pc := 80) dX6_make_80 ?_) | (refine wp_iadd (pc := 80) dX6_make_80 ?_)
                refine wp_iload (pc := 81) dX6_make_81 rfl ?_
                first | (refine wp_if_leN (pc := 83) (tgt := 93) dX6_make_83 (by decide) (by first | with_reducible assumption | omega) (fun c_83 => ?_) (fun c_83 => ?_)) | (refine wp_if_le (pc := 83) (tgt := 93) dX6_make_83 (by decide) (fun c_83 => ?_) (fun c_83 => ?_))
                · exact absurd c_83 t0
                · refine wp_iload (pc := 86) dX6_make_86 rfl ?_
                  refine wp_iconst (pc := 88) (v := nI 1) dX6_make_88 (by decide +kernel) ?_
                  first | (refine wp_isubN (pc := 89) dX6_make_89 (by first | with_reducible assumption | omega) ?_) | (refine wp_isub (pc := 89) dX6_make_89 ?_)
                  refine wp_goto (pc := 90) (tgt := 94) dX6_make_90 (by decide) ?_
                  refine wp_iast (pc := 94) dX6_make_94 (by first | with_reducible assumption | rfl) (by first | with_reducible assumption | rfl) (by first | with_reducible assumption | omega) (by first | decide | omega) ?_
                  first | (refine wp_iincN (pc := 95) (m := 1) dX6_make_95 rfl rfl (by decide) ?_) | (refine wp_iinc (pc := 95) dX6_make_95 rfl rfl (by decide) ?_)
                  refine wp_goto (pc := 98) (tgt := 3) dX6_make_98 (by decide) ?_
                  refine wp_drop 5 ?_
                  exact h0
              · exact absurd c_59 t1
  have h00 := loop 16 0 I rfl ⟨fun j _ hj => hL.1 j hj, fun j hj => absurd hj (Nat.not_lt_zero j), fun _ _ _ => rfl⟩
  refine call_of_wp (by decide) (Nat.le_of_ble_eq_true rfl) ?_
  refine wp_iconst (pc := 0) (v := nI 0) dX6_make_0 (by decide +kernel) ?_
  refine wp_istore (pc := 1) dX6_make_1 (by decide) ?_
  exact h00
end MMK
