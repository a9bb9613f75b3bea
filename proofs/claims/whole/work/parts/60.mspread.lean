/-! THE REFERENCE'S CALLS, 14: spread -/
/-- the cells of P told to be of part m -/
def ptI (m : Nat) (P : Nat → Bool) (I : MemI) : MemI := fun a i => if a = 10 ∧ i < 16 ∧ P i = true then nI m else I a i
theorem pt_add {m k : Nat} {P : Nat → Bool} {I : MemI} (hk : k < 16) : uI (ptI m P I) 10 k (nI m) = ptI m (fun t => P t || decide (t = k)) I := by
  funext a i
  unfold uI ptI
  by_cases h1 : a = 10 ∧ i = k
  · rw [if_pos h1, if_pos ⟨h1.1, by omega, by show (P i || decide (i = k)) = true; rw [decide_eq_true h1.2, Bool.or_true]⟩]
  · rw [if_neg h1]
    by_cases h2 : a = 10 ∧ i < 16 ∧ P i = true
    · rw [if_pos h2, if_pos ⟨h2.1, h2.2.1, by show (P i || decide (i = k)) = true; rw [h2.2.2]; rfl⟩]
    · rw [if_neg h2, if_neg (fun y => by
        have h3 := y.2.2
        rw [Bool.or_eq_true] at h3
        rcases h3 with h3 | h3
        · exact h2 ⟨y.1, y.2.1, h3⟩
        · exact h1 ⟨y.1, of_decide_eq_true h3⟩)]
theorem pt_same {k : Nat} {M : MemI} : uI M 10 k (M 10 k) = M := by
  funext a i
  unfold uI
  split
  · rename_i h; rw [h.1, h.2]
  · rfl
theorem pt_cong {m : Nat} {P Q : Nat → Bool} {I : MemI} (h : ∀ t, t < 16 → P t = Q t) : ptI m P I = ptI m Q I := by
  funext a i
  unfold ptI
  by_cases hi : i < 16
  · rw [h i hi]
  · rw [if_neg (fun y => hi y.2.1), if_neg (fun y => hi y.2.1)]
theorem pt_o {m a i : Nat} {P : Nat → Bool} {I : MemI} (h : ¬ a = 10) : ptI m P I a i = I a i := by unfold ptI; rw [if_neg (fun y => h y.1)]
section MSP
variable {d : Nat} {I : MemI} {J : MemJ}
set_option maxHeartbeats 16000000 in
theorem sp_in {w h m c r a : Nat} {b : Bd} {P Z : Nat → Bool} {Q : Pst} (hL : LX (w * h) 0 b I) (hB : Bok (w * h) b) (n16 : w * h ≤ 16) (hZ : ∀ t, Z t = true → t < w * h) (g : WP ΩM (d + 4) kX6_spread 116 [(0, .ref 0), (1, .int (nI c)), (2, .int (nI m)), (3, .int (nI r)), (4, .int (nI a)), (5, .int (nI (mset Z))), (6, .int (nI 16))] [] (ptI m (fun t => P t || (Z t && !ded b.1 t)) I) J Q) : ∀ k to, k + to = 16 → WP ΩM (d + 4) kX6_spread 62 [(0, .ref 0), (1, .int (nI c)), (2, .int (nI m)), (3, .int (nI r)), (4, .int (nI a)), (5, .int (nI (mset Z))), (6, .int (nI to))] [] (ptI m (fun t => P t || (decide (t < to) && (Z t && !ded b.1 t))) I) J Q := by
  intro k
  induction k with
  | zero =>
    intro to hto
    have hto' : to = 16 := (Nat.zero_add to).symm.trans hto
    subst hto'
    have e : ptI m (fun t => P t || (decide (t < 16) && (Z t && !ded b.1 t))) I = ptI m (fun t => P t || (Z t && !ded b.1 t)) I := pt_cong (fun t ht => by rw [decide_eq_true ht, Bool.true_and])
    rw [e]
    refine wp_iload (pc := 62) dX6_spread_62 rfl ?_
    refine wp_bipush (pc := 64) (v := nI 16) dX6_spread_64 (by decide +kernel) ?_
    first | (refine wp_icmp_geN (pc := 66) (tgt := 116) dX6_spread_66 (by decide) (by first | with_reducible assumption | omega) (by first | with_reducible assumption | omega) (fun c_66 => ?_) (fun c_66 => ?_)) | (refine wp_icmp_ge (pc := 66) (tgt := 116) dX6_spread_66 (by decide) (fun c_66 => ?_) (fun c_66 => ?_))
    · exact g
    · exact absurd (Nat.le_refl 16) c_66
  | succ k ih =>
    intro to hto
    have hto16 : to < 16 := by omega
    have hzl := mset_lt Z
    have hbit : mset Z / 2 ^ to &&& 1 = (Z to).toNat := by rw [bit_1, mset_bit' _ hto16]
    have ec : ptI m (fun t => P t || (decide (t < to) && (Z t && !ded b.1 t))) I 1 to = nI (ccd (w * h) b.1 to) := by
      rw [pt_o (by decide)]
      have := (hL.1 to hto16).1
      rwa [Nat.mul_zero, Nat.zero_add] at this
    have hcl : ccd (w * h) b.1 to < 128 := by
      unfold ccd
      split
      · exact asc_lt _
      · omega
    have h0 := ih (to + 1) (by omega)
    clear ih g
    have step : ∀ v, (Z to && !ded b.1 to) = v → ptI m (fun t => P t || (decide (t < to + 1) && (Z t && !ded b.1 t))) I = if v = true then uI (ptI m (fun t => P t || (decide (t < to) && (Z t && !ded b.1 t))) I) 10 to (nI m) else ptI m (fun t => P t || (decide (t < to) && (Z t && !ded b.1 t))) I := fun v hv => by
      have hs : ∀ t, (decide (t < to + 1) && (Z t && !ded b.1 t)) = ((decide (t < to) && (Z t && !ded b.1 t)) || (decide (t = to) && v)) := fun t => by
        by_cases h1 : t = to
        · subst h1; rw [hv]; simp
        · by_cases h2 : t < to
          · have : t < to + 1 := by omega
            simp [h1, h2, this]
          · have : ¬ t < to + 1 := by omega
            simp [h1, h2, this]
      cases v
      · rw [if_neg Bool.false_ne_true]
        exact pt_cong (fun t _ => by rw [hs t, Bool.and_false, Bool.or_false])
      · rw [if_pos rfl, pt_add hto16]
        exact pt_cong (fun t _ => by rw [hs t, Bool.and_true, Bool.or_assoc])
    cases hz : Z to
    · have h1 := step false (by rw [hz]; rfl)
      rw [if_neg Bool.false_ne_true] at h1
      rw [h1] at h0
      rw [hz] at hbit
      refine wp_iload (pc := 62) dX6_spread_62 rfl ?_
      refine wp_bipush (pc := 64) (v := nI 16) dX6_spread_64 (by decide +kernel) ?_
      first | (refine wp_icmp_geN (pc := 66) (tgt := 116) dX6_spread_66 (by decide) (by first | with_reducible assumption | omega) (by first | with_reducible assumption | omega) (fun c_66 => ?_) (fun c_66 => ?_)) | (refine wp_icmp_ge (pc := 66) (tgt := 116) dX6_spread_66 (by decide) (fun c_66 => ?_) (fun c_66 => ?_))
      · exact absurd c_66 (by omega)
      · refine wp_aload_n (pc := 69) (i := 0) dX6_spread_69 rfl rfl (by first | with_reducible assumption | rfl) ?_
        refine wp_getR (pc := 70) dX6_spread_70 lf_X6_37 (by first | with_reducible assumption | rfl) (by first | with_reducible assumption | rfl) rfl (by first | with_reducible assumption | rfl) (by first | with_reducible assumption | rfl) ?_
        refine wp_iload (pc := 73) dX6_spread_73 rfl ?_
        refine wp_iload (pc := 75) dX6_spread_75 rfl ?_
        refine wp_iload (pc := 77) dX6_spread_77 rfl ?_
        first | (refine wp_ishrN (pc := 79) dX6_spread_79 (by first | with_reducible assumption | omega) (by first | with_reducible assumption | omega) ?_) | (refine wp_ishr (pc := 79) dX6_spread_79 ?_)
        refine wp_iconst (pc := 80) (v := nI 1) dX6_spread_80 (by decide +kernel) ?_
        first | (refine wp_iandN (pc := 81) dX6_spread_81 ?_) | (refine wp_iand (pc := 81) dX6_spread_81 ?_)
        rw [hbit]
        refine wp_iconst (pc := 82) (v := nI 1) dX6_spread_82 (by decide +kernel) ?_
        first | (refine wp_icmp_neN (pc := 83) (tgt := 102) dX6_spread_83 (by decide) (by first | with_reducible assumption | omega) (by first | with_reducible assumption | omega) (fun c_83 => ?_) (fun c_83 => ?_)) | (refine wp_icmp_ne (pc := 83) (tgt := 102) dX6_spread_83 (by decide) (fun c_83 => ?_) (fun c_83 => ?_))
        · refine wp_aload_n (pc := 102) (i := 0) dX6_spread_102 rfl rfl (by first | with_reducible assumption | rfl) ?_
          refine wp_getR (pc := 103) dX6_spread_103 lf_X6_37 (by first | with_reducible assumption | rfl) (by first | with_reducible assumption | rfl) rfl (by first | with_reducible assumption | rfl) (by first | with_reducible assumption | rfl) ?_
          refine wp_iload (pc := 106) dX6_spread_106 rfl ?_
          refine wp_iald (pc := 108) dX6_spread_108 (by first | with_reducible assumption | rfl) (by first | with_reducible assumption | rfl) (by first | with_reducible assumption | omega) (by first | decide | omega) ?_
          refine wp_iast (pc := 109) dX6_spread_109 (by first | with_reducible assumption | rfl) (by first | with_reducible assumption | rfl) (by first | with_reducible assumption | omega) (by first | decide | omega) ?_
          rw [pt_same]
          first | (refine wp_iincN (pc := 110) (m := 1) dX6_spread_110 rfl rfl (by decide) ?_) | (refine wp_iinc (pc := 110) dX6_spread_110 rfl rfl (by decide) ?_)
          refine wp_goto (pc := 113) (tgt := 62) dX6_spread_113 (by decide) ?_
          exact h0
        · exact absurd c_83 (by decide)
    · have hzn := hZ to hz
      have cc : ccd (w * h) b.1 to = asc (b.1 to) := if_pos hzn
      have hst := hB.1 to hto16
      have a1 := asc_1 _ hst
      rw [cc] at ec hcl
      rw [hz] at hbit
      by_cases hd : b.1 to = 1
      · have h1 := step false (by rw [hz, show ded b.1 to = true from decide_eq_true hd]; rfl)
        rw [if_neg Bool.false_ne_true] at h1
        rw [h1] at h0
        refine wp_iload (pc := 62) dX6_spread_62 rfl ?_
        refine wp_bipush (pc := 64) (v := nI 16) dX6_spread_64 (by decide +kernel) ?_
        first | (refine wp_icmp_geN (pc := 66) (tgt := 116) dX6_spread_66 (by decide) (by first | with_reducible assumption | omega) (by first | with_reducible assumption | omega) (fun c_66 => ?_) (fun c_66 => ?_)) | (refine wp_icmp_ge (pc := 66) (tgt := 116) dX6_spread_66 (by decide) (fun c_66 => ?_) (fun c_66 => ?_))
        · exact absurd c_66 (by omega)
        · refine wp_aload_n (pc := 69) (i := 0) dX6_spread_69 rfl rfl (by first | with_reducible assumption | rfl) ?_
          refine wp_getR (pc := 70) dX6_spread_70 lf_X6_37 (by first | with_reducible assumption | rfl) (by first | with_reducible assumption | rfl) rfl (by first | with_reducible assumption | rfl) (by first | with_reducible assumption | rfl) ?_
          refine wp_iload (pc := 73) dX6_spread_73 rfl ?_
          refine wp_iload (pc := 75) dX6_spread_75 rfl ?_
          refine wp_iload (pc := 77) dX6_spread_77 rfl ?_
          first | (refine wp_ishrN (pc := 79) dX6_spread_79 (by first | with_reducible assumption | omega) (by first | with_reducible assumption | omega) ?_) | (refine wp_ishr (pc := 79) dX6_spread_79 ?_)
          refine wp_iconst (pc := 80) (v := nI 1) dX6_spread_80 (by decide +kernel) ?_
          first | (refine wp_iandN (pc := 81) dX6_spread_81 ?_) | (refine wp_iand (pc := 81) dX6_spread_81 ?_)
          rw [hbit]
          refine wp_iconst (pc := 82) (v := nI 1) dX6_spread_82 (by decide +kernel) ?_
          first | (refine wp_icmp_neN (pc := 83) (tgt := 102) dX6_spread_83 (by decide) (by first | with_reducible assumption | omega) (by first | with_reducible assumption | omega) (fun c_83 => ?_) (fun c_83 => ?_)) | (refine wp_icmp_ne (pc := 83) (tgt := 102) dX6_spread_83 (by decide) (fun c_83 => ?_) (fun c_83 => ?_))
          · exact absurd rfl c_83
          · refine wp_aload_n (pc := 86) (i := 0) dX6_spread_86 rfl rfl (by first | with_reducible assumption | rfl) ?_
            refine wp_getR (pc := 87) dX6_spread_87 lf_X6_7 (by first | with_reducible assumption | rfl) (by first | with_reducible assumption | rfl) rfl (by first | with_reducible assumption | rfl) (by first | with_reducible assumption | rfl) ?_
            refine wp_iload (pc := 90) dX6_spread_90 rfl ?_
            refine wp_iald (pc := 92) dX6_spread_92 (by first | with_reducible assumption | rfl) (by first | with_reducible assumption | rfl) (by first | with_reducible assumption | omega) (by first | decide | omega) ?_
            rw [ec]
            refine wp_bipush (pc := 93) (v := nI 35) dX6_spread_93 (by decide +kernel) ?_
            first | (refine wp_icmp_eqN (pc := 95) (tgt := 102) dX6_spread_95 (by decide) (by first | with_reducible assumption | omega) (by first | with_reducible assumption | omega) (fun c_95 => ?_) (fun c_95 => ?_)) | (refine wp_icmp_eq (pc := 95) (tgt := 102) dX6_spread_95 (by decide) (fun c_95 => ?_) (fun c_95 => ?_))
            · refine wp_aload_n (pc := 102) (i := 0) dX6_spread_102 rfl rfl (by first | with_reducible assumption | rfl) ?_
              refine wp_getR (pc := 103) dX6_spread_103 lf_X6_37 (by first | with_reducible assumption | rfl) (by first | with_reducible assumption | rfl) rfl (by first | with_reducible assumption | rfl) (by first | with_reducible assumption | rfl) ?_
              refine wp_iload (pc := 106) dX6_spread_106 rfl ?_
              refine wp_iald (pc := 108) dX6_spread_108 (by first | with_reducible assumption | rfl) (by first | with_reducible assumption | rfl) (by first | with_reducible assumption | omega) (by first | decide | omega) ?_
              refine wp_iast (pc := 109) dX6_spread_109 (by first | with_reducible assumption | rfl) (by first | with_reducible assumption | rfl) (by first | with_reducible assumption | omega) (by first | decide | omega) ?_
              rw [pt_same]
              first | (refine wp_iincN (pc := 110) (m := 1) dX6_spread_110 rfl rfl (by decide) ?_) | (refine wp_iinc (pc := 110) dX6_spread_110 rfl rfl (by decide) ?_)
              refine wp_goto (pc := 113) (tgt := 62) dX6_spread_113 (by decide) ?_
              exact h0
            · exact absurd (a1.mpr hd) c_95
      · have h1 := step true (by rw [hz, show ded b.1 to = false from decide_eq_false hd]; rfl)
        rw [if_pos rfl] at h1
        rw [h1] at h0
        refine wp_iload (pc := 62) dX6_spread_62 rfl ?_
        refine wp_bipush (pc := 64) (v := nI 16) dX6_spread_64 (by decide +kernel) ?_
        first | (refine wp_icmp_geN (pc := 66) (tgt := 116) dX6_spread_66 (by decide) (by first | with_reducible assumption | omega) (by first | with_reducible assumption | omega) (fun c_66 => ?_) (fun c_66 => ?_)) | (refine wp_icmp_ge (pc := 66) (tgt := 116) dX6_spread_66 (by decide) (fun c_66 => ?_) (fun c_66 => ?_))
        · exact absurd c_66 (by omega)
        · refine wp_aload_n (pc := 69) (i := 0) dX6_spread_69 rfl rfl (by first | with_reducible assumption | rfl) ?_
          refine wp_getR (pc := 70) dX6_spread_70 lf_X6_37 (by first | with_reducible assumption | rfl) (by first | with_reducible assumption | rfl) rfl (by first | with_reducible assumption | rfl) (by first | with_reducible assumption | rfl) ?_
          refine wp_iload (pc := 73) dX6_spread_73 rfl ?_
          refine wp_iload (pc := 75) dX6_spread_75 rfl ?_
          refine wp_iload (pc := 77) dX6_spread_77 rfl ?_
          first | (refine wp_ishrN (pc := 79) dX6_spread_79 (by first | with_reducible assumption | omega) (by first | with_reducible assumption | omega) ?_) | (refine wp_ishr (pc := 79) dX6_spread_79 ?_)
          refine wp_iconst (pc := 80) (v := nI 1) dX6_spread_80 (by decide +kernel) ?_
          first | (refine wp_iandN (pc := 81) dX6_spread_81 ?_) | (refine wp_iand (pc := 81) dX6_spread_81 ?_)
          rw [hbit]
          refine wp_iconst (pc := 82) (v := nI 1) dX6_spread_82 (by decide +kernel) ?_
          first | (refine wp_icmp_neN (pc := 83) (tgt := 102) dX6_spread_83 (by decide) (by first | with_reducible assumption | omega) (by first | with_reducible assumption | omega) (fun c_83 => ?_) (fun c_83 => ?_)) | (refine wp_icmp_ne (pc := 83) (tgt := 102) dX6_spread_83 (by decide) (fun c_83 => ?_) (fun c_83 => ?_))
          · exact absurd rfl c_83
          · refine wp_aload_n (pc := 86) (i := 0) dX6_spread_86 rfl rfl (by first | with_reducible assumption | rfl) ?_
            refine wp_getR (pc := 87) dX6_spread_87 lf_X6_7 (by first | with_reducible assumption | rfl) (by first | with_reducible assumption | rfl) rfl (by first | with_reducible assumption | rfl) (by first | with_reducible assumption | rfl) ?_
            refine wp_iload (pc := 90) dX6_spread_90 rfl ?_
            refine wp_iald (pc := 92) dX6_spread_92 (by first | with_reducible assumption | rfl) (by first | with_reducible assumption | rfl) (by first | with_reducible assumption | omega) (by first | decide | omega) ?_
            rw [ec]
            refine wp_bipush (pc := 93) (v := nI 35) dX6_spread_93 (by decide +kernel) ?_
            first | (refine wp_icmp_eqN (pc := 95) (tgt := 102) dX6_spread_95 (by decide) (by first | with_reducible assumption | omega) (by first | with_reducible assumption | omega) (fun c_95 => ?_) (fun c_95 => ?_)) | (refine wp_icmp_eq (pc := 95) (tgt := 102) dX6_spread_95 (by decide) (fun c_95 => ?_) (fun c_95 => ?_))
            · exact absurd (a1.mp c_95) hd
            · refine wp_iload_n (pc := 98) (i := 2) dX6_spread_98 rfl rfl ?_
              refine wp_goto (pc := 99) (tgt := 109) dX6_spread_99 (by decide) ?_
              refine wp_iast (pc := 109) dX6_spread_109 (by first | with_reducible assumption | rfl) (by first | with_reducible assumption | rfl) (by first | with_reducible assumption | omega) (by first | decide | omega) ?_
              first | (refine wp_iincN (pc := 110) (m := 1) dX6_spread_110 rfl rfl (by decide) ?_) | (refine wp_iinc (pc := 110) dX6_spread_110 rfl rfl (by decide) ?_)
              refine wp_goto (pc := 113) (tgt := 62) dX6_spread_113 (by decide) ?_
              exact h0
set_option maxHeartbeats 16000000 in
theorem sp_X6_spread {w h m c : Nat} {b : Bd} (hW : WH w h I) (hL : LX (w * h) 0 b I) (hB : Bok (w * h) b) (hc : c < w * h) (hbase : ∀ i, i < 16 → ¬ I 10 i = nI m) : CALL ΩM (d + 4) kX6_spread [.ref 0, .int (nI c), .int (nI m)] I J (VQ (fun I' J' => I' = ptI m (clB (hgR w h (opn w h b.1)) c) I ∧ J' = J)) := by
  have n16 := (WH_n hW).2
  have hRn : ∀ a t, hgR w h (opn w h b.1) a t = true → t < w * h := hgR_t
  have hMW : ∀ P, WH w h (ptI m P I) := fun P => WH_fr hW (fun i => pt_o (by decide))
  have hML : ∀ P, LX (w * h) 0 b (ptI m P I) := fun P => LX_n hL (by decide) (fun a i y _ _ => pt_o (by omega)) (pt_o (by decide)) (pt_o (by decide))
  have eR : ∀ a t, (kst w h a t && !ded b.1 t) = hgR w h (opn w h b.1) a t := fun a t => by
    unfold hgR opn
    cases hk : kst w h a t
    · rfl
    · rw [decide_eq_true (kst_t hk), Bool.true_and, Bool.true_and]
  have outer : ∀ k r (S : Nat → Bool), k + r = 16 → ROu (hgR w h (opn w h b.1)) c r S → WP ΩM (d + 4) kX6_spread 9 [(0, .ref 0), (1, .int (nI c)), (2, .int (nI m)), (3, .int (nI r))] [] (ptI m S I) J (VQ (fun I' J' => I' = ptI m (clB (hgR w h (opn w h b.1)) c) I ∧ J' = J)) := by
    intro k
    induction k with
    | zero =>
      intro r S hr hS
      have hr' : r = 16 := (Nat.zero_add r).symm.trans hr
      subst hr'
      have e : ptI m S I = ptI m (clB (hgR w h (opn w h b.1)) c) I := pt_cong (fun t _ => hS.fin t)
      rw [e]
      refine wp_iload_n (pc := 9) (i := 3) dX6_spread_9 rfl rfl ?_
      refine wp_bipush (pc := 10) (v := nI 16) dX6_spread_10 (by decide +kernel) ?_
      first | (refine wp_icmp_geN (pc := 12) (tgt := 128) dX6_spread_12 (by decide) (by first | with_reducible assumption | omega) (by first | with_reducible assumption | omega) (fun c_12 => ?_) (fun c_12 => ?_)) | (refine wp_icmp_ge (pc := 12) (tgt := 128) dX6_spread_12 (by decide) (fun c_12 => ?_) (fun c_12 => ?_))
      · refine wp_return (pc := 128) dX6_spread_128 rfl ?_
        exact vq_i ⟨rfl, rfl⟩
      · exact absurd (Nat.le_refl 16) c_12
    | succ k ih =>
      intro r S hr hS
      have hr16 : r < 16 := by omega
      have inner : ∀ k2 a (P : Nat → Bool), k2 + a = w * h → RIn (hgR w h (opn w h b.1)) c a S P → WP ΩM (d + 4) kX6_spread 18 [(0, .ref 0), (1, .int (nI c)), (2, .int (nI m)), (3, .int (nI r)), (4, .int (nI a))] [] (ptI m P I) J (VQ (fun I' J' => I' = ptI m (clB (hgR w h (opn w h b.1)) c) I ∧ J' = J)) := by
        intro k2
        induction k2 with
        | zero =>
          intro a P ha hP
          have ha' : a = w * h := (Nat.zero_add a).symm.trans ha
          rw [ha'] at hP
          have h0 := ih (r + 1) P (by omega) (hP.stop hS n16 hc hRn)
          have e0 := (hMW P).2.1
          have e1 := (hMW P).2.2
          clear ih
          rw [ha']
          refine wp_iload (pc := 18) dX6_spread_18 rfl ?_
          refine wp_aload_n (pc := 20) (i := 0) dX6_spread_20 rfl rfl (by first | with_reducible assumption | rfl) ?_
          refine wp_getI (pc := 21) dX6_spread_21 lf_X6_47 (by first | with_reducible assumption | rfl) (by first | with_reducible assumption | rfl) rfl ?_
          rw [e0]
          refine wp_aload_n (pc := 24) (i := 0) dX6_spread_24 rfl rfl (by first | with_reducible assumption | rfl) ?_
          refine wp_getI (pc := 25) dX6_spread_25 lf_X6_51 (by first | with_reducible assumption | rfl) (by first | with_reducible assumption | rfl) rfl ?_
          rw [e1]
          first | (refine wp_imulN (pc := 28) dX6_spread_28 ?_) | (refine wp_imul (pc := 28) dX6_spread_28 ?_)
          first | (refine wp_icmp_geN (pc := 29) (tgt := 122) dX6_spread_29 (by decide) (by first | with_reducible assumption | omega) (by first | with_reducible assumption | omega) (fun c_29 => ?_) (fun c_29 => ?_)) | (refine wp_icmp_ge (pc := 29) (tgt := 122) dX6_spread_29 (by decide) (fun c_29 => ?_) (fun c_29 => ?_))
          · first | (refine wp_iincN (pc := 122) (m := 1) dX6_spread_122 rfl rfl (by decide) ?_) | (refine wp_iinc (pc := 122) dX6_spread_122 rfl rfl (by decide) ?_)
            refine wp_goto (pc := 125) (tgt := 9) dX6_spread_125 (by decide) ?_
            refine wp_drop 4 ?_
            exact h0
          · exact absurd (Nat.le_refl _) c_29
        | succ k2 ih2 =>
          intro a P ha hP
          have han : a < w * h := by omega
          have e0 := (hMW P).2.1
          have e1 := (hMW P).2.2
          have h0 := fun P2 => ih2 (a + 1) P2 (by omega)
          clear ih ih2
          cases hv : P a
          · have ep : ptI m P I 10 a = I 10 a := by unfold ptI; rw [if_neg (fun y => by rw [hv] at y; exact Bool.false_ne_true y.2.2)]
            have hne := hbase a (by omega)
            have h1 := h0 P (hP.skip hv)
            have h2 : WP ΩM (d + 4) kX6_spread 116 [(0, .ref 0), (1, .int (nI c)), (2, .int (nI m)), (3, .int (nI r)), (4, .int (nI a)), (5, .int (nI (mset (fun _ => false)))), (6, .int (nI 16))] [] (ptI m (fun t => P t || (false && !ded b.1 t)) I) J (VQ (fun I' J' => I' = ptI m (clB (hgR w h (opn w h b.1)) c) I ∧ J' = J)) := by
              rw [show ptI m (fun t => P t || (false && !ded b.1 t)) I = ptI m P I from pt_cong (fun t _ => by rw [Bool.false_and, Bool.or_false])]
              first | (refine wp_iincN (pc := 116) (m := 1) dX6_spread_116 rfl rfl (by decide) ?_) | (refine wp_iinc (pc := 116) dX6_spread_116 rfl rfl (by decide) ?_)
              refine wp_goto (pc := 119) (tgt := 18) dX6_spread_119 (by decide) ?_
              refine wp_drop 5 ?_
              exact h1
            have h3 := sp_in (d := d) (J := J) (P := P) (Z := fun _ => false) hL hB n16 (fun t y => by cases y) h2 16 0 rfl
            rw [show ptI m (fun t => P t || (decide (t < 0) && ((fun _ => false) t && !ded b.1 t))) I = ptI m P I from pt_cong (fun t _ => by simp), mset_none] at h3
            clear h0 h1 h2
            refine wp_iload (pc := 18) dX6_spread_18 rfl ?_
            refine wp_aload_n (pc := 20) (i := 0) dX6_spread_20 rfl rfl (by first | with_reducible assumption | rfl) ?_
            refine wp_getI (pc := 21) dX6_spread_21 lf_X6_47 (by first | with_reducible assumption | rfl) (by first | with_reducible assumption | rfl) rfl ?_
            rw [e0]
            refine wp_aload_n (pc := 24) (i := 0) dX6_spread_24 rfl rfl (by first | with_reducible assumption | rfl) ?_
            refine wp_getI (pc := 25) dX6_spread_25 lf_X6_51 (by first | with_reducible assumption | rfl) (by first | with_reducible assumption | rfl) rfl ?_
            rw [e1]
            first | (refine wp_imulN (pc := 28) dX6_spread_28 ?_) | (refine wp_imul (pc := 28) dX6_spread_28 ?_)
            first | (refine wp_icmp_geN (pc := 29) (tgt := 122) dX6_spread_29 (by decide) (by first | with_reducible assumption | omega) (by first | with_reducible assumption | omega) (fun c_29 => ?_) (fun c_29 => ?_)) | (refine wp_icmp_ge (pc := 29) (tgt := 122) dX6_spread_29 (by decide) (fun c_29 => ?_) (fun c_29 => ?_))
            · exact absurd c_29 (by omega)
            · refine wp_aload_n (pc := 32) (i := 0) dX6_spread_32 rfl rfl (by first | with_reducible assumption | rfl) ?_
              refine wp_getR (pc := 33) dX6_spread_33 lf_X6_37 (by first | with_reducible assumption | rfl) (by first | with_reducible assumption | rfl) rfl (by first | with_reducible assumption | rfl) (by first | with_reducible assumption | rfl) ?_
              refine wp_iload (pc := 36) dX6_spread_36 rfl ?_
              refine wp_iald (pc := 38) dX6_spread_38 (by first | with_reducible assumption | rfl) (by first | with_reducible assumption | rfl) (by first | with_reducible assumption | omega) (by first | decide | omega) ?_
              rw [ep]
              refine wp_iload_n (pc := 39) (i := 2) dX6_spread_39 rfl rfl ?_
              refine wp_icmp_ne (pc := 40) (tgt := 56) dX6_spread_40 (by decide) (fun c_40 => ?_) (fun c_40 => ?_)
              · refine wp_iconst (pc := 56) (v := nI 0) dX6_spread_56 (by decide +kernel) ?_
                refine wp_istore (pc := 57) dX6_spread_57 (by decide) ?_
                refine wp_iconst (pc := 59) (v := nI 0) dX6_spread_59 (by decide +kernel) ?_
                refine wp_istore (pc := 60) dX6_spread_60 (by decide) ?_
                exact h3
              · exact absurd c_40 hne
          · have ep : ptI m P I 10 a = nI m := by unfold ptI; rw [if_pos ⟨rfl, by omega, hv⟩]
            have h1 := h0 _ (hP.add hv)
            have hai := sp_X6_aimsOf (d := d) (J := J) (s := 2) (nb := true) (hMW P) (LX_V n16 (hML P)) hB.1 (show 0 < 4 by decide) han (by decide) (by decide)
            rw [show mset (aimP w h 2 (nfr true b.1) a) = mset (kst w h a) from rfl] at hai
            have h2 : WP ΩM (d + 4) kX6_spread 116 [(0, .ref 0), (1, .int (nI c)), (2, .int (nI m)), (3, .int (nI r)), (4, .int (nI a)), (5, .int (nI (mset (kst w h a)))), (6, .int (nI 16))] [] (ptI m (fun t => P t || (kst w h a t && !ded b.1 t)) I) J (VQ (fun I' J' => I' = ptI m (clB (hgR w h (opn w h b.1)) c) I ∧ J' = J)) := by
              rw [show ptI m (fun t => P t || (kst w h a t && !ded b.1 t)) I = ptI m (fun t => P t || hgR w h (opn w h b.1) a t) I from pt_cong (fun t _ => by rw [eR])]
              first | (refine wp_iincN (pc := 116) (m := 1) dX6_spread_116 rfl rfl (by decide) ?_) | (refine wp_iinc (pc := 116) dX6_spread_116 rfl rfl (by decide) ?_)
              refine wp_goto (pc := 119) (tgt := 18) dX6_spread_119 (by decide) ?_
              refine wp_drop 5 ?_
              exact h1
            have h3 := sp_in (d := d) (J := J) (P := P) (Z := kst w h a) hL hB n16 (fun t y => kst_t y) h2 16 0 rfl
            rw [show ptI m (fun t => P t || (decide (t < 0) && (kst w h a t && !ded b.1 t))) I = ptI m P I from pt_cong (fun t _ => by simp)] at h3
            clear h0 h1 h2
            refine wp_iload (pc := 18) dX6_spread_18 rfl ?_
            refine wp_aload_n (pc := 20) (i := 0) dX6_spread_20 rfl rfl (by first | with_reducible assumption | rfl) ?_
            refine wp_getI (pc := 21) dX6_spread_21 lf_X6_47 (by first | with_reducible assumption | rfl) (by first | with_reducible assumption | rfl) rfl ?_
            rw [e0]
            refine wp_aload_n (pc := 24) (i := 0) dX6_spread_24 rfl rfl (by first | with_reducible assumption | rfl) ?_
            refine wp_getI (pc := 25) dX6_spread_25 lf_X6_51 (by first | with_reducible assumption | rfl) (by first | with_reducible assumption | rfl) rfl ?_
            rw [e1]
            first | (refine wp_imulN (pc := 28) dX6_spread_28 ?_) | (refine wp_imul (pc := 28) dX6_spread_28 ?_)
            first | (refine wp_icmp_geN (pc := 29) (tgt := 122) dX6_spread_29 (by decide) (by first | with_reducible assumption | omega) (by first | with_reducible assumption | omega) (fun c_29 => ?_) (fun c_29 => ?_)) | (refine wp_icmp_ge (pc := 29) (tgt := 122) dX6_spread_29 (by decide) (fun c_29 => ?_) (fun c_29 => ?_))
            · exact absurd c_29 (by omega)
            · refine wp_aload_n (pc := 32) (i := 0) dX6_spread_32 rfl rfl (by first | with_reducible assumption | rfl) ?_
              refine wp_getR (pc := 33) dX6_spread_33 lf_X6_37 (by first | with_reducible assumption | rfl) (by first | with_reducible assumption | rfl) rfl (by first | with_reducible assumption | rfl) (by first | with_reducible assumption | rfl) ?_
              refine wp_iload (pc := 36) dX6_spread_36 rfl ?_
              refine wp_iald (pc := 38) dX6_spread_38 (by first | with_reducible assumption | rfl) (by first | with_reducible assumption | rfl) (by first | with_reducible assumption | omega) (by first | decide | omega) ?_
              rw [ep]
              refine wp_iload_n (pc := 39) (i := 2) dX6_spread_39 rfl rfl ?_
              first | (refine wp_icmp_neN (pc := 40) (tgt := 56) dX6_spread_40 (by decide) (by first | with_reducible assumption | omega) (by first | with_reducible assumption | omega) (fun c_40 => ?_) (fun c_40 => ?_)) | (refine wp_icmp_ne (pc := 40) (tgt := 56) dX6_spread_40 (by decide) (fun c_40 => ?_) (fun c_40 => ?_))
              · exact absurd rfl c_40
              · refine wp_aload_n (pc := 43) (i := 0) dX6_spread_43 rfl rfl (by first | with_reducible assumption | rfl) ?_
                refine wp_iconst (pc := 44) (v := nI 0) dX6_spread_44 (by decide +kernel) ?_
                refine wp_bipush (pc := 45) (v := nI (asc 2)) dX6_spread_45 (by decide +kernel) ?_
                refine wp_iload (pc := 47) dX6_spread_47 rfl ?_
                refine wp_iconst (pc := 49) (v := bI true) dX6_spread_49 (by decide +kernel) ?_
                refine wp_cVP4 (pc := 50) (ci := 6) dX6_spread_50 lm_X6_115 m_X6_aimsOf (by first | with_reducible assumption | rfl) (by first | with_reducible assumption | rfl) (by decide) rfl (Nat.le_of_ble_eq_true rfl) hai ?_
                refine wp_goto (pc := 53) (tgt := 57) dX6_spread_53 (by decide) ?_
                refine wp_istore (pc := 57) dX6_spread_57 (by decide) ?_
                refine wp_iconst (pc := 59) (v := nI 0) dX6_spread_59 (by decide +kernel) ?_
                refine wp_istore (pc := 60) dX6_spread_60 (by decide) ?_
                exact h3
      have h00 := inner (w * h) 0 S rfl (RIn.start hS)
      clear inner ih
      refine wp_iload_n (pc := 9) (i := 3) dX6_spread_9 rfl rfl ?_
      refine wp_bipush (pc := 10) (v := nI 16) dX6_spread_10 (by decide +kernel) ?_
      first | (refine wp_icmp_geN (pc := 12) (tgt := 128) dX6_spread_12 (by decide) (by first | with_reducible assumption | omega) (by first | with_reducible assumption | omega) (fun c_12 => ?_) (fun c_12 => ?_)) | (refine wp_icmp_ge (pc := 12) (tgt := 128) dX6_spread_12 (by decide) (fun c_12 => ?_) (fun c_12 => ?_))
      · exact absurd c_12 (by omega)
      · refine wp_iconst (pc := 15) (v := nI 0) dX6_spread_15 (by decide +kernel) ?_
        refine wp_istore (pc := 16) dX6_spread_16 (by decide) ?_
        exact h00
  have h00 := outer 16 0 _ rfl (ROu.start (R := hgR w h (opn w h b.1)) (show c < 16 by omega))
  have e9 : uI I 10 c (nI m) = ptI m (fun i => decide (i = c)) I := by
    have e1 : ptI m (fun _ => false) I = I := by
      funext a i
      unfold ptI
      rw [if_neg (fun y => Bool.false_ne_true y.2.2)]
    have e2 := pt_add (m := m) (k := c) (P := fun _ => false) (I := I) (by omega)
    rw [e1] at e2
    rw [e2]
    exact pt_cong (fun t _ => by rw [Bool.false_or])
  have hc16 : c < 16 := by omega
  refine call_of_wp (by decide) (Nat.le_of_ble_eq_true rfl) ?_
  refine wp_aload_n (pc := 0) (i := 0) dX6_spread_0 rfl rfl (by first | with_reducible assumption | rfl) ?_
  refine wp_getR (pc := 1) dX6_spread_1 lf_X6_37 (by first | with_reducible assumption | rfl) (by first | with_reducible assumption | rfl) rfl (by first | with_reducible assumption | rfl) (by first | with_reducible assumption | rfl) ?_
  refine wp_iload_n (pc := 4) (i := 1) dX6_spread_4 rfl rfl ?_
  refine wp_iload_n (pc := 5) (i := 2) dX6_spread_5 rfl rfl ?_
  refine wp_iast (pc := 6) dX6_spread_6 (by first | with_reducible assumption | rfl) (by first | with_reducible assumption | rfl) (by first | with_reducible assumption | omega) (by first | decide | omega) ?_
  rw [e9]
  refine wp_iconst (pc := 7) (v := nI 0) dX6_spread_7 (by decide +kernel) ?_
  refine wp_istore_n (pc := 8) (i := 3) dX6_spread_8 rfl (by decide) ?_
  exact h00
end MSP
