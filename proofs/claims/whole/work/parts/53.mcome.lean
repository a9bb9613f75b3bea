/-! THE REFERENCE'S CALLS, 10: where men can come -/
/-- closed under the steps -/
def Clo (R : Nat → Nat → Bool) (S : Nat → Bool) : Prop := ∀ i t, S i = true → R i t = true → S t = true
/-- in a round: S as it was at its beginning, P now, the cells ahead of a are done -/
def RIn (R : Nat → Nat → Bool) (c a : Nat) (S P : Nat → Bool) : Prop := (∀ t, S t = true → P t = true) ∧ (∀ i t, i < a → S i = true → R i t = true → P t = true) ∧ (∀ t, P t = true → Cl R c t) ∧ (Clo R S → ∀ t, P t = true → S t = true)
/-- between rounds -/
def ROu (R : Nat → Nat → Bool) (c r : Nat) (S : Nat → Bool) : Prop := S c = true ∧ (∀ t, S t = true → Cl R c t) ∧ (Clo R S ∨ r + 1 ≤ cnt S)
theorem cnt_lt {P Q : Nat → Bool} {t : Nat} (h : ∀ i, i < 16 → P i = true → Q i = true) (ht : t < 16) (h1 : P t = false) (h2 : Q t = true) : cnt P + 1 ≤ cnt Q := by
  have e := fb_ct_upd P true (i := t) (n := 16) ht
  rw [h1] at e
  simp only [Bool.false_eq_true, if_false, if_true] at e
  have s : fb_ct (fun k => if k = t then true else P k) 16 ≤ fb_ct Q 16 := fb_ct_sub (fun k hk hp => by
    by_cases y : k = t
    · subst y; exact h2
    · rw [if_neg y] at hp; exact h k hk hp)
  unfold cnt
  omega
theorem RIn.start {R : Nat → Nat → Bool} {c r : Nat} {S : Nat → Bool} (h : ROu R c r S) : RIn R c 0 S S := ⟨fun _ y => y, fun i t hi => absurd hi (Nat.not_lt_zero i), h.2.1, fun _ _ y => y⟩
theorem RIn.add {R : Nat → Nat → Bool} {c a : Nat} {S P : Nat → Bool} (h : RIn R c a S P) (ha : P a = true) : RIn R c (a + 1) S (fun t => P t || R a t) := by
  obtain ⟨h1, h2, h3, h4⟩ := h
  refine ⟨fun t y => by simp [h1 t y], fun i t hi hs hr => ?_, fun t y => ?_, fun hc t y => ?_⟩
  · rcases Nat.lt_succ_iff_lt_or_eq.mp hi with k | k
    · simp [h2 i t k hs hr]
    · rw [← k]; simp [hr]
  · rw [Bool.or_eq_true] at y
    rcases y with k | k
    · exact h3 t k
    · exact (h3 a ha).step k
  · rw [Bool.or_eq_true] at y
    rcases y with k | k
    · exact h4 hc t k
    · exact hc a t (h4 hc a ha) k
theorem RIn.skip {R : Nat → Nat → Bool} {c a : Nat} {S P : Nat → Bool} (h : RIn R c a S P) (ha : P a = false) : RIn R c (a + 1) S P := by
  obtain ⟨h1, h2, h3, h4⟩ := h
  refine ⟨h1, fun i t hi hs hr => ?_, h3, h4⟩
  rcases Nat.lt_succ_iff_lt_or_eq.mp hi with k | k
  · exact h2 i t k hs hr
  · have := h1 i hs
    rw [k, ha] at this; cases this
theorem RIn.stop {R : Nat → Nat → Bool} {c r n : Nat} {S P : Nat → Bool} (h : RIn R c n S P) (h0 : ROu R c r S) (hn : n ≤ 16) (hc : c < n) (hR : ∀ a b, R a b = true → b < n) : ROu R c (r + 1) P := by
  obtain ⟨h1, h2, h3, h4⟩ := h
  obtain ⟨k1, k2, k3⟩ := h0
  refine ⟨h1 c k1, h3, ?_⟩
  rcases Classical.em (Clo R S) with hC | hC
  · exact Or.inl (fun i t y z => h1 t (hC i t (h4 hC i y) z))
  · right
    have hk := k3.resolve_left hC
    have : ∃ i t, S i = true ∧ R i t = true ∧ S t = false := by
      rcases Classical.em (∃ i t, S i = true ∧ R i t = true ∧ S t = false) with y | y
      · exact y
      · refine absurd (fun i t a1 a2 => ?_) hC
        cases hs : S t
        · exact absurd ⟨i, t, a1, a2, hs⟩ y
        · rfl
    obtain ⟨i, t, a1, a2, a3⟩ := this
    have hi : i < n := (k2 i a1).lt hc hR
    have := cnt_lt (fun j _ y => h1 j y) (Nat.lt_of_lt_of_le (hR i t a2) hn) a3 (h2 i t hi a1 a2)
    omega
theorem ROu.fin {R : Nat → Nat → Bool} {c : Nat} {S : Nat → Bool} (h : ROu R c 16 S) : ∀ t, S t = clB R c t := by
  obtain ⟨k1, k2, k3⟩ := h
  have hle : cnt S ≤ 16 := fb_ct_le S 16
  have hC := k3.resolve_right (by omega)
  intro t
  rw [Bool.eq_iff_iff]
  exact ⟨fun y => clB_iff.mpr (k2 t y), fun y => (clB_iff.mp y) (fun t => S t = true) k1 (fun a b z1 z2 => hC a b z1 z2)⟩
theorem ROu.start {R : Nat → Nat → Bool} {c : Nat} (hc : c < 16) : ROu R c 0 (fun i => decide (i = c)) := by
  refine ⟨decide_eq_true rfl, fun t y => by have := of_decide_eq_true y; subst this; exact Cl.base, Or.inr ?_⟩
  have : 0 < cnt (fun i => decide (i = c)) := fb_ct_pos.mpr ⟨c, hc, decide_eq_true rfl⟩
  omega
section MCM
variable {d : Nat} {I : MemI} {J : MemJ} {t : List Nat} {w h last : Nat} {b : Bd} {ps : List Bd} {f : Nat → Option Bd} {z : Int64}
set_option maxHeartbeats 16000000 in
theorem sp_X6_comesTo {c : Nat} (hR : RepM t w h last b ps f z I J) (hc : c < w * h) (h2 : 2 ≤ b.1 c) : CALL ΩM (d + 5) kX6_comesTo [.ref 0, .int (nI c)] I J (PQ (.int (nI (mset (comP w h (b.1 c) (ded b.1) c)))) I J) := by
  have hW := hR.2.2.1.1
  have hV := RepM_V hR
  have hB := hR.2.2.2.1.2
  have n16 := (WH_n hW).2
  have e0 := hW.2.1
  have e1 := hW.2.2
  have ec := (hV.1 c hc).1
  rw [Nat.mul_zero, Nat.zero_add] at ec
  have hsc := hB.1 c (by omega)
  have hRn : ∀ a t, cmR w h (b.1 c) (ded b.1) a t = true → t < w * h := cmR_t
  have eP : mset (comP w h (b.1 c) (ded b.1) c) = mset (clB (cmR w h (b.1 c) (ded b.1)) c) := mset_eq fun t _ => by unfold comP; rw [if_neg (by omega)]
  rw [eP]
  have outer : ∀ m r (S : Nat → Bool), m + r = 16 → ROu (cmR w h (b.1 c) (ded b.1)) c r S → WP ΩM (d + 5) kX6_comesTo 14 [(0, .ref 0), (1, .int (nI c)), (2, .int (nI (asc (b.1 c)))), (3, .int (nI (mset S))), (4, .int (nI r))] [] I J (PQ (.int (nI (mset (clB (cmR w h (b.1 c) (ded b.1)) c)))) I J) := by
    intro m
    induction m with
    | zero =>
      intro r S hr hS
      have hr' : r = 16 := (Nat.zero_add r).symm.trans hr
      subst hr'
      have e : mset S = mset (clB (cmR w h (b.1 c) (ded b.1)) c) := mset_eq fun t _ => hS.fin t
      rw [e]
      refine wp_iload (pc := 14) dX6_comesTo_14 rfl ?_
      refine wp_bipush (pc := 16) (v := nI 16) dX6_comesTo_16 (by decide +kernel) ?_
      first | (refine wp_icmp_geN (pc := 18) (tgt := 76) dX6_comesTo_18 (by decide) (by first | with_reducible assumption | omega) (by first | with_reducible assumption | omega) (fun c_18 => ?_) (fun c_18 => ?_)) | (refine wp_icmp_ge (pc := 18) (tgt := 76) dX6_comesTo_18 (by decide) (fun c_18 => ?_) (fun c_18 => ?_))
      · refine wp_iload_n (pc := 76) (i := 3) dX6_comesTo_76 rfl rfl ?_
        refine wp_ireturn (pc := 77) dX6_comesTo_77 rfl ?_
        exact pq_i rfl
      · exact absurd (Nat.le_refl 16) c_18
    | succ m ih =>
      intro r S hr hS
      have hr16 : r < 16 := by omega
      have inner : ∀ m2 a (P : Nat → Bool), m2 + a = w * h → RIn (cmR w h (b.1 c) (ded b.1)) c a S P → WP ΩM (d + 5) kX6_comesTo 24 [(0, .ref 0), (1, .int (nI c)), (2, .int (nI (asc (b.1 c)))), (3, .int (nI (mset P))), (4, .int (nI r)), (5, .int (nI a))] [] I J (PQ (.int (nI (mset (clB (cmR w h (b.1 c) (ded b.1)) c)))) I J) := by
        intro m2
        induction m2 with
        | zero =>
          intro a P ha hP
          have ha' : a = w * h := (Nat.zero_add a).symm.trans ha
          rw [ha'] at hP
          have h0 := ih (r + 1) P (by omega) (hP.stop hS n16 hc hRn)
          clear ih
          rw [ha']
          refine wp_iload (pc := 24) dX6_comesTo_24 rfl ?_
          refine wp_aload_n (pc := 26) (i := 0) dX6_comesTo_26 rfl rfl (by first | with_reducible assumption | rfl) ?_
          refine wp_getI (pc := 27) dX6_comesTo_27 lf_X6_47 (by first | with_reducible assumption | rfl) (by first | with_reducible assumption | rfl) rfl ?_
          rw [e0]
          refine wp_aload_n (pc := 30) (i := 0) dX6_comesTo_30 rfl rfl (by first | with_reducible assumption | rfl) ?_
          refine wp_getI (pc := 31) dX6_comesTo_31 lf_X6_51 (by first | with_reducible assumption | rfl) (by first | with_reducible assumption | rfl) rfl ?_
          rw [e1]
          first | (refine wp_imulN (pc := 34) dX6_comesTo_34 ?_) | (refine wp_imul (pc := 34) dX6_comesTo_34 ?_)
          first | (refine wp_icmp_geN (pc := 35) (tgt := 70) dX6_comesTo_35 (by decide) (by first | with_reducible assumption | omega) (by first | with_reducible assumption | omega) (fun c_35 => ?_) (fun c_35 => ?_)) | (refine wp_icmp_ge (pc := 35) (tgt := 70) dX6_comesTo_35 (by decide) (fun c_35 => ?_) (fun c_35 => ?_))
          · first | (refine wp_iincN (pc := 70) (m := 1) dX6_comesTo_70 rfl rfl (by decide) ?_) | (refine wp_iinc (pc := 70) dX6_comesTo_70 rfl rfl (by decide) ?_)
            refine wp_goto (pc := 73) (tgt := 14) dX6_comesTo_73 (by decide) ?_
            refine wp_drop 5 ?_
            exact h0
          · exact absurd (Nat.le_refl _) c_35
        | succ m2 ih2 =>
          intro a P ha hP
          have han : a < w * h := by omega
          have hpl := mset_lt P
          have hbit : mset P / 2 ^ a &&& 1 = (P a).toNat := by rw [bit_1, mset_bit' _ (by omega)]
          have hgo := sp_X6_going (d := d) (J := J) (nb := true) hW hV hB.1 (show 0 < 4 by decide) han h2 hsc
          rw [nfr_t] at hgo
          have h0 := fun P2 => ih2 (a + 1) P2 (by omega)
          clear ih ih2
          cases hv : P a
          · have h1 := h0 P (hP.skip hv)
            rw [hv] at hbit
            refine wp_iload (pc := 24) dX6_comesTo_24 rfl ?_
            refine wp_aload_n (pc := 26) (i := 0) dX6_comesTo_26 rfl rfl (by first | with_reducible assumption | rfl) ?_
            refine wp_getI (pc := 27) dX6_comesTo_27 lf_X6_47 (by first | with_reducible assumption | rfl) (by first | with_reducible assumption | rfl) rfl ?_
            rw [e0]
            refine wp_aload_n (pc := 30) (i := 0) dX6_comesTo_30 rfl rfl (by first | with_reducible assumption | rfl) ?_
            refine wp_getI (pc := 31) dX6_comesTo_31 lf_X6_51 (by first | with_reducible assumption | rfl) (by first | with_reducible assumption | rfl) rfl ?_
            rw [e1]
            first | (refine wp_imulN (pc := 34) dX6_comesTo_34 ?_) | (refine wp_imul (pc := 34) dX6_comesTo_34 ?_)
            first | (refine wp_icmp_geN (pc := 35) (tgt := 70) dX6_comesTo_35 (by decide) (by first | with_reducible assumption | omega) (by first | with_reducible assumption | omega) (fun c_35 => ?_) (fun c_35 => ?_)) | (refine wp_icmp_ge (pc := 35) (tgt := 70) dX6_comesTo_35 (by decide) (fun c_35 => ?_) (fun c_35 => ?_))
            · exact absurd c_35 (by omega)
            · refine wp_iload_n (pc := 38) (i := 3) dX6_comesTo_38 rfl rfl ?_
              refine wp_iload_n (pc := 39) (i := 3) dX6_comesTo_39 rfl rfl ?_
              refine wp_iload (pc := 40) dX6_comesTo_40 rfl ?_
              first | (refine wp_ishrN (pc := 42) dX6_comesTo_42 (by first | with_reducible assumption | omega) (by first | with_reducible assumption | omega) ?_) | (refine wp_ishr (pc := 42) dX6_comesTo_42 ?_)
              refine wp_iconst (pc := 43) (v := nI 1) dX6_comesTo_43 (by decide +kernel) ?_
              first | (refine wp_iandN (pc := 44) dX6_comesTo_44 ?_) | (refine wp_iand (pc := 44) dX6_comesTo_44 ?_)
              rw [hbit]
              refine wp_iconst (pc := 45) (v := nI 1) dX6_comesTo_45 (by decide +kernel) ?_
              first | (refine wp_icmp_neN (pc := 46) (tgt := 61) dX6_comesTo_46 (by decide) (by first | with_reducible assumption | omega) (by first | with_reducible assumption | omega) (fun c_46 => ?_) (fun c_46 => ?_)) | (refine wp_icmp_ne (pc := 46) (tgt := 61) dX6_comesTo_46 (by decide) (fun c_46 => ?_) (fun c_46 => ?_))
              · refine wp_iconst (pc := 61) (v := nI 0) dX6_comesTo_61 (by decide +kernel) ?_
                refine wp_ior (pc := 62) dX6_comesTo_62 ?_
                rw [show ∀ x : Int32, x ||| nI 0 = x from fun x => by rw [show nI 0 = (0 : Int32) from rfl, Int32.or_zero]]
                refine wp_istore_n (pc := 63) (i := 3) dX6_comesTo_63 rfl (by decide) ?_
                first | (refine wp_iincN (pc := 64) (m := 1) dX6_comesTo_64 rfl rfl (by decide) ?_) | (refine wp_iinc (pc := 64) dX6_comesTo_64 rfl rfl (by decide) ?_)
                refine wp_goto (pc := 67) (tgt := 24) dX6_comesTo_67 (by decide) ?_
                exact h1
              · exact absurd c_46 (by decide)
          · have h1 := h0 _ (hP.add hv)
            rw [hv] at hbit
            refine wp_iload (pc := 24) dX6_comesTo_24 rfl ?_
            refine wp_aload_n (pc := 26) (i := 0) dX6_comesTo_26 rfl rfl (by first | with_reducible assumption | rfl) ?_
            refine wp_getI (pc := 27) dX6_comesTo_27 lf_X6_47 (by first | with_reducible assumption | rfl) (by first | with_reducible assumption | rfl) rfl ?_
            rw [e0]
            refine wp_aload_n (pc := 30) (i := 0) dX6_comesTo_30 rfl rfl (by first | with_reducible assumption | rfl) ?_
            refine wp_getI (pc := 31) dX6_comesTo_31 lf_X6_51 (by first | with_reducible assumption | rfl) (by first | with_reducible assumption | rfl) rfl ?_
            rw [e1]
            first | (refine wp_imulN (pc := 34) dX6_comesTo_34 ?_) | (refine wp_imul (pc := 34) dX6_comesTo_34 ?_)
            first | (refine wp_icmp_geN (pc := 35) (tgt := 70) dX6_comesTo_35 (by decide) (by first | with_reducible assumption | omega) (by first | with_reducible assumption | omega) (fun c_35 => ?_) (fun c_35 => ?_)) | (refine wp_icmp_ge (pc := 35) (tgt := 70) dX6_comesTo_35 (by decide) (fun c_35 => ?_) (fun c_35 => ?_))
            · exact absurd c_35 (by omega)
            · refine wp_iload_n (pc := 38) (i := 3) dX6_comesTo_38 rfl rfl ?_
              refine wp_iload_n (pc := 39) (i := 3) dX6_comesTo_39 rfl rfl ?_
              refine wp_iload (pc := 40) dX6_comesTo_40 rfl ?_
              first | (refine wp_ishrN (pc := 42) dX6_comesTo_42 (by first | with_reducible assumption | omega) (by first | with_reducible assumption | omega) ?_) | (refine wp_ishr (pc := 42) dX6_comesTo_42 ?_)
              refine wp_iconst (pc := 43) (v := nI 1) dX6_comesTo_43 (by decide +kernel) ?_
              first | (refine wp_iandN (pc := 44) dX6_comesTo_44 ?_) | (refine wp_iand (pc := 44) dX6_comesTo_44 ?_)
              rw [hbit]
              refine wp_iconst (pc := 45) (v := nI 1) dX6_comesTo_45 (by decide +kernel) ?_
              first | (refine wp_icmp_neN (pc := 46) (tgt := 61) dX6_comesTo_46 (by decide) (by first | with_reducible assumption | omega) (by first | with_reducible assumption | omega) (fun c_46 => ?_) (fun c_46 => ?_)) | (refine wp_icmp_ne (pc := 46) (tgt := 61) dX6_comesTo_46 (by decide) (fun c_46 => ?_) (fun c_46 => ?_))
              · exact absurd rfl c_46
              · refine wp_aload_n (pc := 49) (i := 0) dX6_comesTo_49 rfl rfl (by first | with_reducible assumption | rfl) ?_
                refine wp_iconst (pc := 50) (v := nI 0) dX6_comesTo_50 (by decide +kernel) ?_
                refine wp_iload_n (pc := 51) (i := 2) dX6_comesTo_51 rfl rfl ?_
                refine wp_iload (pc := 52) dX6_comesTo_52 rfl ?_
                refine wp_iconst (pc := 54) (v := bI true) dX6_comesTo_54 (by decide +kernel) ?_
                refine wp_cVP4 (pc := 55) (ci := 6) dX6_comesTo_55 lm_X6_119 m_X6_going (by first | with_reducible assumption | rfl) (by first | with_reducible assumption | rfl) (by decide) rfl (Nat.le_of_ble_eq_true rfl) hgo ?_
                refine wp_goto (pc := 58) (tgt := 62) dX6_comesTo_58 (by decide) ?_
                first | (refine wp_iorN (pc := 62) dX6_comesTo_62 ?_) | (refine wp_ior (pc := 62) dX6_comesTo_62 ?_)
                rw [mset_or]
                refine wp_istore_n (pc := 63) (i := 3) dX6_comesTo_63 rfl (by decide) ?_
                first | (refine wp_iincN (pc := 64) (m := 1) dX6_comesTo_64 rfl rfl (by decide) ?_) | (refine wp_iinc (pc := 64) dX6_comesTo_64 rfl rfl (by decide) ?_)
                refine wp_goto (pc := 67) (tgt := 24) dX6_comesTo_67 (by decide) ?_
                exact h1
      have h00 := inner (w * h) 0 S rfl (RIn.start hS)
      clear inner ih
      refine wp_iload (pc := 14) dX6_comesTo_14 rfl ?_
      refine wp_bipush (pc := 16) (v := nI 16) dX6_comesTo_16 (by decide +kernel) ?_
      first | (refine wp_icmp_geN (pc := 18) (tgt := 76) dX6_comesTo_18 (by decide) (by first | with_reducible assumption | omega) (by first | with_reducible assumption | omega) (fun c_18 => ?_) (fun c_18 => ?_)) | (refine wp_icmp_ge (pc := 18) (tgt := 76) dX6_comesTo_18 (by decide) (fun c_18 => ?_) (fun c_18 => ?_))
      · exact absurd c_18 (by omega)
      · refine wp_iconst (pc := 21) (v := nI 0) dX6_comesTo_21 (by decide +kernel) ?_
        refine wp_istore (pc := 22) dX6_comesTo_22 (by decide) ?_
        exact h00
  have h00 := outer 16 0 _ rfl (ROu.start (R := cmR w h (b.1 c) (ded b.1)) (show c < 16 by omega))
  refine call_of_wp (by decide) (Nat.le_of_ble_eq_true rfl) ?_
  refine wp_aload_n (pc := 0) (i := 0) dX6_comesTo_0 rfl rfl (by first | with_reducible assumption | rfl) ?_
  refine wp_getR (pc := 1) dX6_comesTo_1 lf_X6_7 (by first | with_reducible assumption | rfl) (by first | with_reducible assumption | rfl) rfl (by first | with_reducible assumption | rfl) (by first | with_reducible assumption | rfl) ?_
  refine wp_iload_n (pc := 4) (i := 1) dX6_comesTo_4 rfl rfl ?_
  refine wp_iald (pc := 5) dX6_comesTo_5 (by first | with_reducible assumption | rfl) (by first | with_reducible assumption | rfl) (by first | with_reducible assumption | omega) (by first | decide | omega) ?_
  rw [ec]
  refine wp_istore_n (pc := 6) (i := 2) dX6_comesTo_6 rfl (by decide) ?_
  refine wp_iconst (pc := 7) (v := nI 1) dX6_comesTo_7 (by decide +kernel) ?_
  refine wp_iload_n (pc := 8) (i := 1) dX6_comesTo_8 rfl rfl ?_
  first | (refine wp_ishl1 (pc := 9) dX6_comesTo_9 (by first | with_reducible assumption | omega) ?_) | (refine wp_ishlN (pc := 9) dX6_comesTo_9 (by first | with_reducible assumption | omega) (by first | with_reducible assumption | omega) ?_) | (refine wp_ishl (pc := 9) dX6_comesTo_9 ?_)
  rw [mset_one (show c < 16 by omega)]
  refine wp_istore_n (pc := 10) (i := 3) dX6_comesTo_10 rfl (by decide) ?_
  refine wp_iconst (pc := 11) (v := nI 0) dX6_comesTo_11 (by decide +kernel) ?_
  refine wp_istore (pc := 12) dX6_comesTo_12 (by decide) ?_
  exact h00
set_option maxHeartbeats 16000000 in
theorem sp_X6_comes {x : Int32} (hR : RepM t w h last b ps f z I J) : CALL ΩM (d + 6) kX6_comes [.ref 0, .int x] I J (AM (aComes w h b x) (t, (w, h, last), b, ps, f, z)) := by
  have hwh := RepM_16 hR
  have hW := hR.2.2.1.1
  have hV := RepM_V hR
  have hB := hR.2.2.2.1.2
  cases hx : inB x (w * h)
  · have e : aComes w h b x = -1 := if_neg (by rw [hx]; exact Bool.false_ne_true)
    rw [e]
    refine call_of_wp (by decide) (Nat.le_of_ble_eq_true rfl) ?_
    refine wp_aload_n (pc := 0) (i := 0) dX6_comes_0 rfl rfl (by first | with_reducible assumption | rfl) ?_
    refine wp_iload_n (pc := 1) (i := 1) dX6_comes_1 rfl rfl ?_
    refine wp_cVP1 (pc := 2) (ci := 6) dX6_comes_2 lm_X6_94 m_X6_isCell (by first | with_reducible assumption | rfl) (by first | with_reducible assumption | rfl) (by decide) rfl (Nat.le_of_ble_eq_true rfl) (sp_X6_isCell (d := d + 4) hW) ?_
    rw [hx]
    refine wp_if_neB (pc := 5) (tgt := 10) dX6_comes_5 (by decide) (fun c_5 => ?_) (fun c_5 => ?_)
    · exact Bool.noConfusion c_5
    · refine wp_iconst (pc := 8) (v := (-1)) dX6_comes_8 (by decide +kernel) ?_
      refine wp_ireturn (pc := 9) dX6_comes_9 rfl ?_
      exact am_i rfl hR
  · obtain ⟨c, hc, rfl⟩ := inB_t (by omega) hx
    have e : aComes w h b (nI c) = nI (mset (comP w h (b.1 c) (ded b.1) c)) := by unfold aComes; rw [if_pos hx, cI_n (by omega)]
    have ec := (hV.1 c hc).1
    rw [Nat.mul_zero, Nat.zero_add] at ec
    have hsc := hB.1 c (by omega)
    have hac := asc_lt (b.1 c)
    have hsf := sp_X6_sideOf (Ω := ΩM) (d := d + 5) (I := I) (J := J) (b := asc (b.1 c)) (by omega)
    rw [sdB_asc _ hsc] at hsf
    rw [e]
    by_cases h2 : b.1 c < 2
    · have e9 : sdI (b.1 c) = -9 := by unfold sdI; rw [if_pos h2]
      have ez : mset (comP w h (b.1 c) (ded b.1) c) = 0 := mset_zero.mpr (fun t _ => by unfold comP; rw [if_pos h2])
      rw [e9] at hsf
      rw [ez]
      refine call_of_wp (by decide) (Nat.le_of_ble_eq_true rfl) ?_
      refine wp_aload_n (pc := 0) (i := 0) dX6_comes_0 rfl rfl (by first | with_reducible assumption | rfl) ?_
      refine wp_iload_n (pc := 1) (i := 1) dX6_comes_1 rfl rfl ?_
      refine wp_cVP1 (pc := 2) (ci := 6) dX6_comes_2 lm_X6_94 m_X6_isCell (by first | with_reducible assumption | rfl) (by first | with_reducible assumption | rfl) (by decide) rfl (Nat.le_of_ble_eq_true rfl) (sp_X6_isCell (d := d + 4) hW) ?_
      rw [hx]
      refine wp_if_neB (pc := 5) (tgt := 10) dX6_comes_5 (by decide) (fun c_5 => ?_) (fun c_5 => ?_)
      · refine wp_aload_n (pc := 10) (i := 0) dX6_comes_10 rfl rfl (by first | with_reducible assumption | rfl) ?_
        refine wp_getR (pc := 11) dX6_comes_11 lf_X6_7 (by first | with_reducible assumption | rfl) (by first | with_reducible assumption | rfl) rfl (by first | with_reducible assumption | rfl) (by first | with_reducible assumption | rfl) ?_
        refine wp_iload_n (pc := 14) (i := 1) dX6_comes_14 rfl rfl ?_
        refine wp_iald (pc := 15) dX6_comes_15 (by first | with_reducible assumption | rfl) (by first | with_reducible assumption | rfl) (by first | with_reducible assumption | omega) (by first | decide | omega) ?_
        rw [ec]
        refine wp_cSP1 (pc := 16) dX6_comes_16 lm_X6_65 m_X6_sideOf (Nat.le_of_ble_eq_true rfl) hsf ?_
        refine wp_bipush (pc := 19) (v := (-9)) dX6_comes_19 (by decide +kernel) ?_
        refine wp_icmp_ne (pc := 21) (tgt := 28) dX6_comes_21 (by decide) (fun c_21 => ?_) (fun c_21 => ?_)
        · exact absurd rfl c_21
        · refine wp_iconst (pc := 24) (v := nI 0) dX6_comes_24 (by decide +kernel) ?_
          refine wp_goto (pc := 25) (tgt := 33) dX6_comes_25 (by decide) ?_
          refine wp_ireturn (pc := 33) dX6_comes_33 rfl ?_
          exact am_i rfl hR
      · exact Bool.noConfusion c_5
    · have e9 : sdI (b.1 c) = nI (sd (b.1 c)) := sd_i _ hsc (by omega)
      have hne : ¬ nI (sd (b.1 c)) = -9 := nine_ne (sd_lt _)
      have hct := sp_X6_comesTo (d := d) hR hc (by omega)
      rw [e9] at hsf
      refine call_of_wp (by decide) (Nat.le_of_ble_eq_true rfl) ?_
      refine wp_aload_n (pc := 0) (i := 0) dX6_comes_0 rfl rfl (by first | with_reducible assumption | rfl) ?_
      refine wp_iload_n (pc := 1) (i := 1) dX6_comes_1 rfl rfl ?_
      refine wp_cVP1 (pc := 2) (ci := 6) dX6_comes_2 lm_X6_94 m_X6_isCell (by first | with_reducible assumption | rfl) (by first | with_reducible assumption | rfl) (by decide) rfl (Nat.le_of_ble_eq_true rfl) (sp_X6_isCell (d := d + 4) hW) ?_
      rw [hx]
      refine wp_if_neB (pc := 5) (tgt := 10) dX6_comes_5 (by decide) (fun c_5 => ?_) (fun c_5 => ?_)
      · refine wp_aload_n (pc := 10) (i := 0) dX6_comes_10 rfl rfl (by first | with_reducible assumption | rfl) ?_
        refine wp_getR (pc := 11) dX6_comes_11 lf_X6_7 (by first | with_reducible assumption | rfl) (by first | with_reducible assumption | rfl) rfl (by first | with_reducible assumption | rfl) (by first | with_reducible assumption | rfl) ?_
        refine wp_iload_n (pc := 14) (i := 1) dX6_comes_14 rfl rfl ?_
        refine wp_iald (pc := 15) dX6_comes_15 (by first | with_reducible assumption | rfl) (by first | with_reducible assumption | rfl) (by first | with_reducible assumption | omega) (by first | decide | omega) ?_
        rw [ec]
        refine wp_cSP1 (pc := 16) dX6_comes_16 lm_X6_65 m_X6_sideOf (Nat.le_of_ble_eq_true rfl) hsf ?_
        refine wp_bipush (pc := 19) (v := (-9)) dX6_comes_19 (by decide +kernel) ?_
        refine wp_icmp_ne (pc := 21) (tgt := 28) dX6_comes_21 (by decide) (fun c_21 => ?_) (fun c_21 => ?_)
        · refine wp_aload_n (pc := 28) (i := 0) dX6_comes_28 rfl rfl (by first | with_reducible assumption | rfl) ?_
          refine wp_iload_n (pc := 29) (i := 1) dX6_comes_29 rfl rfl ?_
          refine wp_cVP1 (pc := 30) (ci := 6) dX6_comes_30 lm_X6_175 m_X6_comesTo (by first | with_reducible assumption | rfl) (by first | with_reducible assumption | rfl) (by decide) rfl (Nat.le_of_ble_eq_true rfl) hct ?_
          refine wp_ireturn (pc := 33) dX6_comes_33 rfl ?_
          exact am_i rfl hR
        · exact absurd c_21 hne
      · exact Bool.noConfusion c_5
end MCM
