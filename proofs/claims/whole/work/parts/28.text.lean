/-! THE TEXT -/
/-- the bytes of the text -/
def TX (t : List Nat) (I : MemI) : Prop := I 1 1 = nI t.length ∧ t.length ≤ 24 ∧ ∀ j b, t[j]? = some b → I 2 j &&& nI 255 = nI b ∧ b < 256
def bys : Nat → Nat → List Nat
  | 0, _ => []
  | k + 1, m => (m / 2 ^ (8 * k) % 256) :: bys k m
theorem bys_len (m : Nat) : ∀ k, (bys k m).length = k
  | 0 => rfl
  | k + 1 => by rw [bys, List.length_cons, bys_len m k]
theorem bys_lt (m : Nat) : ∀ k b, b ∈ bys k m → b < 256
  | 0, b, h => by simp [bys] at h
  | k + 1, b, h => by
    rw [bys, List.mem_cons] at h
    rcases h with h | h
    · rw [h]; exact Nat.mod_lt _ (by decide)
    · exact bys_lt m k b h
theorem TX_push {t : List Nat} {I : MemI} {v : Int32} {b : Nat} (h : TX t I) (hl : t.length < 24) (hv : v &&& nI 255 = nI b) (hb : b < 256) : TX (t ++ [b]) (uI (uI I 2 t.length v) 1 1 (nI (t.length + 1))) := by
  obtain ⟨h1, h2, h3⟩ := h
  refine ⟨?_, ?_, fun j c hj => ?_⟩
  · rw [List.length_append]; simp [uI]
  · rw [List.length_append, List.length_singleton]; omega
  · by_cases e : j = t.length
    · subst e
      rw [List.getElem?_append_right (Nat.le_refl _), Nat.sub_self] at hj
      have : b = c := by simpa using hj
      subst this
      exact ⟨by simp [uI, hv], hb⟩
    · have hjl : j < t.length := by
        rcases Nat.lt_or_ge j t.length with z | z
        · exact z
        · rw [List.getElem?_append_right z, List.getElem?_eq_none (by rw [List.length_singleton]; omega)] at hj; cases hj
      rw [List.getElem?_append_left hjl] at hj
      have := h3 j c hj
      exact ⟨by simp [uI, e, this.1], this.2⟩
theorem TX_n {t : List Nat} {I I' : MemI} (h : TX t I) (hI : ∀ a i, 1 ≤ a → a ≤ 2 → I' a i = I a i) : TX t I' := by
  obtain ⟨h1, h2, h3⟩ := h
  exact ⟨by rw [hI _ _ (by omega) (by omega)]; exact h1, h2, fun j b hj => by rw [hI _ _ (by omega) (by omega)]; exact h3 j b hj⟩
theorem TX_get {t : List Nat} {I : MemI} {i : Nat} (h : TX t I) (hi : i < t.length) : I 2 i &&& nI 255 = nI (t.getD i 0) ∧ t.getD i 0 < 256 := by
  have e : t[i]? = some (t.getD i 0) := by
    rw [List.getD_eq_getElem?_getD, List.getElem?_eq_getElem hi]; rfl
  exact h.2.2 i _ e
/-- the byte that is stored -/
theorem byt_st (x : Nat) : vp_nar .byte (nI x).toInt8.toInt32 &&& nI 255 = nI (x % 256) := by
  show (nI x).toInt8.toInt32.toInt8.toInt32 &&& nI 255 = _
  rw [show nI 255 = (255 : Int32) by decide +kernel, bp_b, bp_b, ← and_255, show (255 : Int32) = nI 255 by decide +kernel, fa_and]
def wT (t : List Nat) : Nat := t.getD 1 0 - 48
def htT (t : List Nat) : Nat := t.getD 2 0 - 48
def lT (t : List Nat) : Nat := t.getD 3 0 - 48
def oT (t : List Nat) : Nat := if t.getD 4 0 = 98 then 1 else 0
/-- whether the byte can be where it is, if all ahead can -/
def fitT (t : List Nat) (i : Nat) : Bool := match i with
  | 0 => decide (t.getD 0 0 = 71)
  | 1 => decide (49 ≤ t.getD 1 0 ∧ t.getD 1 0 ≤ 52)
  | 2 => decide (49 ≤ t.getD 2 0 ∧ t.getD 2 0 ≤ 52)
  | 3 => decide (48 ≤ t.getD 3 0 ∧ t.getD 3 0 ≤ 57)
  | 4 => decide (t.getD 4 0 = 119 ∨ t.getD 4 0 = 98)
  | k + 5 => decide (k < wT t * htT t) && (sgn (t.getD (k + 5) 0)).isSome
/-- the first fault -/
def ffT (t : List Nat) : Option Nat := match (List.range t.length).find? (fun i => !fitT t i) with
  | some i => some i
  | none => if t.length < 5 ∨ t.length < 5 + wT t * htT t then some t.length else none
def ffI (o : Option Nat) : Int32 := match o with
  | none => -9
  | some i => nI i
section TXT
variable {d : Nat} {I : MemI} {J : MemJ}
set_option maxHeartbeats 16000000 in
theorem sp_X4_add {t : List Nat} {n m : Nat} (hT : TX t I) (hn : n ≤ 8) (hl : t.length + n ≤ 24) (hm : m < 18446744073709551616) : CALL ΩC d kX4_add [.ref 1, .int (nI n), .long (lN m)] I J (VQ (fun I' J' => TX (t ++ bys n m) I' ∧ (∀ a i, (a < 1 ∨ 2 < a) → I' a i = I a i) ∧ J' = J)) := by
  have loop : ∀ k (u : List Nat) (I2 : MemI), k ≤ 8 → u.length + k ≤ 24 → TX u I2 → (∀ a i, (a < 1 ∨ 2 < a) → I2 a i = I a i) → u ++ bys k m = t ++ bys n m → WP ΩC d kX4_add 5 [(0, .ref 1), (1, .int (nI n)), (2, .long (lN m)), (4, .int (zI ((k : Int) - 1)))] [] I2 J (VQ (fun I' J' => TX (t ++ bys n m) I' ∧ (∀ a i, (a < 1 ∨ 2 < a) → I' a i = I a i) ∧ J' = J)) := by
    intro k
    induction k with
    | zero =>
      intro u I2 hk hul hu hfr he
      rw [bys, List.append_nil] at he
      have hlt : zI (((0 : Nat) : Int) - 1) < 0 := by decide +kernel
      refine wp_iload (pc := 5) dX4_add_5 rfl ?_
      refine wp_if_lt (pc := 7) (tgt := 63) dX4_add_7 (by decide) (fun c_7 => ?_) (fun c_7 => ?_)
      · refine wp_return (pc := 63) dX4_add_63 rfl ?_
        exact vq_i ⟨he ▸ hu, hfr, rfl⟩
      · exact absurd hlt c_7
    | succ k ih =>
      intro u I2 hk hul hu hfr he
      have e1 : zI (((k + 1 : Nat) : Int) - 1) = nI k := by
        rw [zI_n]
        congr 1
        omega
      have hL := hu.1
      have hul2 : u.length < 24 := by omega
      have hL2 : ∀ v, uI I2 2 u.length v 1 1 = nI u.length := fun v => by simp [uI, hL]
      have hnext := TX_push hu hul2 (byt_st (m / 2 ^ (8 * k))) (Nat.mod_lt _ (by decide))
      rw [e1]
      refine wp_iload (pc := 5) dX4_add_5 rfl ?_
      refine wp_if_ltN (pc := 7) (tgt := 63) dX4_add_7 (by decide) (by first | with_reducible assumption | omega) ?_
      refine wp_aload_n (pc := 10) (i := 0) dX4_add_10 rfl rfl (by first | with_reducible assumption | rfl) ?_
      refine wp_getI (pc := 11) dX4_add_11 lf_X4_15 (by first | with_reducible assumption | rfl) (by first | with_reducible assumption | rfl) rfl ?_
      rw [hL]
      refine wp_if_ltN (pc := 14) (tgt := 57) dX4_add_14 (by decide) (by first | with_reducible assumption | omega) ?_
      refine wp_aload_n (pc := 17) (i := 0) dX4_add_17 rfl rfl (by first | with_reducible assumption | rfl) ?_
      refine wp_getI (pc := 18) dX4_add_18 lf_X4_15 (by first | with_reducible assumption | rfl) (by first | with_reducible assumption | rfl) rfl ?_
      rw [hL]
      refine wp_aload_n (pc := 21) (i := 0) dX4_add_21 rfl rfl (by first | with_reducible assumption | rfl) ?_
      refine wp_getR (pc := 22) dX4_add_22 lf_X4_9 (by first | with_reducible assumption | rfl) (by first | with_reducible assumption | rfl) rfl (by first | with_reducible assumption | rfl) (by first | with_reducible assumption | rfl) ?_
      refine wp_alen (pc := 25) dX4_add_25 (by first | with_reducible assumption | rfl) (by first | with_reducible assumption | rfl) (by first | decide | omega) ?_
      first | (refine wp_icmp_geN (pc := 26) (tgt := 57) dX4_add_26 (by decide) (by first | with_reducible assumption | omega) (by first | with_reducible assumption | omega) (fun c_26 => ?_) (fun c_26 => ?_)) | (refine wp_icmp_ge (pc := 26) (tgt := 57) dX4_add_26 (by decide) (fun c_26 => ?_) (fun c_26 => ?_))
      · exact absurd c_26 (by omega)
      · refine wp_aload_n (pc := 29) (i := 0) dX4_add_29 rfl rfl (by first | with_reducible assumption | rfl) ?_
        refine wp_getR (pc := 30) dX4_add_30 lf_X4_9 (by first | with_reducible assumption | rfl) (by first | with_reducible assumption | rfl) rfl (by first | with_reducible assumption | rfl) (by first | with_reducible assumption | rfl) ?_
        refine wp_aload_n (pc := 33) (i := 0) dX4_add_33 rfl rfl (by first | with_reducible assumption | rfl) ?_
        refine wp_getI (pc := 34) dX4_add_34 lf_X4_15 (by first | with_reducible assumption | rfl) (by first | with_reducible assumption | rfl) rfl ?_
        rw [hL]
        refine wp_lload_n (pc := 37) (i := 2) dX4_add_37 rfl rfl ?_
        refine wp_bipush (pc := 38) (v := nI 8) dX4_add_38 (by decide +kernel) ?_
        refine wp_iload (pc := 40) dX4_add_40 rfl ?_
        first | (refine wp_imulN (pc := 42) dX4_add_42 ?_) | (refine wp_imul (pc := 42) dX4_add_42 ?_)
        first | (refine wp_lushrN (pc := 43) dX4_add_43 (by first | with_reducible assumption | omega) (by first | with_reducible assumption | omega) ?_) | (refine wp_lushr (pc := 43) dX4_add_43 ?_)
        first | (refine wp_l2iN (pc := 44) dX4_add_44 ?_) | (refine wp_l2i (pc := 44) dX4_add_44 ?_)
        refine wp_i2b (pc := 45) dX4_add_45 ?_
        refine wp_bast (pc := 46) dX4_add_46 (by first | with_reducible assumption | rfl) (by first | with_reducible assumption | rfl) (by first | with_reducible assumption | omega) (by first | decide | omega) ?_
        refine wp_aload_n (pc := 47) (i := 0) dX4_add_47 rfl rfl (by first | with_reducible assumption | rfl) ?_
        refine wp_dup (pc := 48) dX4_add_48 rfl ?_
        refine wp_getI (pc := 49) dX4_add_49 lf_X4_15 (by first | with_reducible assumption | rfl) (by first | with_reducible assumption | rfl) rfl ?_
        rw [hL2]
        refine wp_iconst (pc := 52) (v := nI 1) dX4_add_52 (by decide +kernel) ?_
        first | (refine wp_iaddN (pc := 53) dX4_add_53 ?_) | (refine wp_iadd (pc := 53) dX4_add_53 ?_)
        refine wp_putI (pc := 54) dX4_add_54 lf_X4_15 (by first | with_reducible assumption | rfl) (by first | with_reducible assumption | rfl) rfl rfl ?_
        first | (refine wp_iincD (pc := 57) dX4_add_57 rfl (by decide) ?_) | (refine wp_iinc (pc := 57) dX4_add_57 rfl rfl (by decide) ?_)
        refine wp_goto (pc := 60) (tgt := 5) dX4_add_60 (by decide) ?_
        rw [show nI k + Int32.ofInt (-1) = zI ((k : Int) - 1) from zI_add k (-1)]
        refine ih _ _ (by omega) ?_ hnext (fun a i ha => ?_) ?_
        · rw [List.length_append, List.length_singleton]; omega
        · have a1 : ¬ a = 1 := by omega
          have a2 : ¬ a = 2 := by omega
          have := hfr a i ha
          simp [uI, a1, a2, this]
        · rw [← he, bys, List.append_assoc]; rfl
  refine call_of_wp (by decide) (Nat.le_of_ble_eq_true rfl) ?_
  refine wp_iload_n (pc := 0) (i := 1) dX4_add_0 rfl rfl ?_
  refine wp_iconst (pc := 1) (v := nI 1) dX4_add_1 (by decide +kernel) ?_
  refine wp_isub (pc := 2) dX4_add_2 ?_
  refine wp_istore (pc := 3) dX4_add_3 (by decide) ?_
  rw [show nI n - nI 1 = zI ((n : Int) - 1) from zI_sub n 1]
  exact loop n t I (by omega) (by omega) hT (fun _ _ _ => rfl) rfl
set_option maxHeartbeats 16000000 in
theorem sp_X4_byteAt {t : List Nat} {i : Nat} (hT : TX t I) (hi : i < t.length) : CALL ΩC d kX4_byteAt [.ref 1, .int (nI i)] I J (PQ (.int (nI (t.getD i 0))) I J) := by
  have hg := (TX_get hT hi).1
  have h24 := hT.2.1
  refine call_of_wp (by decide) (Nat.le_of_ble_eq_true rfl) ?_
  refine wp_iload_n (pc := 0) (i := 1) dX4_byteAt_0 rfl rfl ?_
  refine wp_if_ltN (pc := 1) (tgt := 26) dX4_byteAt_1 (by decide) (by first | with_reducible assumption | omega) ?_
  refine wp_iload_n (pc := 4) (i := 1) dX4_byteAt_4 rfl rfl ?_
  refine wp_aload_n (pc := 5) (i := 0) dX4_byteAt_5 rfl rfl (by first | with_reducible assumption | rfl) ?_
  refine wp_getR (pc := 6) dX4_byteAt_6 lf_X4_9 (by first | with_reducible assumption | rfl) (by first | with_reducible assumption | rfl) rfl (by first | with_reducible assumption | rfl) (by first | with_reducible assumption | rfl) ?_
  refine wp_alen (pc := 9) dX4_byteAt_9 (by first | with_reducible assumption | rfl) (by first | with_reducible assumption | rfl) (by first | decide | omega) ?_
  first | (refine wp_icmp_geN (pc := 10) (tgt := 26) dX4_byteAt_10 (by decide) (by first | with_reducible assumption | omega) (by first | with_reducible assumption | omega) (fun c_10 => ?_) (fun c_10 => ?_)) | (refine wp_icmp_ge (pc := 10) (tgt := 26) dX4_byteAt_10 (by decide) (fun c_10 => ?_) (fun c_10 => ?_))
  · exact absurd c_10 (by omega)
  · refine wp_aload_n (pc := 13) (i := 0) dX4_byteAt_13 rfl rfl (by first | with_reducible assumption | rfl) ?_
    refine wp_getR (pc := 14) dX4_byteAt_14 lf_X4_9 (by first | with_reducible assumption | rfl) (by first | with_reducible assumption | rfl) rfl (by first | with_reducible assumption | rfl) (by first | with_reducible assumption | rfl) ?_
    refine wp_iload_n (pc := 17) (i := 1) dX4_byteAt_17 rfl rfl ?_
    refine wp_bald (pc := 18) dX4_byteAt_18 (by first | with_reducible assumption | rfl) (by first | with_reducible assumption | rfl) (by first | with_reducible assumption | omega) (by first | decide | omega) ?_
    refine wp_sipush (pc := 19) (v := nI 255) dX4_byteAt_19 (by decide +kernel) ?_
    refine wp_iand (pc := 22) dX4_byteAt_22 ?_
    rw [hg]
    refine wp_goto (pc := 23) (tgt := 27) dX4_byteAt_23 (by decide) ?_
    refine wp_ireturn (pc := 27) dX4_byteAt_27 rfl ?_
    exact pq_i rfl
set_option maxHeartbeats 16000000 in
theorem sp_X4_figure {t : List Nat} {i : Nat} (hT : TX t I) (hi : i < t.length) (h48 : 48 ≤ t.getD i 0) : CALL ΩC (d + 1) kX4_figure [.ref 1, .int (nI i)] I J (PQ (.int (nI (t.getD i 0 - 48))) I J) := by
  refine call_of_wp (by decide) (Nat.le_of_ble_eq_true rfl) ?_
  refine wp_aload_n (pc := 0) (i := 0) dX4_figure_0 rfl rfl (by first | with_reducible assumption | rfl) ?_
  refine wp_iload_n (pc := 1) (i := 1) dX4_figure_1 rfl rfl ?_
  refine wp_cVP1 (pc := 2) (ci := 4) dX4_figure_2 lm_X4_31 m_X4_byteAt (by first | with_reducible assumption | rfl) (by first | with_reducible assumption | rfl) (by decide) rfl (Nat.le_of_ble_eq_true rfl) (sp_X4_byteAt (by with_reducible assumption) (by first | with_reducible assumption | omega)) ?_
  refine wp_bipush (pc := 5) (v := nI 48) dX4_figure_5 (by decide +kernel) ?_
  first | (refine wp_isubN (pc := 7) dX4_figure_7 (by first | with_reducible assumption | omega) ?_) | (refine wp_isub (pc := 7) dX4_figure_7 ?_)
  refine wp_ireturn (pc := 8) dX4_figure_8 rfl ?_
  exact pq_i rfl
set_option maxHeartbeats 16000000 in
theorem sp_X4_width {t : List Nat} (hT : TX t I) (hi : 1 < t.length) (h48 : 48 ≤ t.getD 1 0) : CALL ΩC (d + 2) kX4_width [.ref 1] I J (PQ (.int (nI (wT t))) I J) := by
  refine call_of_wp (by decide) (Nat.le_of_ble_eq_true rfl) ?_
  refine wp_aload_n (pc := 0) (i := 0) dX4_width_0 rfl rfl (by first | with_reducible assumption | rfl) ?_
  refine wp_iconst (pc := 1) (v := nI 1) dX4_width_1 (by decide +kernel) ?_
  refine wp_cVP1 (pc := 2) (ci := 4) dX4_width_2 lm_X4_27 m_X4_figure (by first | with_reducible assumption | rfl) (by first | with_reducible assumption | rfl) (by decide) rfl (Nat.le_of_ble_eq_true rfl) (sp_X4_figure (by with_reducible assumption) (by first | with_reducible assumption | omega) (by first | with_reducible assumption | omega)) ?_
  refine wp_ireturn (pc := 5) dX4_width_5 rfl ?_
  exact pq_i rfl
set_option maxHeartbeats 16000000 in
theorem sp_X4_height {t : List Nat} (hT : TX t I) (hi : 2 < t.length) (h48 : 48 ≤ t.getD 2 0) : CALL ΩC (d + 2) kX4_height [.ref 1] I J (PQ (.int (nI (htT t))) I J) := by
  refine call_of_wp (by decide) (Nat.le_of_ble_eq_true rfl) ?_
  refine wp_aload_n (pc := 0) (i := 0) dX4_height_0 rfl rfl (by first | with_reducible assumption | rfl) ?_
  refine wp_iconst (pc := 1) (v := nI 2) dX4_height_1 (by decide +kernel) ?_
  refine wp_cVP1 (pc := 2) (ci := 4) dX4_height_2 lm_X4_27 m_X4_figure (by first | with_reducible assumption | rfl) (by first | with_reducible assumption | rfl) (by decide) rfl (Nat.le_of_ble_eq_true rfl) (sp_X4_figure (by with_reducible assumption) (by first | with_reducible assumption | omega) (by first | with_reducible assumption | omega)) ?_
  refine wp_ireturn (pc := 5) dX4_height_5 rfl ?_
  exact pq_i rfl
set_option maxHeartbeats 16000000 in
theorem sp_X4_last {t : List Nat} (hT : TX t I) (hi : 3 < t.length) (h48 : 48 ≤ t.getD 3 0) : CALL ΩC (d + 2) kX4_last [.ref 1] I J (PQ (.int (nI (lT t))) I J) := by
  refine call_of_wp (by decide) (Nat.le_of_ble_eq_true rfl) ?_
  refine wp_aload_n (pc := 0) (i := 0) dX4_last_0 rfl rfl (by first | with_reducible assumption | rfl) ?_
  refine wp_iconst (pc := 1) (v := nI 3) dX4_last_1 (by decide +kernel) ?_
  refine wp_cVP1 (pc := 2) (ci := 4) dX4_last_2 lm_X4_27 m_X4_figure (by first | with_reducible assumption | rfl) (by first | with_reducible assumption | rfl) (by decide) rfl (Nat.le_of_ble_eq_true rfl) (sp_X4_figure (by with_reducible assumption) (by first | with_reducible assumption | omega) (by first | with_reducible assumption | omega)) ?_
  refine wp_ireturn (pc := 5) dX4_last_5 rfl ?_
  exact pq_i rfl
set_option maxHeartbeats 16000000 in
theorem sp_X4_side {t : List Nat} (hT : TX t I) (hi : 4 < t.length) : CALL ΩC (d + 1) kX4_side [.ref 1] I J (PQ (.int (nI (oT t))) I J) := by
  have hb := (TX_get hT hi).2
  refine call_of_wp (by decide) (Nat.le_of_ble_eq_true rfl) ?_
  refine wp_aload_n (pc := 0) (i := 0) dX4_side_0 rfl rfl (by first | with_reducible assumption | rfl) ?_
  refine wp_iconst (pc := 1) (v := nI 4) dX4_side_1 (by decide +kernel) ?_
  refine wp_cVP1 (pc := 2) (ci := 4) dX4_side_2 lm_X4_31 m_X4_byteAt (by first | with_reducible assumption | rfl) (by first | with_reducible assumption | rfl) (by decide) rfl (Nat.le_of_ble_eq_true rfl) (sp_X4_byteAt (by with_reducible assumption) (by first | with_reducible assumption | omega)) ?_
  refine wp_bipush (pc := 5) (v := nI 98) dX4_side_5 (by decide +kernel) ?_
  first | (refine wp_icmp_neN (pc := 7) (tgt := 14) dX4_side_7 (by decide) (by first | with_reducible assumption | omega) (by first | with_reducible assumption | omega) (fun c_7 => ?_) (fun c_7 => ?_)) | (refine wp_icmp_ne (pc := 7) (tgt := 14) dX4_side_7 (by decide) (fun c_7 => ?_) (fun c_7 => ?_))
  · refine wp_iconst (pc := 14) (v := nI 0) dX4_side_14 (by decide +kernel) ?_
    refine wp_ireturn (pc := 15) dX4_side_15 rfl ?_
    first | (have g : ¬ t.getD 4 0 = 98 := c_7; exact pq_i (by unfold oT; rw [if_neg g])) | (have g : t.getD 4 0 = 98 := c_7; exact pq_i (by unfold oT; rw [if_pos g]))
  · refine wp_iconst (pc := 10) (v := nI 1) dX4_side_10 (by decide +kernel) ?_
    refine wp_goto (pc := 11) (tgt := 15) dX4_side_11 (by decide) ?_
    refine wp_ireturn (pc := 15) dX4_side_15 rfl ?_
    first | (have g : ¬ t.getD 4 0 = 98 := c_7; exact pq_i (by unfold oT; rw [if_neg g])) | (have g : t.getD 4 0 = 98 := c_7; exact pq_i (by unfold oT; rw [if_pos g]))
set_option maxHeartbeats 16000000 in
theorem sp_X4_signOf {t : List Nat} {c : Nat} (hT : TX t I) (hi : 5 + c < t.length) : CALL ΩC (d + 4) kX4_signOf [.ref 1, .int (nI c)] I J (PQ (.int (ocI (sgn (t.getD (5 + c) 0)))) I J) := by
  have hb := (TX_get hT hi).2
  refine call_of_wp (by decide) (Nat.le_of_ble_eq_true rfl) ?_
  refine wp_ldcS4 (pc := 0) dX4_signOf_0 rfl ?_
  refine wp_aload_n (pc := 2) (i := 0) dX4_signOf_2 rfl rfl (by first | with_reducible assumption | rfl) ?_
  refine wp_iconst (pc := 3) (v := nI 5) dX4_signOf_3 (by decide +kernel) ?_
  refine wp_iload_n (pc := 4) (i := 1) dX4_signOf_4 rfl rfl ?_
  first | (refine wp_iaddN (pc := 5) dX4_signOf_5 ?_) | (refine wp_iadd (pc := 5) dX4_signOf_5 ?_)
  refine wp_cVP1 (pc := 6) (ci := 4) dX4_signOf_6 lm_X4_31 m_X4_byteAt (by first | with_reducible assumption | rfl) (by first | with_reducible assumption | rfl) (by decide) rfl (Nat.le_of_ble_eq_true rfl) (sp_X4_byteAt (by with_reducible assumption) (by first | with_reducible assumption | omega)) ?_
  refine wp_i2c (pc := 9) dX4_signOf_9 ?_
  rw [show ((nI (t.getD (5 + c) 0)).toUInt32 % 65536).toInt32 = nI (t.getD (5 + c) 0) by rw [pk_char, pk_tn (by omega), Nat.mod_eq_of_lt (by omega)]]
  refine wp_cTP1 (pc := 10) dX4_signOf_10 lm_X4_36 (by decide) m_J0_indexOf_0f7a4 (by first | with_reducible assumption | omega) (by first | with_reducible assumption | omega) rfl (Nat.le_of_ble_eq_true rfl) (sp_J0_indexOf (by first | with_reducible assumption | omega) (by first | with_reducible assumption | omega) (by first | with_reducible assumption | omega)) ?_
  refine wp_ireturn (pc := 13) dX4_signOf_13 rfl ?_
  exact pq_i rfl
theorem fit_w {t : List Nat} (h : fitT t 1 = true) : 49 ≤ t.getD 1 0 ∧ t.getD 1 0 ≤ 52 := of_decide_eq_true h
theorem fit_h {t : List Nat} (h : fitT t 2 = true) : 49 ≤ t.getD 2 0 ∧ t.getD 2 0 ≤ 52 := of_decide_eq_true h
set_option maxHeartbeats 16000000 in
theorem sp_X4_end {t : List Nat} (hT : TX t I) (hi : 2 < t.length) (h1 : fitT t 1 = true) (h2 : fitT t 2 = true) : CALL ΩC (d + 3) kX4_end [.ref 1] I J (PQ (.int (nI (5 + wT t * htT t))) I J) := by
  have a1 := fit_w h1
  have a2 := fit_h h2
  refine call_of_wp (by decide) (Nat.le_of_ble_eq_true rfl) ?_
  refine wp_iconst (pc := 0) (v := nI 5) dX4_end_0 (by decide +kernel) ?_
  refine wp_aload_n (pc := 1) (i := 0) dX4_end_1 rfl rfl (by first | with_reducible assumption | rfl) ?_
  refine wp_cVP0 (pc := 2) (ci := 4) dX4_end_2 lm_X4_41 m_X4_width (by first | with_reducible assumption | rfl) (by first | with_reducible assumption | rfl) (by decide) rfl (Nat.le_of_ble_eq_true rfl) (sp_X4_width (by with_reducible assumption) (by first | with_reducible assumption | omega) (by first | with_reducible assumption | omega)) ?_
  refine wp_aload_n (pc := 5) (i := 0) dX4_end_5 rfl rfl (by first | with_reducible assumption | rfl) ?_
  refine wp_cVP0 (pc := 6) (ci := 4) dX4_end_6 lm_X4_44 m_X4_height (by first | with_reducible assumption | rfl) (by first | with_reducible assumption | rfl) (by decide) rfl (Nat.le_of_ble_eq_true rfl) (sp_X4_height (by with_reducible assumption) (by first | with_reducible assumption | omega) (by first | with_reducible assumption | omega)) ?_
  first | (refine wp_imulN (pc := 9) dX4_end_9 ?_) | (refine wp_imul (pc := 9) dX4_end_9 ?_)
  first | (refine wp_iaddN (pc := 10) dX4_end_10 ?_) | (refine wp_iadd (pc := 10) dX4_end_10 ?_)
  refine wp_ireturn (pc := 11) dX4_end_11 rfl ?_
  exact pq_i rfl
theorem nI_ti {n : Nat} (h : n < 1000) : (nI n).toInt = (n : Int) := by rw [zI_n]; exact zI_ti (by omega) (by omega)
theorem dI_t {p : Prop} [Decidable p] (h : p) : bI (decide p) = nI 1 := by rw [decide_eq_true h]; rfl
theorem dI_f {p : Prop} [Decidable p] (h : ¬ p) : bI (decide p) = nI 0 := by rw [decide_eq_false h]; rfl
set_option maxHeartbeats 16000000 in
theorem sp_X4_fits {t : List Nat} {i : Nat} (hT : TX t I) (hi : i < t.length) (hall : ∀ j, j < i → fitT t j = true) : CALL ΩC (d + 5) kX4_fits [.ref 1, .int (nI i)] I J (PQ (.int (bI (fitT t i))) I J) := by
  have h24 := hT.2.1
  have hb := (TX_get hT hi).2
  refine call_of_wp (by decide) (Nat.le_of_ble_eq_true rfl) ?_
  match i, hi, hall, hb with
  | 0, hi, _, hb =>
    refine wp_aload_n (pc := 0) (i := 0) dX4_fits_0 rfl rfl (by first | with_reducible assumption | rfl) ?_
    refine wp_iload_n (pc := 1) (i := 1) dX4_fits_1 rfl rfl ?_
    refine wp_cVP1 (pc := 2) (ci := 4) dX4_fits_2 lm_X4_31 m_X4_byteAt (by first | with_reducible assumption | rfl) (by first | with_reducible assumption | rfl) (by decide) rfl (Nat.le_of_ble_eq_true rfl) (sp_X4_byteAt (by with_reducible assumption) (by first | with_reducible assumption | omega)) ?_
    refine wp_istore_n (pc := 5) (i := 2) dX4_fits_5 rfl (by decide) ?_
    refine wp_iload_n (pc := 6) (i := 1) dX4_fits_6 rfl rfl ?_
    refine wp_tableIn (pc := 7) (x := nI 0) (off := 33) (tgt := 40) dX4_fits_7 (by decide) (by decide) (by decide) (by decide) ?_
    refine wp_iload_n (pc := 40) (i := 2) dX4_fits_40 rfl rfl ?_
    refine wp_bipush (pc := 41) (v := nI 71) dX4_fits_41 (by decide +kernel) ?_
    first | (refine wp_icmp_neN (pc := 43) (tgt := 50) dX4_fits_43 (by decide) (by first | with_reducible assumption | omega) (by first | with_reducible assumption | omega) (fun c_43 => ?_) (fun c_43 => ?_)) | (refine wp_icmp_ne (pc := 43) (tgt := 50) dX4_fits_43 (by decide) (fun c_43 => ?_) (fun c_43 => ?_))
    · refine wp_iconst (pc := 50) (v := nI 0) dX4_fits_50 (by decide +kernel) ?_
      refine wp_zreturn (pc := 51) dX4_fits_51 rfl (by first | exact bI_narrow _ | exact nI_narrow01 (by omega) | decide +kernel | assumption) ?_
      first | (have g : ¬ t.getD 0 0 = 71 := c_43; exact pq_i (dI_f g).symm) | (have g : t.getD 0 0 = 71 := c_43; exact pq_i (dI_t g).symm)
    · refine wp_iconst (pc := 46) (v := nI 1) dX4_fits_46 (by decide +kernel) ?_
      refine wp_goto (pc := 47) (tgt := 51) dX4_fits_47 (by decide) ?_
      refine wp_zreturn (pc := 51) dX4_fits_51 rfl (by first | exact bI_narrow _ | exact nI_narrow01 (by omega) | decide +kernel | assumption) ?_
      first | (have g : ¬ t.getD 0 0 = 71 := c_43; exact pq_i (dI_f g).symm) | (have g : t.getD 0 0 = 71 := c_43; exact pq_i (dI_t g).symm)
  | 1, hi, _, hb =>
    refine wp_aload_n (pc := 0) (i := 0) dX4_fits_0 rfl rfl (by first | with_reducible assumption | rfl) ?_
    refine wp_iload_n (pc := 1) (i := 1) dX4_fits_1 rfl rfl ?_
    refine wp_cVP1 (pc := 2) (ci := 4) dX4_fits_2 lm_X4_31 m_X4_byteAt (by first | with_reducible assumption | rfl) (by first | with_reducible assumption | rfl) (by decide) rfl (Nat.le_of_ble_eq_true rfl) (sp_X4_byteAt (by with_reducible assumption) (by first | with_reducible assumption | omega)) ?_
    refine wp_istore_n (pc := 5) (i := 2) dX4_fits_5 rfl (by decide) ?_
    refine wp_iload_n (pc := 6) (i := 1) dX4_fits_6 rfl rfl ?_
    refine wp_tableIn (pc := 7) (x := nI 1) (off := 45) (tgt := 52) dX4_fits_7 (by decide) (by decide) (by decide) (by decide) ?_
    refine wp_iload_n (pc := 52) (i := 2) dX4_fits_52 rfl rfl ?_
    refine wp_bipush (pc := 53) (v := nI 49) dX4_fits_53 (by decide +kernel) ?_
    first | (refine wp_icmp_ltN (pc := 55) (tgt := 68) dX4_fits_55 (by decide) (by first | with_reducible assumption | omega) (by first | with_reducible assumption | omega) (fun c_55 => ?_) (fun c_55 => ?_)) | (refine wp_icmp_lt (pc := 55) (tgt := 68) dX4_fits_55 (by decide) (fun c_55 => ?_) (fun c_55 => ?_))
    · refine wp_iconst (pc := 68) (v := nI 0) dX4_fits_68 (by decide +kernel) ?_
      refine wp_zreturn (pc := 69) dX4_fits_69 rfl (by first | exact bI_narrow _ | exact nI_narrow01 (by omega) | decide +kernel | assumption) ?_
      first | (have g : t.getD 1 0 < 49 := c_55; exact pq_i (dI_f (by omega)).symm) | (have g : 52 < t.getD 1 0 := c_61; exact pq_i (dI_f (by omega)).symm) | (have g : ¬ 52 < t.getD 1 0 := c_61; exact pq_i (dI_t (by omega)).symm)
    · refine wp_iload_n (pc := 58) (i := 2) dX4_fits_58 rfl rfl ?_
      refine wp_bipush (pc := 59) (v := nI 52) dX4_fits_59 (by decide +kernel) ?_
      first | (refine wp_icmp_gtN (pc := 61) (tgt := 68) dX4_fits_61 (by decide) (by first | with_reducible assumption | omega) (by first | with_reducible assumption | omega) (fun c_61 => ?_) (fun c_61 => ?_)) | (refine wp_icmp_gt (pc := 61) (tgt := 68) dX4_fits_61 (by decide) (fun c_61 => ?_) (fun c_61 => ?_))
      · refine wp_iconst (pc := 68) (v := nI 0) dX4_fits_68 (by decide +kernel) ?_
        refine wp_zreturn (pc := 69) dX4_fits_69 rfl (by first | exact bI_narrow _ | exact nI_narrow01 (by omega) | decide +kernel | assumption) ?_
        first | (have g : t.getD 1 0 < 49 := c_55; exact pq_i (dI_f (by omega)).symm) | (have g : 52 < t.getD 1 0 := c_61; exact pq_i (dI_f (by omega)).symm) | (have g : ¬ 52 < t.getD 1 0 := c_61; exact pq_i (dI_t (by omega)).symm)
      · refine wp_iconst (pc := 64) (v := nI 1) dX4_fits_64 (by decide +kernel) ?_
        refine wp_goto (pc := 65) (tgt := 69) dX4_fits_65 (by decide) ?_
        refine wp_zreturn (pc := 69) dX4_fits_69 rfl (by first | exact bI_narrow _ | exact nI_narrow01 (by omega) | decide +kernel | assumption) ?_
        first | (have g : t.getD 1 0 < 49 := c_55; exact pq_i (dI_f (by omega)).symm) | (have g : 52 < t.getD 1 0 := c_61; exact pq_i (dI_f (by omega)).symm) | (have g : ¬ 52 < t.getD 1 0 := c_61; exact pq_i (dI_t (by omega)).symm)
  | 2, hi, _, hb =>
    refine wp_aload_n (pc := 0) (i := 0) dX4_fits_0 rfl rfl (by first | with_reducible assumption | rfl) ?_
    refine wp_iload_n (pc := 1) (i := 1) dX4_fits_1 rfl rfl ?_
    refine wp_cVP1 (pc := 2) (ci := 4) dX4_fits_2 lm_X4_31 m_X4_byteAt (by first | with_reducible assumption | rfl) (by first | with_reducible assumption | rfl) (by decide) rfl (Nat.le_of_ble_eq_true rfl) (sp_X4_byteAt (by with_reducible assumption) (by first | with_reducible assumption | omega)) ?_
    refine wp_istore_n (pc := 5) (i := 2) dX4_fits_5 rfl (by decide) ?_
    refine wp_iload_n (pc := 6) (i := 1) dX4_fits_6 rfl rfl ?_
    refine wp_tableIn (pc := 7) (x := nI 2) (off := 45) (tgt := 52) dX4_fits_7 (by decide) (by decide) (by decide) (by decide) ?_
    refine wp_iload_n (pc := 52) (i := 2) dX4_fits_52 rfl rfl ?_
    refine wp_bipush (pc := 53) (v := nI 49) dX4_fits_53 (by decide +kernel) ?_
    first | (refine wp_icmp_ltN (pc := 55) (tgt := 68) dX4_fits_55 (by decide) (by first | with_reducible assumption | omega) (by first | with_reducible assumption | omega) (fun c_55 => ?_) (fun c_55 => ?_)) | (refine wp_icmp_lt (pc := 55) (tgt := 68) dX4_fits_55 (by decide) (fun c_55 => ?_) (fun c_55 => ?_))
    · refine wp_iconst (pc := 68) (v := nI 0) dX4_fits_68 (by decide +kernel) ?_
      refine wp_zreturn (pc := 69) dX4_fits_69 rfl (by first | exact bI_narrow _ | exact nI_narrow01 (by omega) | decide +kernel | assumption) ?_
      first | (have g : t.getD 2 0 < 49 := c_55; exact pq_i (dI_f (by omega)).symm) | (have g : 52 < t.getD 2 0 := c_61; exact pq_i (dI_f (by omega)).symm) | (have g : ¬ 52 < t.getD 2 0 := c_61; exact pq_i (dI_t (by omega)).symm)
    · refine wp_iload_n (pc := 58) (i := 2) dX4_fits_58 rfl rfl ?_
      refine wp_bipush (pc := 59) (v := nI 52) dX4_fits_59 (by decide +kernel) ?_
      first | (refine wp_icmp_gtN (pc := 61) (tgt := 68) dX4_fits_61 (by decide) (by first | with_reducible assumption | omega) (by first | with_reducible assumption | omega) (fun c_61 => ?_) (fun c_61 => ?_)) | (refine wp_icmp_gt (pc := 61) (tgt := 68) dX4_fits_61 (by decide) (fun c_61 => ?_) (fun c_61 => ?_))
      · refine wp_iconst (pc := 68) (v := nI 0) dX4_fits_68 (by decide +kernel) ?_
        refine wp_zreturn (pc := 69) dX4_fits_69 rfl (by first | exact bI_narrow _ | exact nI_narrow01 (by omega) | decide +kernel | assumption) ?_
        first | (have g : t.getD 2 0 < 49 := c_55; exact pq_i (dI_f (by omega)).symm) | (have g : 52 < t.getD 2 0 := c_61; exact pq_i (dI_f (by omega)).symm) | (have g : ¬ 52 < t.getD 2 0 := c_61; exact pq_i (dI_t (by omega)).symm)
      · refine wp_iconst (pc := 64) (v := nI 1) dX4_fits_64 (by decide +kernel) ?_
        refine wp_goto (pc := 65) (tgt := 69) dX4_fits_65 (by decide) ?_
        refine wp_zreturn (pc := 69) dX4_fits_69 rfl (by first | exact bI_narrow _ | exact nI_narrow01 (by omega) | decide +kernel | assumption) ?_
        first | (have g : t.getD 2 0 < 49 := c_55; exact pq_i (dI_f (by omega)).symm) | (have g : 52 < t.getD 2 0 := c_61; exact pq_i (dI_f (by omega)).symm) | (have g : ¬ 52 < t.getD 2 0 := c_61; exact pq_i (dI_t (by omega)).symm)
  | 3, hi, _, hb =>
    refine wp_aload_n (pc := 0) (i := 0) dX4_fits_0 rfl rfl (by first | with_reducible assumption | rfl) ?_
    refine wp_iload_n (pc := 1) (i := 1) dX4_fits_1 rfl rfl ?_
    refine wp_cVP1 (pc := 2) (ci := 4) dX4_fits_2 lm_X4_31 m_X4_byteAt (by first | with_reducible assumption | rfl) (by first | with_reducible assumption | rfl) (by decide) rfl (Nat.le_of_ble_eq_true rfl) (sp_X4_byteAt (by with_reducible assumption) (by first | with_reducible assumption | omega)) ?_
    refine wp_istore_n (pc := 5) (i := 2) dX4_fits_5 rfl (by decide) ?_
    refine wp_iload_n (pc := 6) (i := 1) dX4_fits_6 rfl rfl ?_
    refine wp_tableIn (pc := 7) (x := nI 3) (off := 63) (tgt := 70) dX4_fits_7 (by decide) (by decide) (by decide) (by decide) ?_
    refine wp_iload_n (pc := 70) (i := 2) dX4_fits_70 rfl rfl ?_
    refine wp_bipush (pc := 71) (v := nI 48) dX4_fits_71 (by decide +kernel) ?_
    first | (refine wp_icmp_ltN (pc := 73) (tgt := 86) dX4_fits_73 (by decide) (by first | with_reducible assumption | omega) (by first | with_reducible assumption | omega) (fun c_73 => ?_) (fun c_73 => ?_)) | (refine wp_icmp_lt (pc := 73) (tgt := 86) dX4_fits_73 (by decide) (fun c_73 => ?_) (fun c_73 => ?_))
    · refine wp_iconst (pc := 86) (v := nI 0) dX4_fits_86 (by decide +kernel) ?_
      refine wp_zreturn (pc := 87) dX4_fits_87 rfl (by first | exact bI_narrow _ | exact nI_narrow01 (by omega) | decide +kernel | assumption) ?_
      first | (have g : t.getD 3 0 < 48 := c_73; exact pq_i (dI_f (by omega)).symm) | (have g : 57 < t.getD 3 0 := c_79; exact pq_i (dI_f (by omega)).symm) | (have g : ¬ 57 < t.getD 3 0 := c_79; exact pq_i (dI_t (by omega)).symm)
    · refine wp_iload_n (pc := 76) (i := 2) dX4_fits_76 rfl rfl ?_
      refine wp_bipush (pc := 77) (v := nI 57) dX4_fits_77 (by decide +kernel) ?_
      first | (refine wp_icmp_gtN (pc := 79) (tgt := 86) dX4_fits_79 (by decide) (by first | with_reducible assumption | omega) (by first | with_reducible assumption | omega) (fun c_79 => ?_) (fun c_79 => ?_)) | (refine wp_icmp_gt (pc := 79) (tgt := 86) dX4_fits_79 (by decide) (fun c_79 => ?_) (fun c_79 => ?_))
      · refine wp_iconst (pc := 86) (v := nI 0) dX4_fits_86 (by decide +kernel) ?_
        refine wp_zreturn (pc := 87) dX4_fits_87 rfl (by first | exact bI_narrow _ | exact nI_narrow01 (by omega) | decide +kernel | assumption) ?_
        first | (have g : t.getD 3 0 < 48 := c_73; exact pq_i (dI_f (by omega)).symm) | (have g : 57 < t.getD 3 0 := c_79; exact pq_i (dI_f (by omega)).symm) | (have g : ¬ 57 < t.getD 3 0 := c_79; exact pq_i (dI_t (by omega)).symm)
      · refine wp_iconst (pc := 82) (v := nI 1) dX4_fits_82 (by decide +kernel) ?_
        refine wp_goto (pc := 83) (tgt := 87) dX4_fits_83 (by decide) ?_
        refine wp_zreturn (pc := 87) dX4_fits_87 rfl (by first | exact bI_narrow _ | exact nI_narrow01 (by omega) | decide +kernel | assumption) ?_
        first | (have g : t.getD 3 0 < 48 := c_73; exact pq_i (dI_f (by omega)).symm) | (have g : 57 < t.getD 3 0 := c_79; exact pq_i (dI_f (by omega)).symm) | (have g : ¬ 57 < t.getD 3 0 := c_79; exact pq_i (dI_t (by omega)).symm)
  | 4, hi, _, hb =>
    refine wp_aload_n (pc := 0) (i := 0) dX4_fits_0 rfl rfl (by first | with_reducible assumption | rfl) ?_
    refine wp_iload_n (pc := 1) (i := 1) dX4_fits_1 rfl rfl ?_
    refine wp_cVP1 (pc := 2) (ci := 4) dX4_fits_2 lm_X4_31 m_X4_byteAt (by first | with_reducible assumption | rfl) (by first | with_reducible assumption | rfl) (by decide) rfl (Nat.le_of_ble_eq_true rfl) (sp_X4_byteAt (by with_reducible assumption) (by first | with_reducible assumption | omega)) ?_
    refine wp_istore_n (pc := 5) (i := 2) dX4_fits_5 rfl (by decide) ?_
    refine wp_iload_n (pc := 6) (i := 1) dX4_fits_6 rfl rfl ?_
    refine wp_tableIn (pc := 7) (x := nI 4) (off := 81) (tgt := 88) dX4_fits_7 (by decide) (by decide) (by decide) (by decide) ?_
    refine wp_iload_n (pc := 88) (i := 2) dX4_fits_88 rfl rfl ?_
    refine wp_bipush (pc := 89) (v := nI 119) dX4_fits_89 (by decide +kernel) ?_
    first | (refine wp_icmp_eqN (pc := 91) (tgt := 100) dX4_fits_91 (by decide) (by first | with_reducible assumption | omega) (by first | with_reducible assumption | omega) (fun c_91 => ?_) (fun c_91 => ?_)) | (refine wp_icmp_eq (pc := 91) (tgt := 100) dX4_fits_91 (by decide) (fun c_91 => ?_) (fun c_91 => ?_))
    · refine wp_iconst (pc := 100) (v := nI 1) dX4_fits_100 (by decide +kernel) ?_
      refine wp_goto (pc := 101) (tgt := 105) dX4_fits_101 (by decide) ?_
      refine wp_zreturn (pc := 105) dX4_fits_105 rfl (by first | exact bI_narrow _ | exact nI_narrow01 (by omega) | decide +kernel | assumption) ?_
      first | (have g : t.getD 4 0 = 119 := c_91; exact pq_i (dI_t (Or.inl g)).symm) | (have g : t.getD 4 0 = 98 := c_97; exact pq_i (dI_t (Or.inr g)).symm) | (have g : ¬ t.getD 4 0 = 98 := c_97; have g2 : ¬ t.getD 4 0 = 119 := c_91; exact pq_i (dI_f (fun z => z.elim g2 g)).symm)
    · refine wp_iload_n (pc := 94) (i := 2) dX4_fits_94 rfl rfl ?_
      refine wp_bipush (pc := 95) (v := nI 98) dX4_fits_95 (by decide +kernel) ?_
      first | (refine wp_icmp_neN (pc := 97) (tgt := 104) dX4_fits_97 (by decide) (by first | with_reducible assumption | omega) (by first | with_reducible assumption | omega) (fun c_97 => ?_) (fun c_97 => ?_)) | (refine wp_icmp_ne (pc := 97) (tgt := 104) dX4_fits_97 (by decide) (fun c_97 => ?_) (fun c_97 => ?_))
      · refine wp_iconst (pc := 104) (v := nI 0) dX4_fits_104 (by decide +kernel) ?_
        refine wp_zreturn (pc := 105) dX4_fits_105 rfl (by first | exact bI_narrow _ | exact nI_narrow01 (by omega) | decide +kernel | assumption) ?_
        first | (have g : t.getD 4 0 = 119 := c_91; exact pq_i (dI_t (Or.inl g)).symm) | (have g : t.getD 4 0 = 98 := c_97; exact pq_i (dI_t (Or.inr g)).symm) | (have g : ¬ t.getD 4 0 = 98 := c_97; have g2 : ¬ t.getD 4 0 = 119 := c_91; exact pq_i (dI_f (fun z => z.elim g2 g)).symm)
      · refine wp_iconst (pc := 100) (v := nI 1) dX4_fits_100 (by decide +kernel) ?_
        refine wp_goto (pc := 101) (tgt := 105) dX4_fits_101 (by decide) ?_
        refine wp_zreturn (pc := 105) dX4_fits_105 rfl (by first | exact bI_narrow _ | exact nI_narrow01 (by omega) | decide +kernel | assumption) ?_
        first | (have g : t.getD 4 0 = 119 := c_91; exact pq_i (dI_t (Or.inl g)).symm) | (have g : t.getD 4 0 = 98 := c_97; exact pq_i (dI_t (Or.inr g)).symm) | (have g : ¬ t.getD 4 0 = 98 := c_97; have g2 : ¬ t.getD 4 0 = 119 := c_91; exact pq_i (dI_f (fun z => z.elim g2 g)).symm)
  | k + 5, hi, hall, hb =>
    have f1 := hall 1 (by omega)
    have f2 := hall 2 (by omega)
    have a1 := fit_w f1
    have a2 := fit_h f2
    have w4 : wT t ≤ 4 := by unfold wT; omega
    have h4 : htT t ≤ 4 := by unfold htT; omega
    have hm16 : wT t * htT t ≤ 16 := Nat.mul_le_mul w4 h4
    have hti : (nI (k + 5)).toInt = ((k + 5 : Nat) : Int) := nI_ti (by omega)
    have e5 : t.getD (5 + k) 0 = t.getD (k + 5) 0 := by rw [Nat.add_comm]
    have hsg : sgn (t.getD (k + 5) 0) = none ∨ ∃ s, s < 12 ∧ sgn (t.getD (k + 5) 0) = some s := by
      cases h : sgn (t.getD (k + 5) 0) with
      | none => exact Or.inl rfl
      | some s => exact Or.inr ⟨s, (sgn_lt h).1, rfl⟩
    have eF : fitT t (k + 5) = (decide (k < wT t * htT t) && (sgn (t.getD (k + 5) 0)).isSome) := rfl
    by_cases hk : k < wT t * htT t
    · rcases hsg with hsg | ⟨s, hs12, hsg⟩
      · have e0 : fitT t (k + 5) = false := by rw [eF, hsg]; exact Bool.and_false _
        have eO : ocI (sgn (t.getD (5 + k) 0)) = -1 := by rw [e5, hsg]; rfl
        rw [e0]
        refine wp_aload_n (pc := 0) (i := 0) dX4_fits_0 rfl rfl (by first | with_reducible assumption | rfl) ?_
        refine wp_iload_n (pc := 1) (i := 1) dX4_fits_1 rfl rfl ?_
        refine wp_cVP1 (pc := 2) (ci := 4) dX4_fits_2 lm_X4_31 m_X4_byteAt (by first | with_reducible assumption | rfl) (by first | with_reducible assumption | rfl) (by decide) rfl (Nat.le_of_ble_eq_true rfl) (sp_X4_byteAt (by with_reducible assumption) (by first | with_reducible assumption | omega)) ?_
        refine wp_istore_n (pc := 5) (i := 2) dX4_fits_5 rfl (by decide) ?_
        refine wp_iload_n (pc := 6) (i := 1) dX4_fits_6 rfl rfl ?_
        refine wp_tableOut (pc := 7) (x := nI (k + 5)) (tgt := 106) dX4_fits_7 (Or.inr (by rw [hti]; omega)) (by decide) ?_
        refine wp_iload_n (pc := 106) (i := 1) dX4_fits_106 rfl rfl ?_
        refine wp_aload_n (pc := 107) (i := 0) dX4_fits_107 rfl rfl (by first | with_reducible assumption | rfl) ?_
        refine wp_cVP0 (pc := 108) (ci := 4) dX4_fits_108 lm_X4_23 m_X4_end (by first | with_reducible assumption | rfl) (by first | with_reducible assumption | rfl) (by decide) rfl (Nat.le_of_ble_eq_true rfl) (sp_X4_end hT (by omega) f1 f2) ?_
        first | (refine wp_icmp_geN (pc := 111) (tgt := 128) dX4_fits_111 (by decide) (by first | with_reducible assumption | omega) (by first | with_reducible assumption | omega) (fun c_111 => ?_) (fun c_111 => ?_)) | (refine wp_icmp_ge (pc := 111) (tgt := 128) dX4_fits_111 (by decide) (fun c_111 => ?_) (fun c_111 => ?_))
        · exact absurd c_111 (by omega)
        · refine wp_aload_n (pc := 114) (i := 0) dX4_fits_114 rfl rfl (by first | with_reducible assumption | rfl) ?_
          refine wp_iload_n (pc := 115) (i := 1) dX4_fits_115 rfl rfl ?_
          refine wp_iconst (pc := 116) (v := nI 5) dX4_fits_116 (by decide +kernel) ?_
          first | (refine wp_isubN (pc := 117) dX4_fits_117 (by first | with_reducible assumption | omega) ?_) | (refine wp_isub (pc := 117) dX4_fits_117 ?_)
          rw [Nat.add_sub_cancel]
          refine wp_cVP1 (pc := 118) (ci := 4) dX4_fits_118 lm_X4_47 m_X4_signOf (by first | with_reducible assumption | rfl) (by first | with_reducible assumption | rfl) (by decide) rfl (Nat.le_of_ble_eq_true rfl) (sp_X4_signOf hT (by omega)) ?_
          rw [eO]
          refine wp_if_lt (pc := 121) (tgt := 128) dX4_fits_121 (by decide) (fun c_121 => ?_) (fun c_121 => ?_)
          · refine wp_iconst (pc := 128) (v := nI 0) dX4_fits_128 (by decide +kernel) ?_
            refine wp_zreturn (pc := 129) dX4_fits_129 rfl (by first | exact bI_narrow _ | exact nI_narrow01 (by omega) | decide +kernel | assumption) ?_
            exact pq_i rfl
          · exact absurd (by decide) c_121
      · have e0 : fitT t (k + 5) = true := by rw [eF, hsg, decide_eq_true hk]; rfl
        have eO : ocI (sgn (t.getD (5 + k) 0)) = nI s := by rw [e5, hsg]; rfl
        rw [e0]
        refine wp_aload_n (pc := 0) (i := 0) dX4_fits_0 rfl rfl (by first | with_reducible assumption | rfl) ?_
        refine wp_iload_n (pc := 1) (i := 1) dX4_fits_1 rfl rfl ?_
        refine wp_cVP1 (pc := 2) (ci := 4) dX4_fits_2 lm_X4_31 m_X4_byteAt (by first | with_reducible assumption | rfl) (by first | with_reducible assumption | rfl) (by decide) rfl (Nat.le_of_ble_eq_true rfl) (sp_X4_byteAt (by with_reducible assumption) (by first | with_reducible assumption | omega)) ?_
        refine wp_istore_n (pc := 5) (i := 2) dX4_fits_5 rfl (by decide) ?_
        refine wp_iload_n (pc := 6) (i := 1) dX4_fits_6 rfl rfl ?_
        refine wp_tableOut (pc := 7) (x := nI (k + 5)) (tgt := 106) dX4_fits_7 (Or.inr (by rw [hti]; omega)) (by decide) ?_
        refine wp_iload_n (pc := 106) (i := 1) dX4_fits_106 rfl rfl ?_
        refine wp_aload_n (pc := 107) (i := 0) dX4_fits_107 rfl rfl (by first | with_reducible assumption | rfl) ?_
        refine wp_cVP0 (pc := 108) (ci := 4) dX4_fits_108 lm_X4_23 m_X4_end (by first | with_reducible assumption | rfl) (by first | with_reducible assumption | rfl) (by decide) rfl (Nat.le_of_ble_eq_true rfl) (sp_X4_end hT (by omega) f1 f2) ?_
        first | (refine wp_icmp_geN (pc := 111) (tgt := 128) dX4_fits_111 (by decide) (by first | with_reducible assumption | omega) (by first | with_reducible assumption | omega) (fun c_111 => ?_) (fun c_111 => ?_)) | (refine wp_icmp_ge (pc := 111) (tgt := 128) dX4_fits_111 (by decide) (fun c_111 => ?_) (fun c_111 => ?_))
        · exact absurd c_111 (by omega)
        · refine wp_aload_n (pc := 114) (i := 0) dX4_fits_114 rfl rfl (by first | with_reducible assumption | rfl) ?_
          refine wp_iload_n (pc := 115) (i := 1) dX4_fits_115 rfl rfl ?_
          refine wp_iconst (pc := 116) (v := nI 5) dX4_fits_116 (by decide +kernel) ?_
          first | (refine wp_isubN (pc := 117) dX4_fits_117 (by first | with_reducible assumption | omega) ?_) | (refine wp_isub (pc := 117) dX4_fits_117 ?_)
          rw [Nat.add_sub_cancel]
          refine wp_cVP1 (pc := 118) (ci := 4) dX4_fits_118 lm_X4_47 m_X4_signOf (by first | with_reducible assumption | rfl) (by first | with_reducible assumption | rfl) (by decide) rfl (Nat.le_of_ble_eq_true rfl) (sp_X4_signOf hT (by omega)) ?_
          rw [eO]
          refine wp_if_ltN (pc := 121) (tgt := 128) dX4_fits_121 (by decide) (by first | with_reducible assumption | omega) ?_
          refine wp_iconst (pc := 124) (v := nI 1) dX4_fits_124 (by decide +kernel) ?_
          refine wp_goto (pc := 125) (tgt := 129) dX4_fits_125 (by decide) ?_
          refine wp_zreturn (pc := 129) dX4_fits_129 rfl (by first | exact bI_narrow _ | exact nI_narrow01 (by omega) | decide +kernel | assumption) ?_
          exact pq_i rfl
    · have e0 : fitT t (k + 5) = false := by rw [eF, decide_eq_false hk]; rfl
      rw [e0]
      refine wp_aload_n (pc := 0) (i := 0) dX4_fits_0 rfl rfl (by first | with_reducible assumption | rfl) ?_
      refine wp_iload_n (pc := 1) (i := 1) dX4_fits_1 rfl rfl ?_
      refine wp_cVP1 (pc := 2) (ci := 4) dX4_fits_2 lm_X4_31 m_X4_byteAt (by first | with_reducible assumption | rfl) (by first | with_reducible assumption | rfl) (by decide) rfl (Nat.le_of_ble_eq_true rfl) (sp_X4_byteAt (by with_reducible assumption) (by first | with_reducible assumption | omega)) ?_
      refine wp_istore_n (pc := 5) (i := 2) dX4_fits_5 rfl (by decide) ?_
      refine wp_iload_n (pc := 6) (i := 1) dX4_fits_6 rfl rfl ?_
      refine wp_tableOut (pc := 7) (x := nI (k + 5)) (tgt := 106) dX4_fits_7 (Or.inr (by rw [hti]; omega)) (by decide) ?_
      refine wp_iload_n (pc := 106) (i := 1) dX4_fits_106 rfl rfl ?_
      refine wp_aload_n (pc := 107) (i := 0) dX4_fits_107 rfl rfl (by first | with_reducible assumption | rfl) ?_
      refine wp_cVP0 (pc := 108) (ci := 4) dX4_fits_108 lm_X4_23 m_X4_end (by first | with_reducible assumption | rfl) (by first | with_reducible assumption | rfl) (by decide) rfl (Nat.le_of_ble_eq_true rfl) (sp_X4_end hT (by omega) f1 f2) ?_
      first | (refine wp_icmp_geN (pc := 111) (tgt := 128) dX4_fits_111 (by decide) (by first | with_reducible assumption | omega) (by first | with_reducible assumption | omega) (fun c_111 => ?_) (fun c_111 => ?_)) | (refine wp_icmp_ge (pc := 111) (tgt := 128) dX4_fits_111 (by decide) (fun c_111 => ?_) (fun c_111 => ?_))
      · refine wp_iconst (pc := 128) (v := nI 0) dX4_fits_128 (by decide +kernel) ?_
        refine wp_zreturn (pc := 129) dX4_fits_129 rfl (by first | exact bI_narrow _ | exact nI_narrow01 (by omega) | decide +kernel | assumption) ?_
        exact pq_i rfl
      · exact absurd (show 5 + wT t * htT t ≤ k + 5 by omega) (by omega)
theorem find_ff {P : Nat → Bool} {n i : Nat} (hi : i < n) (h1 : ∀ j, j < i → P j = false) (h2 : P i = true) : (List.range n).find? P = some i := by
  rw [List.find?_range_eq_some]
  exact ⟨h2, List.mem_range.mpr hi, fun j hj => by rw [h1 j hj]; rfl⟩
theorem find_no {P : Nat → Bool} {n : Nat} (h1 : ∀ j, j < n → P j = false) : (List.range n).find? P = none := by
  rw [List.find?_eq_none]
  intro x hx
  rw [h1 x (List.mem_range.mp hx)]
  exact Bool.false_ne_true
set_option maxHeartbeats 16000000 in
theorem sp_X4_firstFault {t : List Nat} (hT : TX t I) : CALL ΩC (d + 6) kX4_firstFault [.ref 1] I J (PQ (.int (ffI (ffT t))) I J) := by
  have h24 := hT.2.1
  have hL := hT.1
  have loop : ∀ m i, m + i = t.length → (∀ j, j < i → fitT t j = true) → WP ΩC (d + 6) kX4_firstFault 2 [(0, .ref 1), (1, .int (nI i))] [] I J (PQ (.int (ffI (ffT t))) I J) := by
    intro m
    induction m with
    | zero =>
      intro i hi hall
      have hi' : i = t.length := (Nat.zero_add i).symm.trans hi
      subst hi'
      have hn : (List.range t.length).find? (fun i => !fitT t i) = none := find_no (fun j hj => by rw [hall j hj]; rfl)
      have eF : ffT t = if t.length < 5 ∨ t.length < 5 + wT t * htT t then some t.length else none := by
        unfold ffT
        rw [hn]
      by_cases h5 : t.length < 5
      · have e : ffT t = some t.length := by rw [eF, if_pos (Or.inl h5)]
        rw [e]
        refine wp_iload_n (pc := 2) (i := 1) dX4_firstFault_2 rfl rfl ?_
        refine wp_aload_n (pc := 3) (i := 0) dX4_firstFault_3 rfl rfl (by first | with_reducible assumption | rfl) ?_
        refine wp_getI (pc := 4) dX4_firstFault_4 lf_X4_15 (by first | with_reducible assumption | rfl) (by first | with_reducible assumption | rfl) rfl ?_
        rw [hL]
        first | (refine wp_icmp_geN (pc := 7) (tgt := 26) dX4_firstFault_7 (by decide) (by first | with_reducible assumption | omega) (by first | with_reducible assumption | omega) (fun c_7 => ?_) (fun c_7 => ?_)) | (refine wp_icmp_ge (pc := 7) (tgt := 26) dX4_firstFault_7 (by decide) (fun c_7 => ?_) (fun c_7 => ?_))
        · refine wp_aload_n (pc := 26) (i := 0) dX4_firstFault_26 rfl rfl (by first | with_reducible assumption | rfl) ?_
          refine wp_getI (pc := 27) dX4_firstFault_27 lf_X4_15 (by first | with_reducible assumption | rfl) (by first | with_reducible assumption | rfl) rfl ?_
          rw [hL]
          refine wp_iconst (pc := 30) (v := nI 5) dX4_firstFault_30 (by decide +kernel) ?_
          first | (refine wp_icmp_ltN (pc := 31) (tgt := 45) dX4_firstFault_31 (by decide) (by first | with_reducible assumption | omega) (by first | with_reducible assumption | omega) (fun c_31 => ?_) (fun c_31 => ?_)) | (refine wp_icmp_lt (pc := 31) (tgt := 45) dX4_firstFault_31 (by decide) (fun c_31 => ?_) (fun c_31 => ?_))
          · refine wp_aload_n (pc := 45) (i := 0) dX4_firstFault_45 rfl rfl (by first | with_reducible assumption | rfl) ?_
            refine wp_getI (pc := 46) dX4_firstFault_46 lf_X4_15 (by first | with_reducible assumption | rfl) (by first | with_reducible assumption | rfl) rfl ?_
            rw [hL]
            refine wp_goto (pc := 49) (tgt := 54) dX4_firstFault_49 (by decide) ?_
            refine wp_ireturn (pc := 54) dX4_firstFault_54 rfl ?_
            exact pq_i rfl
          · exact absurd h5 c_31
        · exact absurd (Nat.le_refl _) c_7
      · have f1 := hall 1 (by omega)
        have f2 := hall 2 (by omega)
        have a1 := fit_w f1
        have a2 := fit_h f2
        have w4 : wT t ≤ 4 := by unfold wT; omega
        have h4 : htT t ≤ 4 := by unfold htT; omega
        have hm16 : wT t * htT t ≤ 16 := Nat.mul_le_mul w4 h4
        refine wp_iload_n (pc := 2) (i := 1) dX4_firstFault_2 rfl rfl ?_
        refine wp_aload_n (pc := 3) (i := 0) dX4_firstFault_3 rfl rfl (by first | with_reducible assumption | rfl) ?_
        refine wp_getI (pc := 4) dX4_firstFault_4 lf_X4_15 (by first | with_reducible assumption | rfl) (by first | with_reducible assumption | rfl) rfl ?_
        rw [hL]
        first | (refine wp_icmp_geN (pc := 7) (tgt := 26) dX4_firstFault_7 (by decide) (by first | with_reducible assumption | omega) (by first | with_reducible assumption | omega) (fun c_7 => ?_) (fun c_7 => ?_)) | (refine wp_icmp_ge (pc := 7) (tgt := 26) dX4_firstFault_7 (by decide) (fun c_7 => ?_) (fun c_7 => ?_))
        · refine wp_aload_n (pc := 26) (i := 0) dX4_firstFault_26 rfl rfl (by first | with_reducible assumption | rfl) ?_
          refine wp_getI (pc := 27) dX4_firstFault_27 lf_X4_15 (by first | with_reducible assumption | rfl) (by first | with_reducible assumption | rfl) rfl ?_
          rw [hL]
          refine wp_iconst (pc := 30) (v := nI 5) dX4_firstFault_30 (by decide +kernel) ?_
          first | (refine wp_icmp_ltN (pc := 31) (tgt := 45) dX4_firstFault_31 (by decide) (by first | with_reducible assumption | omega) (by first | with_reducible assumption | omega) (fun c_31 => ?_) (fun c_31 => ?_)) | (refine wp_icmp_lt (pc := 31) (tgt := 45) dX4_firstFault_31 (by decide) (fun c_31 => ?_) (fun c_31 => ?_))
          · exact absurd c_31 h5
          · refine wp_aload_n (pc := 34) (i := 0) dX4_firstFault_34 rfl rfl (by first | with_reducible assumption | rfl) ?_
            refine wp_getI (pc := 35) dX4_firstFault_35 lf_X4_15 (by first | with_reducible assumption | rfl) (by first | with_reducible assumption | rfl) rfl ?_
            rw [hL]
            refine wp_aload_n (pc := 38) (i := 0) dX4_firstFault_38 rfl rfl (by first | with_reducible assumption | rfl) ?_
            refine wp_cVP0 (pc := 39) (ci := 4) dX4_firstFault_39 lm_X4_23 m_X4_end (by first | with_reducible assumption | rfl) (by first | with_reducible assumption | rfl) (by decide) rfl (Nat.le_of_ble_eq_true rfl) (sp_X4_end hT (by omega) f1 f2) ?_
            first | (refine wp_icmp_geN (pc := 42) (tgt := 52) dX4_firstFault_42 (by decide) (by first | with_reducible assumption | omega) (by first | with_reducible assumption | omega) (fun c_42 => ?_) (fun c_42 => ?_)) | (refine wp_icmp_ge (pc := 42) (tgt := 52) dX4_firstFault_42 (by decide) (fun c_42 => ?_) (fun c_42 => ?_))
            · refine wp_bipush (pc := 52) (v := (-9)) dX4_firstFault_52 (by decide +kernel) ?_
              refine wp_ireturn (pc := 54) dX4_firstFault_54 rfl ?_
              first
                | (have g : 5 + wT t * htT t ≤ t.length := c_42; exact pq_i (by rw [eF, if_neg (by omega)]; rfl))
                | (have g : ¬ 5 + wT t * htT t ≤ t.length := c_42; exact pq_i (by rw [eF, if_pos (Or.inr (by omega))]; rfl))
            · refine wp_aload_n (pc := 45) (i := 0) dX4_firstFault_45 rfl rfl (by first | with_reducible assumption | rfl) ?_
              refine wp_getI (pc := 46) dX4_firstFault_46 lf_X4_15 (by first | with_reducible assumption | rfl) (by first | with_reducible assumption | rfl) rfl ?_
              rw [hL]
              refine wp_goto (pc := 49) (tgt := 54) dX4_firstFault_49 (by decide) ?_
              refine wp_ireturn (pc := 54) dX4_firstFault_54 rfl ?_
              first
                | (have g : 5 + wT t * htT t ≤ t.length := c_42; exact pq_i (by rw [eF, if_neg (by omega)]; rfl))
                | (have g : ¬ 5 + wT t * htT t ≤ t.length := c_42; exact pq_i (by rw [eF, if_pos (Or.inr (by omega))]; rfl))
        · exact absurd (Nat.le_refl _) c_7
    | succ m ih =>
      intro i hi hall
      have hil : i < t.length := by omega
      by_cases hfi : fitT t i = true
      · have h0 := ih (i + 1) (by omega) (fun j hj => by
          rcases Nat.lt_succ_iff_lt_or_eq.mp hj with h | h
          · exact hall j h
          · rw [h]; exact hfi)
        clear ih
        refine wp_iload_n (pc := 2) (i := 1) dX4_firstFault_2 rfl rfl ?_
        refine wp_aload_n (pc := 3) (i := 0) dX4_firstFault_3 rfl rfl (by first | with_reducible assumption | rfl) ?_
        refine wp_getI (pc := 4) dX4_firstFault_4 lf_X4_15 (by first | with_reducible assumption | rfl) (by first | with_reducible assumption | rfl) rfl ?_
        rw [hL]
        first | (refine wp_icmp_geN (pc := 7) (tgt := 26) dX4_firstFault_7 (by decide) (by first | with_reducible assumption | omega) (by first | with_reducible assumption | omega) (fun c_7 => ?_) (fun c_7 => ?_)) | (refine wp_icmp_ge (pc := 7) (tgt := 26) dX4_firstFault_7 (by decide) (fun c_7 => ?_) (fun c_7 => ?_))
        · exact absurd c_7 (by omega)
        · refine wp_aload_n (pc := 10) (i := 0) dX4_firstFault_10 rfl rfl (by first | with_reducible assumption | rfl) ?_
          refine wp_iload_n (pc := 11) (i := 1) dX4_firstFault_11 rfl rfl ?_
          refine wp_cVP1 (pc := 12) (ci := 4) dX4_firstFault_12 lm_X4_19 m_X4_fits (by first | with_reducible assumption | rfl) (by first | with_reducible assumption | rfl) (by decide) rfl (Nat.le_of_ble_eq_true rfl) (sp_X4_fits hT hil hall) ?_
          rw [hfi]
          refine wp_if_neB (pc := 15) (tgt := 20) dX4_firstFault_15 (by decide) (fun c_15 => ?_) (fun c_15 => ?_)
          · first | (refine wp_iincN (pc := 20) (m := 1) dX4_firstFault_20 rfl rfl (by decide) ?_) | (refine wp_iinc (pc := 20) dX4_firstFault_20 rfl rfl (by decide) ?_)
            refine wp_goto (pc := 23) (tgt := 2) dX4_firstFault_23 (by decide) ?_
            exact h0
          · exact Bool.noConfusion c_15
      · have hff : fitT t i = false := Bool.eq_false_iff.mpr hfi
        have e : ffT t = some i := by
          unfold ffT
          rw [find_ff hil (fun j hj => by rw [hall j hj]; rfl) (by rw [hff]; rfl)]
        clear ih
        rw [e]
        refine wp_iload_n (pc := 2) (i := 1) dX4_firstFault_2 rfl rfl ?_
        refine wp_aload_n (pc := 3) (i := 0) dX4_firstFault_3 rfl rfl (by first | with_reducible assumption | rfl) ?_
        refine wp_getI (pc := 4) dX4_firstFault_4 lf_X4_15 (by first | with_reducible assumption | rfl) (by first | with_reducible assumption | rfl) rfl ?_
        rw [hL]
        first | (refine wp_icmp_geN (pc := 7) (tgt := 26) dX4_firstFault_7 (by decide) (by first | with_reducible assumption | omega) (by first | with_reducible assumption | omega) (fun c_7 => ?_) (fun c_7 => ?_)) | (refine wp_icmp_ge (pc := 7) (tgt := 26) dX4_firstFault_7 (by decide) (fun c_7 => ?_) (fun c_7 => ?_))
        · exact absurd c_7 (by omega)
        · refine wp_aload_n (pc := 10) (i := 0) dX4_firstFault_10 rfl rfl (by first | with_reducible assumption | rfl) ?_
          refine wp_iload_n (pc := 11) (i := 1) dX4_firstFault_11 rfl rfl ?_
          refine wp_cVP1 (pc := 12) (ci := 4) dX4_firstFault_12 lm_X4_19 m_X4_fits (by first | with_reducible assumption | rfl) (by first | with_reducible assumption | rfl) (by decide) rfl (Nat.le_of_ble_eq_true rfl) (sp_X4_fits hT hil hall) ?_
          rw [hff]
          refine wp_if_neB (pc := 15) (tgt := 20) dX4_firstFault_15 (by decide) (fun c_15 => ?_) (fun c_15 => ?_)
          · exact Bool.noConfusion c_15
          · refine wp_iload_n (pc := 18) (i := 1) dX4_firstFault_18 rfl rfl ?_
            refine wp_ireturn (pc := 19) dX4_firstFault_19 rfl ?_
            exact pq_i rfl
  refine call_of_wp (by decide) (Nat.le_of_ble_eq_true rfl) ?_
  refine wp_iconst (pc := 0) (v := nI 0) dX4_firstFault_0 (by decide +kernel) ?_
  refine wp_istore_n (pc := 1) (i := 1) dX4_firstFault_1 rfl (by decide) ?_
  exact loop t.length 0 (by omega) (fun j hj => absurd hj (Nat.not_lt_zero j))
theorem ff_none {t : List Nat} (h : ffT t = none) : 5 + wT t * htT t ≤ t.length ∧ (∀ j, j < t.length → fitT t j = true) := by
  unfold ffT at h
  split at h
  · cases h
  · rename_i hn
    rw [List.find?_eq_none] at hn
    split at h
    · cases h
    · rename_i h2
      refine ⟨by omega, fun j hj => ?_⟩
      have := hn j (List.mem_range.mpr hj)
      simpa using this
end TXT
