/-! LEAVES -/
section MMX
variable {Ω : Shp} {d : Nat} {K : Mth} {pc : Nat} {L : Lcs} {S : List Value} {I : MemI} {J : MemJ} {Q : Pst}
theorem rm1 {d : Nat} {n : Nat} (h : n ≤ 8) : 1 ≤ (rmD (d + 1)).frames ∧ n + 13 ≤ (rmD (d + 1)).locals := ⟨Nat.le_add_left 1 d, by show n + 13 ≤ 50 * (d + 1); omega⟩
theorem tb_mmax : (Cond.static Lib.Math.max.name ∈ TB ∧ Cond.initialized "java/lang/Math" ∈ TB) ∧ Cond.code Lib.Math.max.name Lib.Math.max.code 2 (some .int) ∈ TB := ⟨⟨tb_in 351 (by decide +kernel), tb_in 56 (by decide +kernel)⟩, tb_in 352 (by decide +kernel)⟩
theorem wp_mmax {a b idx : Nat} (hd : decode K.2.1 pc = .ok (.invokestatic idx, 3)) (lk : Cond.methodLink K.1.cls idx Lib.Math.max.name ∈ TB) (ha : a < 2147483648) (hb : b < 2147483648) (hw : (S.map fun v => v.category).sum ≤ 8) (k : WP Ω (d + 1) K (pc + 3) L (.int (nI (max a b)) :: S) I J Q) : WP Ω (d + 1) K pc L (.int (nI b) :: .int (nI a) :: S) I J Q := by
  intro l G cA A fm p e s m args below meth c H locs ls X hP hS hl
  have hr := rm1 (d := d) (sum_cat (A := A) (act_fm X) hw)
  have hts := X.2.2.2.2.2.2.1
  have h2 := k l G cA A fm p e s m args below meth c H locs ls X hP hS hl
  refine va_mmax X.1 X.2.1 (X.2.2.2.2.1.trans hl.1.symm) X.2.2.2.2.2.1 (hts _ lk) (hts _ tb_mmax.1.1) (hts _ tb_mmax.1.2) (hts _ tb_mmax.2) hr.1 hr.2 (Nat.zero_le _) (Nat.zero_le _) hd ?_
  have e1 : (if nI a < nI b then nI b else nI a) = nI (max a b) := by
    split
    · rename_i h; rw [nI_ltI ha hb] at h; exact congrArg nI (by omega)
    · rename_i h; rw [nI_ltI ha hb] at h; exact congrArg nI (by omega)
  rw [e1]
  exact h2
theorem tb_mmin : (Cond.static Lib.Math.min.name ∈ TB ∧ Cond.initialized "java/lang/Math" ∈ TB) ∧ Cond.code Lib.Math.min.name Lib.Math.min.code 2 (some .int) ∈ TB := ⟨⟨tb_in 354 (by decide +kernel), tb_in 56 (by decide +kernel)⟩, tb_in 355 (by decide +kernel)⟩
theorem wp_mmin {a b idx : Nat} (hd : decode K.2.1 pc = .ok (.invokestatic idx, 3)) (lk : Cond.methodLink K.1.cls idx Lib.Math.min.name ∈ TB) (ha : a < 2147483648) (hb : b < 2147483648) (hw : (S.map fun v => v.category).sum ≤ 8) (k : WP Ω (d + 1) K (pc + 3) L (.int (nI (min a b)) :: S) I J Q) : WP Ω (d + 1) K pc L (.int (nI b) :: .int (nI a) :: S) I J Q := by
  intro l G cA A fm p e s m args below meth c H locs ls X hP hS hl
  have hr := rm1 (d := d) (sum_cat (A := A) (act_fm X) hw)
  have hts := X.2.2.2.2.2.2.1
  have h2 := k l G cA A fm p e s m args below meth c H locs ls X hP hS hl
  refine va_mmin X.1 X.2.1 (X.2.2.2.2.1.trans hl.1.symm) X.2.2.2.2.2.1 (hts _ lk) (hts _ tb_mmin.1.1) (hts _ tb_mmin.1.2) (hts _ tb_mmin.2) hr.1 hr.2 (Nat.zero_le _) (Nat.zero_le _) hd ?_
  have e1 : (if nI b < nI a then nI b else nI a) = nI (min a b) := by
    split
    · rename_i h; rw [nI_ltI hb ha] at h; exact congrArg nI (by omega)
    · rename_i h; rw [nI_ltI hb ha] at h; exact congrArg nI (by omega)
  rw [e1]
  exact h2
theorem lk_max : Cond.methodLink RJ1 92 Lib.Math.max.name ∈ TB := tb_in 350 (by decide +kernel)
theorem lk_min : Cond.methodLink RJ1 38 Lib.Math.min.name ∈ TB := tb_in 353 (by decide +kernel)
end MMX
theorem div_bit {m c : Nat} : m / 2 ^ c % 2 = (m.testBit c).toNat := by
  rw [Nat.testBit_eq_decide_div_mod_eq]
  rcases Nat.mod_two_eq_zero_or_one (m / 2 ^ c) with h | h <;> simp [h]
theorem and_one (a : Nat) : a &&& 1 = a % 2 := Nat.and_two_pow_sub_one_eq_mod a 1
theorem and_255 (a : Nat) : a &&& 255 = a % 256 := Nat.and_two_pow_sub_one_eq_mod a 8
theorem and_15 (a : Nat) : a &&& 15 = a % 16 := Nat.and_two_pow_sub_one_eq_mod a 4
theorem has_0 {m c : Nat} (h : m / 2 ^ c % 2 = 0) : nI 0 = bI (m.testBit c) := by
  rw [div_bit] at h
  rw [bI, h]
theorem has_1 {m c : Nat} (h : ¬ (m / 2 ^ c % 2 = 0)) : nI 1 = bI (m.testBit c) := by
  rw [div_bit] at h
  cases hb : m.testBit c with
  | true => rfl
  | false => rw [hb] at h; exact absurd rfl h
/-- the side of a sign -/
def sdI (s : Nat) : Int32 := if s < 2 then -9 else if s < 7 then nI 0 else nI 1
/-- the kind of a sign -/
def kdI (s : Nat) : Int32 := if s < 2 then -1 else if s < 7 then nI (s - 2) else nI (s - 7)
/-- 0 ≤ x < n -/
def inB (x : Int32) (n : Nat) : Bool := decide (¬ x < 0 ∧ x < nI n)
theorem inB_n {j n : Nat} (hj : j < 2147483648) (hn : n < 2147483648) : inB (nI j) n = decide (j < n) := by
  unfold inB
  congr 1
  exact propext ⟨fun h => (nI_ltI hj hn).mp h.2, fun h => ⟨nI_pos hj, (nI_ltI hj hn).mpr h⟩⟩
theorem inB_t {x : Int32} {n : Nat} (hn : n < 2147483648) (h : inB x n = true) : ∃ j, j < n ∧ x = nI j := by
  have h := of_decide_eq_true h
  rcases pk_ix x hn with h1 | h1 | ⟨j, h1, h2⟩
  · exact absurd h1 h.1
  · exact absurd h1 (Int32.not_le.mpr h.2)
  · exact ⟨j, h1, h2⟩
theorem inB_f0 {x : Int32} {n : Nat} (h : x < 0) : nI 0 = bI (inB x n) := by
  have : inB x n = false := decide_eq_false (fun z => z.1 h)
  rw [this]; rfl
theorem inB_f1 {x : Int32} {n : Nat} (h : nI n ≤ x) : nI 0 = bI (inB x n) := by
  have : inB x n = false := decide_eq_false (fun z => (Int32.not_le.mpr z.2) h)
  rw [this]; rfl
theorem inB_1 {x : Int32} {n : Nat} (h0 : ¬ x < 0) (h : ¬ nI n ≤ x) : nI 1 = bI (inB x n) := by
  have : inB x n = true := decide_eq_true ⟨h0, Int32.not_le.mp h⟩
  rw [this]; rfl
def asc (s : Nat) : Nat := match s with
  | 0 => 46 | 1 => 35 | 2 => 75 | 3 => 82 | 4 => 66 | 5 => 78 | 6 => 80 | 7 => 107 | 8 => 114 | 9 => 98 | 10 => 110 | _ => 112
section LF1
variable {Ω : Shp} {d : Nat} {I : MemI} {J : MemJ}
set_option maxHeartbeats 16000000 in
/-- has(m, c): the c-th bit -/
theorem sp_X5_has {m c : Nat} (hm : m < 2147483648) (hc : c < 31) : CALL Ω d kX5_has [.int (nI m), .int (nI c)] I J (PQ (.int (bI (m.testBit c))) I J) := by
  refine call_of_wp (by decide) (Nat.le_of_ble_eq_true rfl) ?_
  refine wp_iload_n (pc := 0) (i := 0) dX5_has_0 rfl rfl ?_
  refine wp_iload_n (pc := 1) (i := 1) dX5_has_1 rfl rfl ?_
  first | (refine wp_ishrN (pc := 2) dX5_has_2 (by first | with_reducible assumption | omega) (by first | with_reducible assumption | omega) ?_) | (refine wp_ishr (pc := 2) dX5_has_2 ?_)
  refine wp_iconst (pc := 3) (v := nI 1) dX5_has_3 (by decide +kernel) ?_
  first | (refine wp_iandN (pc := 4) dX5_has_4 ?_) | (refine wp_iand (pc := 4) dX5_has_4 ?_)
  rw [and_one]
  first | (refine wp_if_eqB (pc := 5) (tgt := 12) dX5_has_5 (by decide) (fun c_5 => ?_) (fun c_5 => ?_)) | (refine wp_if_eqN (pc := 5) (tgt := 12) dX5_has_5 (by decide) (by first | with_reducible assumption | omega) (fun c_5 => ?_) (fun c_5 => ?_)) | (refine wp_if_eq (pc := 5) (tgt := 12) dX5_has_5 (by decide) (fun c_5 => ?_) (fun c_5 => ?_))
  · refine wp_iconst (pc := 12) (v := nI 0) dX5_has_12 (by decide +kernel) ?_
    refine wp_zreturn (pc := 13) dX5_has_13 rfl (by first | exact bI_narrow _ | exact nI_narrow01 (by omega) | decide +kernel | assumption) ?_
    first | exact pq_i (has_0 c_5) | exact pq_i (has_1 c_5)
  · refine wp_iconst (pc := 8) (v := nI 1) dX5_has_8 (by decide +kernel) ?_
    refine wp_goto (pc := 9) (tgt := 13) dX5_has_9 (by decide) ?_
    refine wp_zreturn (pc := 13) dX5_has_13 rfl (by first | exact bI_narrow _ | exact nI_narrow01 (by omega) | decide +kernel | assumption) ?_
    first | exact pq_i (has_0 c_5) | exact pq_i (has_1 c_5)
set_option maxHeartbeats 16000000 in
/-- at(row, j), in range -/
theorem sp_X5_at {a j n : Nat} (ha : Ω.1[a]? = some (1, 0, n)) (hb : Nat.beq a 1010 = false) (hj : j < n) (hn : n < 65536) : CALL Ω d kX5_at [.ref a, .int (nI j)] I J (PQ (.int (I a j)) I J) := by
  refine call_of_wp (by decide) (Nat.le_of_ble_eq_true rfl) ?_
  refine wp_iload_n (pc := 0) (i := 1) dX5_at_0 rfl rfl ?_
  refine wp_if_ltN (pc := 1) (tgt := 16) dX5_at_1 (by decide) (by first | with_reducible assumption | omega) ?_
  refine wp_iload_n (pc := 4) (i := 1) dX5_at_4 rfl rfl ?_
  refine wp_aload_n (pc := 5) (i := 0) dX5_at_5 rfl rfl (by first | with_reducible assumption | rfl) ?_
  refine wp_alen (pc := 6) dX5_at_6 (by first | with_reducible assumption | rfl) (by first | with_reducible assumption | rfl) (by first | decide | omega) ?_
  first | (refine wp_icmp_geN (pc := 7) (tgt := 16) dX5_at_7 (by decide) (by first | with_reducible assumption | omega) (by first | with_reducible assumption | omega) (fun c_7 => ?_) (fun c_7 => ?_)) | (refine wp_icmp_ge (pc := 7) (tgt := 16) dX5_at_7 (by decide) (fun c_7 => ?_) (fun c_7 => ?_))
  · exact absurd hj (by omega)
  · refine wp_aload_n (pc := 10) (i := 0) dX5_at_10 rfl rfl (by first | with_reducible assumption | rfl) ?_
    refine wp_iload_n (pc := 11) (i := 1) dX5_at_11 rfl rfl ?_
    refine wp_iald (pc := 12) dX5_at_12 ha hb hj hn ?_
    refine wp_goto (pc := 13) (tgt := 17) dX5_at_13 (by decide) ?_
    refine wp_ireturn (pc := 17) dX5_at_17 rfl ?_
    exact pq_i rfl
set_option maxHeartbeats 16000000 in
/-- lay(row, j, x), in range -/
theorem sp_X5_lay {a j n : Nat} {x : Int32} (ha : Ω.1[a]? = some (1, 0, n)) (hb : Nat.beq a 1010 = false) (hj : j < n) (hn : n < 65536) : CALL Ω d kX5_lay [.ref a, .int (nI j), .int x] I J (VQ (fun I' J' => I' = uI I a j x ∧ J' = J)) := by
  refine call_of_wp (by decide) (Nat.le_of_ble_eq_true rfl) ?_
  refine wp_iload_n (pc := 0) (i := 1) dX5_lay_0 rfl rfl ?_
  refine wp_if_ltN (pc := 1) (tgt := 14) dX5_lay_1 (by decide) (by first | with_reducible assumption | omega) ?_
  refine wp_iload_n (pc := 4) (i := 1) dX5_lay_4 rfl rfl ?_
  refine wp_aload_n (pc := 5) (i := 0) dX5_lay_5 rfl rfl (by first | with_reducible assumption | rfl) ?_
  refine wp_alen (pc := 6) dX5_lay_6 (by first | with_reducible assumption | rfl) (by first | with_reducible assumption | rfl) (by first | decide | omega) ?_
  first | (refine wp_icmp_geN (pc := 7) (tgt := 14) dX5_lay_7 (by decide) (by first | with_reducible assumption | omega) (by first | with_reducible assumption | omega) (fun c_7 => ?_) (fun c_7 => ?_)) | (refine wp_icmp_ge (pc := 7) (tgt := 14) dX5_lay_7 (by decide) (fun c_7 => ?_) (fun c_7 => ?_))
  · exact absurd hj (by omega)
  · refine wp_aload_n (pc := 10) (i := 0) dX5_lay_10 rfl rfl (by first | with_reducible assumption | rfl) ?_
    refine wp_iload_n (pc := 11) (i := 1) dX5_lay_11 rfl rfl ?_
    refine wp_iload_n (pc := 12) (i := 2) dX5_lay_12 rfl rfl ?_
    refine wp_iast (pc := 13) dX5_lay_13 ha hb hj hn ?_
    refine wp_return (pc := 14) dX5_lay_14 rfl ?_
    exact vq_i ⟨rfl, rfl⟩
set_option maxHeartbeats 16000000 in
theorem sp_X5_sideOf {s : Nat} (hs : s < 12) : CALL Ω d kX5_sideOf [.int (nI s)] I J (PQ (.int (sdI s)) I J) := by
  refine call_of_wp (by decide) (Nat.le_of_ble_eq_true rfl) ?_
  refine wp_iload_n (pc := 0) (i := 0) dX5_sideOf_0 rfl rfl ?_
  refine wp_iconst (pc := 1) (v := nI 2) dX5_sideOf_1 (by decide +kernel) ?_
  first | (refine wp_icmp_geN (pc := 2) (tgt := 8) dX5_sideOf_2 (by decide) (by first | with_reducible assumption | omega) (by first | with_reducible assumption | omega) (fun c_2 => ?_) (fun c_2 => ?_)) | (refine wp_icmp_ge (pc := 2) (tgt := 8) dX5_sideOf_2 (by decide) (fun c_2 => ?_) (fun c_2 => ?_))
  · refine wp_iload_n (pc := 8) (i := 0) dX5_sideOf_8 rfl rfl ?_
    refine wp_bipush (pc := 9) (v := nI 7) dX5_sideOf_9 (by decide +kernel) ?_
    first | (refine wp_icmp_geN (pc := 11) (tgt := 18) dX5_sideOf_11 (by decide) (by first | with_reducible assumption | omega) (by first | with_reducible assumption | omega) (fun c_11 => ?_) (fun c_11 => ?_)) | (refine wp_icmp_ge (pc := 11) (tgt := 18) dX5_sideOf_11 (by decide) (fun c_11 => ?_) (fun c_11 => ?_))
    · refine wp_iconst (pc := 18) (v := nI 1) dX5_sideOf_18 (by decide +kernel) ?_
      refine wp_ireturn (pc := 19) dX5_sideOf_19 rfl ?_
      exact pq_i (by unfold sdI; (repeat' split) <;> first | rfl | omega)
    · refine wp_iconst (pc := 14) (v := nI 0) dX5_sideOf_14 (by decide +kernel) ?_
      refine wp_goto (pc := 15) (tgt := 19) dX5_sideOf_15 (by decide) ?_
      refine wp_ireturn (pc := 19) dX5_sideOf_19 rfl ?_
      exact pq_i (by unfold sdI; (repeat' split) <;> first | rfl | omega)
  · refine wp_bipush (pc := 5) (v := (-9)) dX5_sideOf_5 (by decide +kernel) ?_
    refine wp_ireturn (pc := 7) dX5_sideOf_7 rfl ?_
    exact pq_i (by unfold sdI; (repeat' split) <;> first | rfl | omega)
set_option maxHeartbeats 16000000 in
theorem sp_X5_kindOf {s : Nat} (hs : s < 12) : CALL Ω d kX5_kindOf [.int (nI s)] I J (PQ (.int (kdI s)) I J) := by
  refine call_of_wp (by decide) (Nat.le_of_ble_eq_true rfl) ?_
  refine wp_iload_n (pc := 0) (i := 0) dX5_kindOf_0 rfl rfl ?_
  refine wp_iconst (pc := 1) (v := nI 2) dX5_kindOf_1 (by decide +kernel) ?_
  first | (refine wp_icmp_geN (pc := 2) (tgt := 7) dX5_kindOf_2 (by decide) (by first | with_reducible assumption | omega) (by first | with_reducible assumption | omega) (fun c_2 => ?_) (fun c_2 => ?_)) | (refine wp_icmp_ge (pc := 2) (tgt := 7) dX5_kindOf_2 (by decide) (fun c_2 => ?_) (fun c_2 => ?_))
  · refine wp_iload_n (pc := 7) (i := 0) dX5_kindOf_7 rfl rfl ?_
    refine wp_bipush (pc := 8) (v := nI 7) dX5_kindOf_8 (by decide +kernel) ?_
    first | (refine wp_icmp_geN (pc := 10) (tgt := 19) dX5_kindOf_10 (by decide) (by first | with_reducible assumption | omega) (by first | with_reducible assumption | omega) (fun c_10 => ?_) (fun c_10 => ?_)) | (refine wp_icmp_ge (pc := 10) (tgt := 19) dX5_kindOf_10 (by decide) (fun c_10 => ?_) (fun c_10 => ?_))
    · refine wp_iload_n (pc := 19) (i := 0) dX5_kindOf_19 rfl rfl ?_
      refine wp_bipush (pc := 20) (v := nI 7) dX5_kindOf_20 (by decide +kernel) ?_
      first | (refine wp_isubN (pc := 22) dX5_kindOf_22 (by first | with_reducible assumption | omega) ?_) | (refine wp_isub (pc := 22) dX5_kindOf_22 ?_)
      refine wp_ireturn (pc := 23) dX5_kindOf_23 rfl ?_
      exact pq_i (by unfold kdI; (repeat' split) <;> first | rfl | omega)
    · refine wp_iload_n (pc := 13) (i := 0) dX5_kindOf_13 rfl rfl ?_
      refine wp_iconst (pc := 14) (v := nI 2) dX5_kindOf_14 (by decide +kernel) ?_
      first | (refine wp_isubN (pc := 15) dX5_kindOf_15 (by first | with_reducible assumption | omega) ?_) | (refine wp_isub (pc := 15) dX5_kindOf_15 ?_)
      refine wp_goto (pc := 16) (tgt := 23) dX5_kindOf_16 (by decide) ?_
      refine wp_ireturn (pc := 23) dX5_kindOf_23 rfl ?_
      exact pq_i (by unfold kdI; (repeat' split) <;> first | rfl | omega)
  · refine wp_iconst (pc := 5) (v := (-1)) dX5_kindOf_5 (by decide +kernel) ?_
    refine wp_ireturn (pc := 6) dX5_kindOf_6 rfl ?_
    exact pq_i (by unfold kdI; (repeat' split) <;> first | rfl | omega)
set_option maxHeartbeats 16000000 in
theorem sp_X5_isSlot {x : Int32} : CALL Ω d kX5_isSlot [.int x] I J (PQ (.int (bI (inB x 2))) I J) := by
  refine call_of_wp (by decide) (Nat.le_of_ble_eq_true rfl) ?_
  refine wp_iload_n (pc := 0) (i := 0) dX5_isSlot_0 rfl rfl ?_
  refine wp_if_lt (pc := 1) (tgt := 13) dX5_isSlot_1 (by decide) (fun c_1 => ?_) (fun c_1 => ?_)
  · refine wp_iconst (pc := 13) (v := nI 0) dX5_isSlot_13 (by decide +kernel) ?_
    refine wp_zreturn (pc := 14) dX5_isSlot_14 rfl (by first | exact bI_narrow _ | exact nI_narrow01 (by omega) | decide +kernel | assumption) ?_
    first | exact pq_i (inB_f0 c_1) | exact pq_i (inB_f1 c_6) | exact pq_i (inB_1 c_1 c_6)
  · refine wp_iload_n (pc := 4) (i := 0) dX5_isSlot_4 rfl rfl ?_
    refine wp_iconst (pc := 5) (v := nI 2) dX5_isSlot_5 (by decide +kernel) ?_
    first | (refine wp_icmp_geN (pc := 6) (tgt := 13) dX5_isSlot_6 (by decide) (by first | with_reducible assumption | omega) (by first | with_reducible assumption | omega) (fun c_6 => ?_) (fun c_6 => ?_)) | (refine wp_icmp_ge (pc := 6) (tgt := 13) dX5_isSlot_6 (by decide) (fun c_6 => ?_) (fun c_6 => ?_))
    · refine wp_iconst (pc := 13) (v := nI 0) dX5_isSlot_13 (by decide +kernel) ?_
      refine wp_zreturn (pc := 14) dX5_isSlot_14 rfl (by first | exact bI_narrow _ | exact nI_narrow01 (by omega) | decide +kernel | assumption) ?_
      first | exact pq_i (inB_f0 c_1) | exact pq_i (inB_f1 c_6) | exact pq_i (inB_1 c_1 c_6)
    · refine wp_iconst (pc := 9) (v := nI 1) dX5_isSlot_9 (by decide +kernel) ?_
      refine wp_goto (pc := 10) (tgt := 14) dX5_isSlot_10 (by decide) ?_
      refine wp_zreturn (pc := 14) dX5_isSlot_14 rfl (by first | exact bI_narrow _ | exact nI_narrow01 (by omega) | decide +kernel | assumption) ?_
      first | exact pq_i (inB_f0 c_1) | exact pq_i (inB_f1 c_6) | exact pq_i (inB_1 c_1 c_6)
/-! the JDK's own -/
set_option maxHeartbeats 16000000 in
theorem sp_J0_isLatin1 {q : Nat} (h1 : 1004 ≤ q) (h2 : q < 1006) : CALL Ω d kJ0_isLatin1_aae02 [.ref q] I J (PQ (.int (nI 1)) I J) := by
  have hq : Nat.beq q 1010 = false := ro_beq (by omega)
  refine call_of_wp (by decide) (Nat.le_of_ble_eq_true rfl) ?_
  refine wp_getsZ (pc := 0) dJ0_isLatin1_aae02_0 sf_J0_38 ?_
  first | (refine wp_if_eqB (pc := 3) (tgt := 17) dJ0_isLatin1_aae02_3 (by decide) (fun c_3 => ?_) (fun c_3 => ?_)) | (refine wp_if_eqN (pc := 3) (tgt := 17) dJ0_isLatin1_aae02_3 (by decide) (by first | with_reducible assumption | omega) (fun c_3 => ?_) (fun c_3 => ?_)) | (refine wp_if_eq (pc := 3) (tgt := 17) dJ0_isLatin1_aae02_3 (by decide) (fun c_3 => ?_) (fun c_3 => ?_))
  · exact absurd c_3 (by decide)
  · refine wp_aload_n (pc := 6) (i := 0) dJ0_isLatin1_aae02_6 rfl rfl (by first | with_reducible assumption | rfl) ?_
    refine wp_getfC (pc := 7) dJ0_isLatin1_aae02_7 (by first | with_reducible assumption | omega) (by first | with_reducible assumption | omega) sf_J0_15 ?_
    first | (refine wp_if_neB (pc := 10) (tgt := 17) dJ0_isLatin1_aae02_10 (by decide) (fun c_10 => ?_) (fun c_10 => ?_)) | (refine wp_if_neN (pc := 10) (tgt := 17) dJ0_isLatin1_aae02_10 (by decide) (by first | with_reducible assumption | omega) (fun c_10 => ?_) (fun c_10 => ?_)) | (refine wp_if_ne (pc := 10) (tgt := 17) dJ0_isLatin1_aae02_10 (by decide) (fun c_10 => ?_) (fun c_10 => ?_))
    · exact absurd rfl c_10
    · refine wp_iconst (pc := 13) (v := nI 1) dJ0_isLatin1_aae02_13 (by decide +kernel) ?_
      refine wp_goto (pc := 14) (tgt := 18) dJ0_isLatin1_aae02_14 (by decide) ?_
      refine wp_zreturn (pc := 18) dJ0_isLatin1_aae02_18 rfl (by first | exact bI_narrow _ | exact nI_narrow01 (by omega) | decide +kernel | assumption) ?_
      exact pq_i rfl
set_option maxHeartbeats 16000000 in
theorem sp_J0_coder {q : Nat} (h1 : 1004 ≤ q) (h2 : q < 1006) : CALL Ω d kJ0_coder_7d493 [.ref q] I J (PQ (.int (nI 0)) I J) := by
  have hq : Nat.beq q 1010 = false := ro_beq (by omega)
  refine call_of_wp (by decide) (Nat.le_of_ble_eq_true rfl) ?_
  refine wp_getsZ (pc := 0) dJ0_coder_7d493_0 sf_J0_38 ?_
  first | (refine wp_if_eqB (pc := 3) (tgt := 13) dJ0_coder_7d493_3 (by decide) (fun c_3 => ?_) (fun c_3 => ?_)) | (refine wp_if_eqN (pc := 3) (tgt := 13) dJ0_coder_7d493_3 (by decide) (by first | with_reducible assumption | omega) (fun c_3 => ?_) (fun c_3 => ?_)) | (refine wp_if_eq (pc := 3) (tgt := 13) dJ0_coder_7d493_3 (by decide) (fun c_3 => ?_) (fun c_3 => ?_))
  · exact absurd c_3 (by decide)
  · refine wp_aload_n (pc := 6) (i := 0) dJ0_coder_7d493_6 rfl rfl (by first | with_reducible assumption | rfl) ?_
    refine wp_getfC (pc := 7) dJ0_coder_7d493_7 (by first | with_reducible assumption | omega) (by first | with_reducible assumption | omega) sf_J0_15 ?_
    refine wp_goto (pc := 10) (tgt := 14) dJ0_coder_7d493_10 (by decide) ?_
    refine wp_zreturn (pc := 14) dJ0_coder_7d493_14 rfl (by first | exact bI_narrow _ | exact nI_narrow01 (by omega) | decide +kernel | assumption) ?_
    exact pq_i rfl
set_option maxHeartbeats 16000000 in
theorem sp_J0_length {q : Nat} (h1 : 1004 ≤ q) (h2 : q < 1006) : CALL Ω (d + 1) kJ0_length_8abf5 [.ref q] I J (PQ (.int (nI 12)) I J) := by
  have hq : Nat.beq q 1010 = false := ro_beq (by omega)
  refine call_of_wp (by decide) (Nat.le_of_ble_eq_true rfl) ?_
  refine wp_aload_n (pc := 0) (i := 0) dJ0_length_8abf5_0 rfl rfl (by first | with_reducible assumption | rfl) ?_
  refine wp_getfV (pc := 1) dJ0_length_8abf5_1 (by first | with_reducible assumption | omega) (by first | with_reducible assumption | omega) sf_J0_9 ?_
  refine wp_alenT (pc := 4) dJ0_length_8abf5_4 (by omega) (by omega) ?_
  refine wp_aload_n (pc := 5) (i := 0) dJ0_length_8abf5_5 rfl rfl (by first | with_reducible assumption | rfl) ?_
  refine wp_cTP0 (pc := 6) dJ0_length_8abf5_6 lm_J0_335 (by decide) m_J0_coder_7d493 (by first | with_reducible assumption | omega) (by first | with_reducible assumption | omega) rfl (Nat.le_of_ble_eq_true rfl) (sp_J0_coder (by first | with_reducible assumption | omega) (by first | with_reducible assumption | omega)) ?_
  first | (refine wp_ishrN (pc := 9) dJ0_length_8abf5_9 (by first | with_reducible assumption | omega) (by first | with_reducible assumption | omega) ?_) | (refine wp_ishr (pc := 9) dJ0_length_8abf5_9 ?_)
  refine wp_ireturn (pc := 10) dJ0_length_8abf5_10 rfl ?_
  exact pq_i rfl
set_option maxHeartbeats 16000000 in
theorem sp_J3_checkIndex {i n q : Nat} (h : i < n) (hn : n < 65536) : CALL Ω d kJ3_checkIndex_8e157 [.int (nI i), .int (nI n), .ref q] I J (PQ (.int (nI i)) I J) := by
  refine call_of_wp (by decide) (Nat.le_of_ble_eq_true rfl) ?_
  refine wp_iload_n (pc := 0) (i := 0) dJ3_checkIndex_8e157_0 rfl rfl ?_
  refine wp_if_ltN (pc := 1) (tgt := 9) dJ3_checkIndex_8e157_1 (by decide) (by first | with_reducible assumption | omega) ?_
  refine wp_iload_n (pc := 4) (i := 0) dJ3_checkIndex_8e157_4 rfl rfl ?_
  refine wp_iload_n (pc := 5) (i := 1) dJ3_checkIndex_8e157_5 rfl rfl ?_
  first | (refine wp_icmp_ltN (pc := 6) (tgt := 16) dJ3_checkIndex_8e157_6 (by decide) (by first | with_reducible assumption | omega) (by first | with_reducible assumption | omega) (fun c_6 => ?_) (fun c_6 => ?_)) | (refine wp_icmp_lt (pc := 6) (tgt := 16) dJ3_checkIndex_8e157_6 (by decide) (fun c_6 => ?_) (fun c_6 => ?_))
  · refine wp_iload_n (pc := 16) (i := 0) dJ3_checkIndex_8e157_16 rfl rfl ?_
    refine wp_ireturn (pc := 17) dJ3_checkIndex_8e157_17 rfl ?_
    exact pq_i rfl
  · exact absurd h c_6
set_option maxHeartbeats 16000000 in
theorem sp_J0_checkIndex {i n : Nat} (h : i < n) (hn : n < 65536) : CALL Ω (d + 1) kJ0_checkIndex_df160 [.int (nI i), .int (nI n)] I J (VQ (fun I' J' => I' = I ∧ J' = J)) := by
  refine call_of_wp (by decide) (Nat.le_of_ble_eq_true rfl) ?_
  refine wp_iload_n (pc := 0) (i := 0) dJ0_checkIndex_df160_0 rfl rfl ?_
  refine wp_iload_n (pc := 1) (i := 1) dJ0_checkIndex_df160_1 rfl rfl ?_
  refine wp_getsF (pc := 2) dJ0_checkIndex_df160_2 sf_J0_1053 ?_
  refine wp_cSP3 (pc := 5) dJ0_checkIndex_df160_5 lm_J0_1059 m_J3_checkIndex_8e157 (Nat.le_of_ble_eq_true rfl) (sp_J3_checkIndex (by first | with_reducible assumption | omega) (by first | with_reducible assumption | omega)) ?_
  refine wp_pop (pc := 8) dJ0_checkIndex_df160_8 rfl ?_
  refine wp_return (pc := 9) dJ0_checkIndex_df160_9 rfl ?_
  exact vq_i ⟨rfl, rfl⟩
/-- the bytes of the signs -/
theorem ro_asc : ∀ q, 1006 ≤ q → q < 1008 → ∀ j, j < 12 → (roT q).getD j 0 = nI (asc j) := by
  intro q h1 h2
  rcases (show q = 1006 ∨ q = 1007 by omega) with rfl | rfl <;> decide +kernel
theorem asc_lt (s : Nat) : asc s < 128 := by unfold asc; split <;> omega
set_option maxHeartbeats 16000000 in
theorem sp_J1_charAt {q i : Nat} (h1 : 1006 ≤ q) (h2 : q < 1008) (h : i < 12) : CALL Ω (d + 2) kJ1_charAt_3b067 [.ref q, .int (nI i)] I J (PQ (.int (nI (asc i))) I J) := by
  have hq : Nat.beq q 1010 = false := ro_beq (by omega)
  have ha := asc_lt i
  refine call_of_wp (by decide) (Nat.le_of_ble_eq_true rfl) ?_
  refine wp_iload_n (pc := 0) (i := 1) dJ1_charAt_3b067_0 rfl rfl ?_
  refine wp_aload_n (pc := 1) (i := 0) dJ1_charAt_3b067_1 rfl rfl (by first | with_reducible assumption | rfl) ?_
  refine wp_alenT (pc := 2) dJ1_charAt_3b067_2 (by omega) (by omega) ?_
  refine wp_cSV2 (pc := 3) dJ1_charAt_3b067_3 lm_J1_9 m_J0_checkIndex_df160 (Nat.le_of_ble_eq_true rfl) (sp_J0_checkIndex (by first | with_reducible assumption | omega) (by first | with_reducible assumption | omega)) (fun I_3 J_3 h_3 => ?_)
  obtain ⟨rfl, rfl⟩ := h_3
  refine wp_aload_n (pc := 6) (i := 0) dJ1_charAt_3b067_6 rfl rfl (by first | with_reducible assumption | rfl) ?_
  refine wp_iload_n (pc := 7) (i := 1) dJ1_charAt_3b067_7 rfl rfl ?_
  refine wp_baldT (pc := 8) dJ1_charAt_3b067_8 (by omega) (by omega) h ?_
  rw [ro_asc q h1 h2 i h]
  refine wp_sipush (pc := 9) (v := nI 255) dJ1_charAt_3b067_9 (by decide +kernel) ?_
  first | (refine wp_iandN (pc := 12) dJ1_charAt_3b067_12 ?_) | (refine wp_iand (pc := 12) dJ1_charAt_3b067_12 ?_)
  refine wp_i2c (pc := 13) dJ1_charAt_3b067_13 ?_
  rw [and_255, Nat.mod_eq_of_lt (by omega), show ((nI (asc i)).toUInt32 % 65536).toInt32 = nI (asc i) by rw [pk_char, pk_tn (by omega), Nat.mod_eq_of_lt (by omega)]]
  refine wp_zreturn (pc := 14) dJ1_charAt_3b067_14 rfl (pk_charN (by omega)).1 ?_
  exact pq_i rfl
set_option maxHeartbeats 16000000 in
theorem sp_J0_charAt {q i : Nat} (h1 : 1004 ≤ q) (h2 : q < 1006) (h : i < 12) : CALL Ω (d + 3) kJ0_charAt_5068e [.ref q, .int (nI i)] I J (PQ (.int (nI (asc i))) I J) := by
  have hq : Nat.beq q 1010 = false := ro_beq (by omega)
  have ha := asc_lt i
  refine call_of_wp (by decide) (Nat.le_of_ble_eq_true rfl) ?_
  refine wp_aload_n (pc := 0) (i := 0) dJ0_charAt_5068e_0 rfl rfl (by first | with_reducible assumption | rfl) ?_
  refine wp_cTP0 (pc := 1) dJ0_charAt_5068e_1 lm_J0_492 (by decide) m_J0_isLatin1_aae02 (by first | with_reducible assumption | omega) (by first | with_reducible assumption | omega) rfl (Nat.le_of_ble_eq_true rfl) (sp_J0_isLatin1 (by first | with_reducible assumption | omega) (by first | with_reducible assumption | omega)) ?_
  first | (refine wp_if_eqB (pc := 4) (tgt := 16) dJ0_charAt_5068e_4 (by decide) (fun c_4 => ?_) (fun c_4 => ?_)) | (refine wp_if_eqN (pc := 4) (tgt := 16) dJ0_charAt_5068e_4 (by decide) (by first | with_reducible assumption | omega) (fun c_4 => ?_) (fun c_4 => ?_)) | (refine wp_if_eq (pc := 4) (tgt := 16) dJ0_charAt_5068e_4 (by decide) (fun c_4 => ?_) (fun c_4 => ?_))
  · exact absurd c_4 (by decide)
  · refine wp_aload_n (pc := 7) (i := 0) dJ0_charAt_5068e_7 rfl rfl (by first | with_reducible assumption | rfl) ?_
    refine wp_getfV (pc := 8) dJ0_charAt_5068e_8 (by first | with_reducible assumption | omega) (by first | with_reducible assumption | omega) sf_J0_9 ?_
    refine wp_iload_n (pc := 11) (i := 1) dJ0_charAt_5068e_11 rfl rfl ?_
    refine wp_cSP2 (pc := 12) dJ0_charAt_5068e_12 lm_J0_495 m_J1_charAt_3b067 (Nat.le_of_ble_eq_true rfl) (sp_J1_charAt (by first | with_reducible assumption | omega) (by first | with_reducible assumption | omega) (by first | with_reducible assumption | omega)) ?_
    refine wp_zreturn (pc := 15) dJ0_charAt_5068e_15 rfl (pk_charN (by omega)).1 ?_
    exact pq_i rfl
set_option maxHeartbeats 16000000 in
theorem sp_X5_letter {s : Nat} (hs : s < 12) : CALL Ω (d + 4) kX5_letter [.int (nI s)] I J (PQ (.int (nI (asc s))) I J) := by
  refine call_of_wp (by decide) (Nat.le_of_ble_eq_true rfl) ?_
  refine wp_iload_n (pc := 0) (i := 0) dX5_letter_0 rfl rfl ?_
  refine wp_if_ltN (pc := 1) (tgt := 24) dX5_letter_1 (by decide) (by first | with_reducible assumption | omega) ?_
  refine wp_iload_n (pc := 4) (i := 0) dX5_letter_4 rfl rfl ?_
  refine wp_ldcS5 (pc := 5) dX5_letter_5 rfl ?_
  refine wp_cTP0 (pc := 8) dX5_letter_8 lm_X5_270 (by decide) m_J0_length_8abf5 (by first | with_reducible assumption | omega) (by first | with_reducible assumption | omega) rfl (Nat.le_of_ble_eq_true rfl) (sp_J0_length (by first | with_reducible assumption | omega) (by first | with_reducible assumption | omega)) ?_
  first | (refine wp_icmp_geN (pc := 11) (tgt := 24) dX5_letter_11 (by decide) (by first | with_reducible assumption | omega) (by first | with_reducible assumption | omega) (fun c_11 => ?_) (fun c_11 => ?_)) | (refine wp_icmp_ge (pc := 11) (tgt := 24) dX5_letter_11 (by decide) (fun c_11 => ?_) (fun c_11 => ?_))
  · exact absurd hs (by omega)
  · refine wp_ldcS5 (pc := 14) dX5_letter_14 rfl ?_
    refine wp_iload_n (pc := 17) (i := 0) dX5_letter_17 rfl rfl ?_
    refine wp_cTP1 (pc := 18) dX5_letter_18 lm_X5_274 (by decide) m_J0_charAt_5068e (by first | with_reducible assumption | omega) (by first | with_reducible assumption | omega) rfl (Nat.le_of_ble_eq_true rfl) (sp_J0_charAt (by first | with_reducible assumption | omega) (by first | with_reducible assumption | omega) (by first | with_reducible assumption | omega)) ?_
    refine wp_goto (pc := 21) (tgt := 25) dX5_letter_21 (by decide) ?_
    refine wp_ireturn (pc := 25) dX5_letter_25 rfl ?_
    exact pq_i rfl
end LF1
