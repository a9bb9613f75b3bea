/-! CONSTRUCTORS: Text, Field, Place, Shelf, Past -/
theorem shf_up {m : Nat} : upd (fun j => if j < m then (-9 : Int32) else 0) m (-9) = fun j => if j < m + 1 then (-9 : Int32) else 0 := by
  funext j
  unfold upd
  show (if j = m then (-9 : Int32) else if j < m then -9 else 0) = if j < m + 1 then -9 else 0
  by_cases h : j = m
  · rw [if_pos h, if_pos (by omega)]
  · rw [if_neg h]
    by_cases h2 : j < m
    · rw [if_pos h2, if_pos (by omega)]
    · rw [if_neg h2, if_neg (by omega)]
theorem shf_0 : (fun j => if j < 0 then (-9 : Int32) else 0) = fun _ => 0 := by
  funext j
  rw [if_neg (Nat.not_lt_zero j)]
theorem ct_X4_init {h0 : Nat} : CT 1 1 24 kX4_init [.ref h0] [(h0, .inr (4, [.null, .int 0]))] (fun cA q => [(h0, .inr (4, [.ref (q 0), .int (nI 0)])), ((q 0), .inl (cA 2, 24, .inl (fun _ => 0)))]) := by
  refine ct_of_cp (by decide) (Nat.le_of_ble_eq_true rfl) rfl (fun l G cA A0 fm A => ?_)
  refine cp_aload_n (i := 0) dX4_init_0 rfl rfl ?_
  refine cp_obj dX4_init_1 ob_X4 (Nat.le_of_ble_eq_true rfl) (Nat.le_of_ble_eq_true rfl) ?_
  refine cp_aload_n (i := 0) dX4_init_4 rfl rfl ?_
  refine cp_bipush (v := nI 24) dX4_init_5 (by decide +kernel) ?_
  refine cp_newa (atype := .byte) (ty := .byte) (t := 2) (N := 24) (a0 := (24, .inl (fun _ => 0))) dX4_init_7 ac_byte rfl rfl (fun _ _ h => h) (fun _ => rfl) (Nat.le_of_ble_eq_true rfl) (Nat.le_of_ble_eq_true rfl) (Nat.le_of_ble_eq_true rfl) (Nat.le_of_ble_eq_true rfl) (fun q7 => ?_)
  refine cp_put (q0 := 0) (ci := 4) (kf := 0) dX4_init_9 ⟨Nat.le_of_ble_eq_true rfl, Nat.le_of_ble_eq_true rfl, rfl, tb_in 76 (by decide +kernel)⟩ rfl rfl rfl rfl (Nat.le_of_ble_eq_true rfl) ?_
  refine cp_aload_n (i := 0) dX4_init_12 rfl rfl ?_
  refine cp_iconst (v := nI 0) dX4_init_13 (by decide +kernel) ?_
  refine cp_put (q0 := 0) (ci := 4) (kf := 1) dX4_init_14 ⟨Nat.le_of_ble_eq_true rfl, Nat.le_of_ble_eq_true rfl, rfl, tb_in 77 (by decide +kernel)⟩ rfl rfl rfl rfl (Nat.le_of_ble_eq_true rfl) ?_
  refine cp_return dX4_init_17 rfl (Nat.le_of_ble_eq_true rfl) (Nat.le_of_ble_eq_true rfl) (fun i => [q7].getD i 0) (fun t h1 h2 => ⟨h1.sub [0, 1] rfl, h2.sub [0, 1] (by decide) rfl⟩)
theorem ct_X0_init {h0 : Nat} : CT 1 5 224 kX0_init [.ref h0] [(h0, .inr (0, [.null, .null, .null, .null, .null, .int 0, .int 0, .int 0, .int 0]))] (fun cA q => [(h0, .inr (0, [.ref (q 0), .ref (q 1), .ref (q 2), .ref (q 3), .ref (q 4), .int (nI 1), .int (nI 1), .int (nI 0), .int (nI 1)])), ((q 0), .inl (cA 0, 128, .inl (fun _ => 0))), ((q 1), .inl (cA 0, 16, .inl (fun _ => 0))), ((q 2), .inl (cA 0, 16, .inl (fun _ => 0))), ((q 3), .inl (cA 0, 32, .inl (fun _ => 0))), ((q 4), .inl (cA 0, 32, .inl (fun _ => 0)))]) := by
  refine ct_of_cp (by decide) (Nat.le_of_ble_eq_true rfl) rfl (fun l G cA A0 fm A => ?_)
  refine cp_aload_n (i := 0) dX0_init_0 rfl rfl ?_
  refine cp_obj dX0_init_1 ob_X0 (Nat.le_of_ble_eq_true rfl) (Nat.le_of_ble_eq_true rfl) ?_
  refine cp_aload_n (i := 0) dX0_init_4 rfl rfl ?_
  refine cp_sipush (v := nI 128) dX0_init_5 (by decide +kernel) ?_
  refine cp_newa (atype := .int) (ty := .int) (t := 0) (N := 128) (a0 := (128, .inl (fun _ => 0))) dX0_init_8 ac_int rfl rfl (fun _ _ h => h) (fun _ => rfl) (Nat.le_of_ble_eq_true rfl) (Nat.le_of_ble_eq_true rfl) (Nat.le_of_ble_eq_true rfl) (Nat.le_of_ble_eq_true rfl) (fun q8 => ?_)
  refine cp_put (q0 := 0) (ci := 0) (kf := 0) dX0_init_10 ⟨Nat.le_of_ble_eq_true rfl, Nat.le_of_ble_eq_true rfl, rfl, tb_in 91 (by decide +kernel)⟩ rfl rfl rfl rfl (Nat.le_of_ble_eq_true rfl) ?_
  refine cp_aload_n (i := 0) dX0_init_13 rfl rfl ?_
  refine cp_bipush (v := nI 16) dX0_init_14 (by decide +kernel) ?_
  refine cp_newa (atype := .int) (ty := .int) (t := 0) (N := 16) (a0 := (16, .inl (fun _ => 0))) dX0_init_16 ac_int rfl rfl (fun _ _ h => h) (fun _ => rfl) (Nat.le_of_ble_eq_true rfl) (Nat.le_of_ble_eq_true rfl) (Nat.le_of_ble_eq_true rfl) (Nat.le_of_ble_eq_true rfl) (fun q16 => ?_)
  refine cp_put (q0 := 0) (ci := 0) (kf := 1) dX0_init_18 ⟨Nat.le_of_ble_eq_true rfl, Nat.le_of_ble_eq_true rfl, rfl, tb_in 92 (by decide +kernel)⟩ rfl rfl rfl rfl (Nat.le_of_ble_eq_true rfl) ?_
  refine cp_aload_n (i := 0) dX0_init_21 rfl rfl ?_
  refine cp_bipush (v := nI 16) dX0_init_22 (by decide +kernel) ?_
  refine cp_newa (atype := .int) (ty := .int) (t := 0) (N := 16) (a0 := (16, .inl (fun _ => 0))) dX0_init_24 ac_int rfl rfl (fun _ _ h => h) (fun _ => rfl) (Nat.le_of_ble_eq_true rfl) (Nat.le_of_ble_eq_true rfl) (Nat.le_of_ble_eq_true rfl) (Nat.le_of_ble_eq_true rfl) (fun q24 => ?_)
  refine cp_put (q0 := 0) (ci := 0) (kf := 2) dX0_init_26 ⟨Nat.le_of_ble_eq_true rfl, Nat.le_of_ble_eq_true rfl, rfl, tb_in 93 (by decide +kernel)⟩ rfl rfl rfl rfl (Nat.le_of_ble_eq_true rfl) ?_
  refine cp_aload_n (i := 0) dX0_init_29 rfl rfl ?_
  refine cp_bipush (v := nI 32) dX0_init_30 (by decide +kernel) ?_
  refine cp_newa (atype := .int) (ty := .int) (t := 0) (N := 32) (a0 := (32, .inl (fun _ => 0))) dX0_init_32 ac_int rfl rfl (fun _ _ h => h) (fun _ => rfl) (Nat.le_of_ble_eq_true rfl) (Nat.le_of_ble_eq_true rfl) (Nat.le_of_ble_eq_true rfl) (Nat.le_of_ble_eq_true rfl) (fun q32 => ?_)
  refine cp_put (q0 := 0) (ci := 0) (kf := 3) dX0_init_34 ⟨Nat.le_of_ble_eq_true rfl, Nat.le_of_ble_eq_true rfl, rfl, tb_in 94 (by decide +kernel)⟩ rfl rfl rfl rfl (Nat.le_of_ble_eq_true rfl) ?_
  refine cp_aload_n (i := 0) dX0_init_37 rfl rfl ?_
  refine cp_bipush (v := nI 32) dX0_init_38 (by decide +kernel) ?_
  refine cp_newa (atype := .int) (ty := .int) (t := 0) (N := 32) (a0 := (32, .inl (fun _ => 0))) dX0_init_40 ac_int rfl rfl (fun _ _ h => h) (fun _ => rfl) (Nat.le_of_ble_eq_true rfl) (Nat.le_of_ble_eq_true rfl) (Nat.le_of_ble_eq_true rfl) (Nat.le_of_ble_eq_true rfl) (fun q40 => ?_)
  refine cp_put (q0 := 0) (ci := 0) (kf := 4) dX0_init_42 ⟨Nat.le_of_ble_eq_true rfl, Nat.le_of_ble_eq_true rfl, rfl, tb_in 95 (by decide +kernel)⟩ rfl rfl rfl rfl (Nat.le_of_ble_eq_true rfl) ?_
  refine cp_aload_n (i := 0) dX0_init_45 rfl rfl ?_
  refine cp_iconst (v := nI 1) dX0_init_46 (by decide +kernel) ?_
  refine cp_put (q0 := 0) (ci := 0) (kf := 5) dX0_init_47 ⟨Nat.le_of_ble_eq_true rfl, Nat.le_of_ble_eq_true rfl, rfl, tb_in 96 (by decide +kernel)⟩ rfl rfl rfl rfl (Nat.le_of_ble_eq_true rfl) ?_
  refine cp_aload_n (i := 0) dX0_init_50 rfl rfl ?_
  refine cp_iconst (v := nI 1) dX0_init_51 (by decide +kernel) ?_
  refine cp_put (q0 := 0) (ci := 0) (kf := 6) dX0_init_52 ⟨Nat.le_of_ble_eq_true rfl, Nat.le_of_ble_eq_true rfl, rfl, tb_in 98 (by decide +kernel)⟩ rfl rfl rfl rfl (Nat.le_of_ble_eq_true rfl) ?_
  refine cp_aload_n (i := 0) dX0_init_55 rfl rfl ?_
  refine cp_iconst (v := nI 0) dX0_init_56 (by decide +kernel) ?_
  refine cp_put (q0 := 0) (ci := 0) (kf := 7) dX0_init_57 ⟨Nat.le_of_ble_eq_true rfl, Nat.le_of_ble_eq_true rfl, rfl, tb_in 100 (by decide +kernel)⟩ rfl rfl rfl rfl (Nat.le_of_ble_eq_true rfl) ?_
  refine cp_aload_n (i := 0) dX0_init_60 rfl rfl ?_
  refine cp_iconst (v := nI 1) dX0_init_61 (by decide +kernel) ?_
  refine cp_put (q0 := 0) (ci := 0) (kf := 8) dX0_init_62 ⟨Nat.le_of_ble_eq_true rfl, Nat.le_of_ble_eq_true rfl, rfl, tb_in 102 (by decide +kernel)⟩ rfl rfl rfl rfl (Nat.le_of_ble_eq_true rfl) ?_
  refine cp_return dX0_init_65 rfl (Nat.le_of_ble_eq_true rfl) (Nat.le_of_ble_eq_true rfl) (fun i => [q8, q16, q24, q32, q40].getD i 0) (fun t h1 h2 => ⟨h1.sub [0, 1, 2, 3, 4, 5] rfl, h2.sub [0, 1, 2, 3, 4, 5] (by decide) rfl⟩)
theorem ct_X2_initN {h0 : Nat} : CT 1 1 64 kX2_init [.ref h0, .null] [(h0, .inr (2, [.null, .null, .int 0, .long 0, .long 0, .int 0, .int 0, .int 0, .int 0, .int 0, .int 0]))] (fun cA q => [(h0, .inr (2, [.null, .ref (q 0), .int (nI 0), .long 0, .long 0, .int (nI 0), .int (nI 0), .int (nI 0), .int (nI 0), .int (nI 0), .int (-9)])), ((q 0), .inl (cA 0, 64, .inl (fun _ => 0)))]) := by
  refine ct_of_cp (by decide) (Nat.le_of_ble_eq_true rfl) rfl (fun l G cA A0 fm A => ?_)
  refine cp_aload_n (i := 0) dX2_init_0 rfl rfl ?_
  refine cp_obj dX2_init_1 ob_X2 (Nat.le_of_ble_eq_true rfl) (Nat.le_of_ble_eq_true rfl) ?_
  refine cp_aload_n (i := 0) dX2_init_4 rfl rfl ?_
  refine cp_bipush (v := nI 64) dX2_init_5 (by decide +kernel) ?_
  refine cp_newa (atype := .int) (ty := .int) (t := 0) (N := 64) (a0 := (64, .inl (fun _ => 0))) dX2_init_7 ac_int rfl rfl (fun _ _ h => h) (fun _ => rfl) (Nat.le_of_ble_eq_true rfl) (Nat.le_of_ble_eq_true rfl) (Nat.le_of_ble_eq_true rfl) (Nat.le_of_ble_eq_true rfl) (fun q7 => ?_)
  refine cp_put (q0 := 0) (ci := 2) (kf := 1) dX2_init_9 ⟨Nat.le_of_ble_eq_true rfl, Nat.le_of_ble_eq_true rfl, rfl, tb_in 133 (by decide +kernel)⟩ rfl rfl rfl rfl (Nat.le_of_ble_eq_true rfl) ?_
  refine cp_aload_n (i := 0) dX2_init_12 rfl rfl ?_
  refine cp_iconst (v := nI 0) dX2_init_13 (by decide +kernel) ?_
  refine cp_put (q0 := 0) (ci := 2) (kf := 2) dX2_init_14 ⟨Nat.le_of_ble_eq_true rfl, Nat.le_of_ble_eq_true rfl, rfl, tb_in 134 (by decide +kernel)⟩ rfl rfl rfl rfl (Nat.le_of_ble_eq_true rfl) ?_
  refine cp_aload_n (i := 0) dX2_init_17 rfl rfl ?_
  refine cp_lconst (v := 0) dX2_init_18 (by decide +kernel) ?_
  refine cp_put (q0 := 0) (ci := 2) (kf := 3) dX2_init_19 ⟨Nat.le_of_ble_eq_true rfl, Nat.le_of_ble_eq_true rfl, rfl, tb_in 135 (by decide +kernel)⟩ rfl rfl rfl rfl (Nat.le_of_ble_eq_true rfl) ?_
  refine cp_aload_n (i := 0) dX2_init_22 rfl rfl ?_
  refine cp_lconst (v := 0) dX2_init_23 (by decide +kernel) ?_
  refine cp_put (q0 := 0) (ci := 2) (kf := 4) dX2_init_24 ⟨Nat.le_of_ble_eq_true rfl, Nat.le_of_ble_eq_true rfl, rfl, tb_in 137 (by decide +kernel)⟩ rfl rfl rfl rfl (Nat.le_of_ble_eq_true rfl) ?_
  refine cp_aload_n (i := 0) dX2_init_27 rfl rfl ?_
  refine cp_iconst (v := nI 0) dX2_init_28 (by decide +kernel) ?_
  refine cp_put (q0 := 0) (ci := 2) (kf := 5) dX2_init_29 ⟨Nat.le_of_ble_eq_true rfl, Nat.le_of_ble_eq_true rfl, rfl, tb_in 139 (by decide +kernel)⟩ rfl rfl rfl rfl (Nat.le_of_ble_eq_true rfl) ?_
  refine cp_aload_n (i := 0) dX2_init_32 rfl rfl ?_
  refine cp_iconst (v := nI 0) dX2_init_33 (by decide +kernel) ?_
  refine cp_put (q0 := 0) (ci := 2) (kf := 6) dX2_init_34 ⟨Nat.le_of_ble_eq_true rfl, Nat.le_of_ble_eq_true rfl, rfl, tb_in 141 (by decide +kernel)⟩ rfl rfl rfl rfl (Nat.le_of_ble_eq_true rfl) ?_
  refine cp_aload_n (i := 0) dX2_init_37 rfl rfl ?_
  refine cp_iconst (v := nI 0) dX2_init_38 (by decide +kernel) ?_
  refine cp_put (q0 := 0) (ci := 2) (kf := 7) dX2_init_39 ⟨Nat.le_of_ble_eq_true rfl, Nat.le_of_ble_eq_true rfl, rfl, tb_in 143 (by decide +kernel)⟩ rfl rfl rfl rfl (Nat.le_of_ble_eq_true rfl) ?_
  refine cp_aload_n (i := 0) dX2_init_42 rfl rfl ?_
  refine cp_iconst (v := nI 0) dX2_init_43 (by decide +kernel) ?_
  refine cp_put (q0 := 0) (ci := 2) (kf := 8) dX2_init_44 ⟨Nat.le_of_ble_eq_true rfl, Nat.le_of_ble_eq_true rfl, rfl, tb_in 145 (by decide +kernel)⟩ rfl rfl rfl rfl (Nat.le_of_ble_eq_true rfl) ?_
  refine cp_aload_n (i := 0) dX2_init_47 rfl rfl ?_
  refine cp_iconst (v := nI 0) dX2_init_48 (by decide +kernel) ?_
  refine cp_put (q0 := 0) (ci := 2) (kf := 9) dX2_init_49 ⟨Nat.le_of_ble_eq_true rfl, Nat.le_of_ble_eq_true rfl, rfl, tb_in 147 (by decide +kernel)⟩ rfl rfl rfl rfl (Nat.le_of_ble_eq_true rfl) ?_
  refine cp_aload_n (i := 0) dX2_init_52 rfl rfl ?_
  refine cp_bipush (v := (-9)) dX2_init_53 (by decide +kernel) ?_
  refine cp_put (q0 := 0) (ci := 2) (kf := 10) dX2_init_55 ⟨Nat.le_of_ble_eq_true rfl, Nat.le_of_ble_eq_true rfl, rfl, tb_in 150 (by decide +kernel)⟩ rfl rfl rfl rfl (Nat.le_of_ble_eq_true rfl) ?_
  refine cp_aload_n (i := 0) dX2_init_58 rfl rfl ?_
  refine cp_aload_nN (i := 1) dX2_init_59 rfl rfl ?_
  refine cp_put (q0 := 0) (ci := 2) (kf := 0) dX2_init_60 ⟨Nat.le_of_ble_eq_true rfl, Nat.le_of_ble_eq_true rfl, rfl, tb_in 131 (by decide +kernel)⟩ rfl rfl rfl rfl (Nat.le_of_ble_eq_true rfl) ?_
  refine cp_return dX2_init_63 rfl (Nat.le_of_ble_eq_true rfl) (Nat.le_of_ble_eq_true rfl) (fun i => [q7].getD i 0) (fun t h1 h2 => ⟨h1.sub [0, 1] rfl, h2.sub [0, 1] (by decide) rfl⟩)
theorem ct_X2_initR {h0 : Nat} {r0 : Nat} : CT 1 1 64 kX2_init [.ref h0, .ref r0] [(h0, .inr (2, [.null, .null, .int 0, .long 0, .long 0, .int 0, .int 0, .int 0, .int 0, .int 0, .int 0]))] (fun cA q => [(h0, .inr (2, [.ref r0, .ref (q 0), .int (nI 0), .long 0, .long 0, .int (nI 0), .int (nI 0), .int (nI 0), .int (nI 0), .int (nI 0), .int (-9)])), ((q 0), .inl (cA 0, 64, .inl (fun _ => 0)))]) := by
  refine ct_of_cp (by decide) (Nat.le_of_ble_eq_true rfl) rfl (fun l G cA A0 fm A => ?_)
  refine cp_aload_n (i := 0) dX2_init_0 rfl rfl ?_
  refine cp_obj dX2_init_1 ob_X2 (Nat.le_of_ble_eq_true rfl) (Nat.le_of_ble_eq_true rfl) ?_
  refine cp_aload_n (i := 0) dX2_init_4 rfl rfl ?_
  refine cp_bipush (v := nI 64) dX2_init_5 (by decide +kernel) ?_
  refine cp_newa (atype := .int) (ty := .int) (t := 0) (N := 64) (a0 := (64, .inl (fun _ => 0))) dX2_init_7 ac_int rfl rfl (fun _ _ h => h) (fun _ => rfl) (Nat.le_of_ble_eq_true rfl) (Nat.le_of_ble_eq_true rfl) (Nat.le_of_ble_eq_true rfl) (Nat.le_of_ble_eq_true rfl) (fun q7 => ?_)
  refine cp_put (q0 := 0) (ci := 2) (kf := 1) dX2_init_9 ⟨Nat.le_of_ble_eq_true rfl, Nat.le_of_ble_eq_true rfl, rfl, tb_in 133 (by decide +kernel)⟩ rfl rfl rfl rfl (Nat.le_of_ble_eq_true rfl) ?_
  refine cp_aload_n (i := 0) dX2_init_12 rfl rfl ?_
  refine cp_iconst (v := nI 0) dX2_init_13 (by decide +kernel) ?_
  refine cp_put (q0 := 0) (ci := 2) (kf := 2) dX2_init_14 ⟨Nat.le_of_ble_eq_true rfl, Nat.le_of_ble_eq_true rfl, rfl, tb_in 134 (by decide +kernel)⟩ rfl rfl rfl rfl (Nat.le_of_ble_eq_true rfl) ?_
  refine cp_aload_n (i := 0) dX2_init_17 rfl rfl ?_
  refine cp_lconst (v := 0) dX2_init_18 (by decide +kernel) ?_
  refine cp_put (q0 := 0) (ci := 2) (kf := 3) dX2_init_19 ⟨Nat.le_of_ble_eq_true rfl, Nat.le_of_ble_eq_true rfl, rfl, tb_in 135 (by decide +kernel)⟩ rfl rfl rfl rfl (Nat.le_of_ble_eq_true rfl) ?_
  refine cp_aload_n (i := 0) dX2_init_22 rfl rfl ?_
  refine cp_lconst (v := 0) dX2_init_23 (by decide +kernel) ?_
  refine cp_put (q0 := 0) (ci := 2) (kf := 4) dX2_init_24 ⟨Nat.le_of_ble_eq_true rfl, Nat.le_of_ble_eq_true rfl, rfl, tb_in 137 (by decide +kernel)⟩ rfl rfl rfl rfl (Nat.le_of_ble_eq_true rfl) ?_
  refine cp_aload_n (i := 0) dX2_init_27 rfl rfl ?_
  refine cp_iconst (v := nI 0) dX2_init_28 (by decide +kernel) ?_
  refine cp_put (q0 := 0) (ci := 2) (kf := 5) dX2_init_29 ⟨Nat.le_of_ble_eq_true rfl, Nat.le_of_ble_eq_true rfl, rfl, tb_in 139 (by decide +kernel)⟩ rfl rfl rfl rfl (Nat.le_of_ble_eq_true rfl) ?_
  refine cp_aload_n (i := 0) dX2_init_32 rfl rfl ?_
  refine cp_iconst (v := nI 0) dX2_init_33 (by decide +kernel) ?_
  refine cp_put (q0 := 0) (ci := 2) (kf := 6) dX2_init_34 ⟨Nat.le_of_ble_eq_true rfl, Nat.le_of_ble_eq_true rfl, rfl, tb_in 141 (by decide +kernel)⟩ rfl rfl rfl rfl (Nat.le_of_ble_eq_true rfl) ?_
  refine cp_aload_n (i := 0) dX2_init_37 rfl rfl ?_
  refine cp_iconst (v := nI 0) dX2_init_38 (by decide +kernel) ?_
  refine cp_put (q0 := 0) (ci := 2) (kf := 7) dX2_init_39 ⟨Nat.le_of_ble_eq_true rfl, Nat.le_of_ble_eq_true rfl, rfl, tb_in 143 (by decide +kernel)⟩ rfl rfl rfl rfl (Nat.le_of_ble_eq_true rfl) ?_
  refine cp_aload_n (i := 0) dX2_init_42 rfl rfl ?_
  refine cp_iconst (v := nI 0) dX2_init_43 (by decide +kernel) ?_
  refine cp_put (q0 := 0) (ci := 2) (kf := 8) dX2_init_44 ⟨Nat.le_of_ble_eq_true rfl, Nat.le_of_ble_eq_true rfl, rfl, tb_in 145 (by decide +kernel)⟩ rfl rfl rfl rfl (Nat.le_of_ble_eq_true rfl) ?_
  refine cp_aload_n (i := 0) dX2_init_47 rfl rfl ?_
  refine cp_iconst (v := nI 0) dX2_init_48 (by decide +kernel) ?_
  refine cp_put (q0 := 0) (ci := 2) (kf := 9) dX2_init_49 ⟨Nat.le_of_ble_eq_true rfl, Nat.le_of_ble_eq_true rfl, rfl, tb_in 147 (by decide +kernel)⟩ rfl rfl rfl rfl (Nat.le_of_ble_eq_true rfl) ?_
  refine cp_aload_n (i := 0) dX2_init_52 rfl rfl ?_
  refine cp_bipush (v := (-9)) dX2_init_53 (by decide +kernel) ?_
  refine cp_put (q0 := 0) (ci := 2) (kf := 10) dX2_init_55 ⟨Nat.le_of_ble_eq_true rfl, Nat.le_of_ble_eq_true rfl, rfl, tb_in 150 (by decide +kernel)⟩ rfl rfl rfl rfl (Nat.le_of_ble_eq_true rfl) ?_
  refine cp_aload_n (i := 0) dX2_init_58 rfl rfl ?_
  refine cp_aload_n (i := 1) dX2_init_59 rfl rfl ?_
  refine cp_put (q0 := 0) (ci := 2) (kf := 0) dX2_init_60 ⟨Nat.le_of_ble_eq_true rfl, Nat.le_of_ble_eq_true rfl, rfl, tb_in 131 (by decide +kernel)⟩ rfl rfl rfl rfl (Nat.le_of_ble_eq_true rfl) ?_
  refine cp_return dX2_init_63 rfl (Nat.le_of_ble_eq_true rfl) (Nat.le_of_ble_eq_true rfl) (fun i => [q7].getD i 0) (fun t h1 h2 => ⟨h1.sub [0, 1] rfl, h2.sub [0, 1] (by decide) rfl⟩)
theorem ct_X3_init2 {h0 : Nat} : CT 1 4 8 kX3_init [.ref h0, .int (nI 2)] [(h0, .inr (3, [.null, .null, .null, .null]))] (fun cA q => [(h0, .inr (3, [.ref (q 0), .ref (q 1), .ref (q 2), .ref (q 3)])), ((q 0), .inl (cA 1, 2, .inr (.inl (fun _ => 0)))), ((q 1), .inl (cA 1, 2, .inr (.inl (fun _ => 0)))), ((q 2), .inl (cA 0, 2, .inl (fun j => if j < 2 then -9 else 0))), ((q 3), .inl (cA 0, 2, .inl (fun _ => 0)))]) := by
  refine ct_of_cp (by decide) (Nat.le_of_ble_eq_true rfl) rfl (fun l G cA A0 fm A => ?_)
  refine cp_aload_n (i := 0) dX3_init_0 rfl rfl ?_
  refine cp_obj dX3_init_1 ob_X3 (Nat.le_of_ble_eq_true rfl) (Nat.le_of_ble_eq_true rfl) ?_
  refine cp_iload_n (i := 1) dX3_init_4 rfl rfl ?_
  refine cp_if_le (tgt := 12) dX3_init_5 (by decide) (by decide) (by decide) ?_
  refine cp_iload_n (i := 1) dX3_init_8 rfl rfl ?_
  refine cp_goto (tgt := 13) dX3_init_9 (by decide) ?_
  refine cp_istore_n (i := 2) dX3_init_13 rfl (by decide) ?_
  refine cp_aload_n (i := 0) dX3_init_14 rfl rfl ?_
  refine cp_iload_n (i := 2) dX3_init_15 rfl rfl ?_
  refine cp_newa (atype := .long) (ty := .long) (t := 1) (N := 2) (a0 := (2, .inr (.inl (fun _ => 0)))) dX3_init_16 ac_long rfl rfl (fun _ _ h => h) (fun _ => rfl) (Nat.le_of_ble_eq_true rfl) (Nat.le_of_ble_eq_true rfl) (Nat.le_of_ble_eq_true rfl) (Nat.le_of_ble_eq_true rfl) (fun q16 => ?_)
  refine cp_put (q0 := 0) (ci := 3) (kf := 0) dX3_init_18 ⟨Nat.le_of_ble_eq_true rfl, Nat.le_of_ble_eq_true rfl, rfl, tb_in 188 (by decide +kernel)⟩ rfl rfl rfl rfl (Nat.le_of_ble_eq_true rfl) ?_
  refine cp_aload_n (i := 0) dX3_init_21 rfl rfl ?_
  refine cp_iload_n (i := 2) dX3_init_22 rfl rfl ?_
  refine cp_newa (atype := .long) (ty := .long) (t := 1) (N := 2) (a0 := (2, .inr (.inl (fun _ => 0)))) dX3_init_23 ac_long rfl rfl (fun _ _ h => h) (fun _ => rfl) (Nat.le_of_ble_eq_true rfl) (Nat.le_of_ble_eq_true rfl) (Nat.le_of_ble_eq_true rfl) (Nat.le_of_ble_eq_true rfl) (fun q23 => ?_)
  refine cp_put (q0 := 0) (ci := 3) (kf := 1) dX3_init_25 ⟨Nat.le_of_ble_eq_true rfl, Nat.le_of_ble_eq_true rfl, rfl, tb_in 189 (by decide +kernel)⟩ rfl rfl rfl rfl (Nat.le_of_ble_eq_true rfl) ?_
  refine cp_aload_n (i := 0) dX3_init_28 rfl rfl ?_
  refine cp_iload_n (i := 2) dX3_init_29 rfl rfl ?_
  refine cp_newa (atype := .int) (ty := .int) (t := 0) (N := 2) (a0 := (2, .inl (fun _ => 0))) dX3_init_30 ac_int rfl rfl (fun _ _ h => h) (fun _ => rfl) (Nat.le_of_ble_eq_true rfl) (Nat.le_of_ble_eq_true rfl) (Nat.le_of_ble_eq_true rfl) (Nat.le_of_ble_eq_true rfl) (fun q30 => ?_)
  refine cp_put (q0 := 0) (ci := 3) (kf := 2) dX3_init_32 ⟨Nat.le_of_ble_eq_true rfl, Nat.le_of_ble_eq_true rfl, rfl, tb_in 190 (by decide +kernel)⟩ rfl rfl rfl rfl (Nat.le_of_ble_eq_true rfl) ?_
  refine cp_aload_n (i := 0) dX3_init_35 rfl rfl ?_
  refine cp_iload_n (i := 2) dX3_init_36 rfl rfl ?_
  refine cp_newa (atype := .int) (ty := .int) (t := 0) (N := 2) (a0 := (2, .inl (fun _ => 0))) dX3_init_37 ac_int rfl rfl (fun _ _ h => h) (fun _ => rfl) (Nat.le_of_ble_eq_true rfl) (Nat.le_of_ble_eq_true rfl) (Nat.le_of_ble_eq_true rfl) (Nat.le_of_ble_eq_true rfl) (fun q37 => ?_)
  refine cp_put (q0 := 0) (ci := 3) (kf := 3) dX3_init_39 ⟨Nat.le_of_ble_eq_true rfl, Nat.le_of_ble_eq_true rfl, rfl, tb_in 191 (by decide +kernel)⟩ rfl rfl rfl rfl (Nat.le_of_ble_eq_true rfl) ?_
  refine cp_iconst (v := nI 0) dX3_init_42 (by decide +kernel) ?_
  refine cp_istore_n (i := 3) dX3_init_43 rfl (by decide) ?_
  have loop : ∀ k m, k + m = 2 → CP G cA A0 fm kX3_init 1 4 8 A l (CTQ (fun (q : Nat → Nat) (t : State) => va_P G vwCl [(h0, .inr (3, [.ref (q 0), .ref (q 1), .ref (q 2), .ref (q 3)])), ((q 0), .inl (cA 1, 2, .inr (.inl (fun _ => 0)))), ((q 1), .inl (cA 1, 2, .inr (.inl (fun _ => 0)))), ((q 2), .inl (cA 0, 2, .inl (fun j => if j < 2 then -9 else 0))), ((q 3), .inl (cA 0, 2, .inl (fun _ => 0)))] t.heap ∧ va_D A [(h0, .inr (3, [.ref (q 0), .ref (q 1), .ref (q 2), .ref (q 3)])), ((q 0), .inl (cA 1, 2, .inr (.inl (fun _ => 0)))), ((q 1), .inl (cA 1, 2, .inr (.inl (fun _ => 0)))), ((q 2), .inl (cA 0, 2, .inl (fun j => if j < 2 then -9 else 0))), ((q 3), .inl (cA 0, 2, .inl (fun _ => 0)))]) A) 44 [(0, .ref h0), (1, .int (nI 2)), (2, .int (nI 2)), (3, .int (nI m))] [] (0 + 1 + 1 + 1 + 1) (0 + 2 + 2 + 2 + 2) [(h0, .inr (3, [.ref q16, .ref q23, .ref q30, .ref q37])), (q16, .inl (cA 1, 2, .inr (.inl (fun _ => 0)))), (q23, .inl (cA 1, 2, .inr (.inl (fun _ => 0)))), (q30, .inl (cA 0, 2, .inl (fun j => if j < m then -9 else 0))), (q37, .inl (cA 0, 2, .inl (fun _ => 0)))] := by
    intro k
    induction k with
    | zero =>
      intro m hm
      have hm2 : m = 2 := (Nat.zero_add m).symm.trans hm
      subst hm2
      refine cp_iload_n (i := 3) dX3_init_44 rfl rfl ?_
      refine cp_iload_n (i := 2) dX3_init_45 rfl rfl ?_
      refine cp_icmp_ge (tgt := 63) dX3_init_46 (by decide) (by decide) (by decide) (fun _ => ?_) (fun h => absurd (Nat.le_refl 2) h)
      refine cp_return dX3_init_63 rfl (Nat.le_of_ble_eq_true rfl) (Nat.le_of_ble_eq_true rfl) (fun i => [q16, q23, q30, q37].getD i 0) (fun t h1 h2 => ⟨h1.sub [0, 1, 2, 3, 4] rfl, h2.sub [0, 1, 2, 3, 4] (by decide) rfl⟩)
    | succ k ih =>
      intro m hm
      have hm2 : m < 2 := by omega
      refine cp_iload_n (i := 3) dX3_init_44 rfl rfl ?_
      refine cp_iload_n (i := 2) dX3_init_45 rfl rfl ?_
      refine cp_icmp_ge (tgt := 63) dX3_init_46 (by decide) (by omega) (by decide) (fun h => absurd h (by omega)) (fun _ => ?_)
      refine cp_aload_n (i := 0) dX3_init_49 rfl rfl ?_
      refine cp_getR (q0 := 0) (ci := 3) (kf := 2) (v := .ref q30) dX3_init_50 ⟨Nat.le_of_ble_eq_true rfl, Nat.le_of_ble_eq_true rfl, rfl, tb_in 190 (by decide +kernel)⟩ rfl rfl ?_
      refine cp_iload_n (i := 3) dX3_init_53 rfl rfl ?_
      refine cp_bipush (v := (-9)) dX3_init_54 (by decide +kernel) ?_
      refine cp_iast (q0 := 3) (j := m) dX3_init_56 rfl hm2 (by decide) ?_
      refine cp_iinc (v := nI (m + 1)) dX3_init_57 rfl (nI_add m 1) (by decide) ?_
      refine cp_goto (tgt := 44) dX3_init_60 (by decide) ?_
      have hI := ih (m + 1) (by omega)
      rw [← shf_up (m := m)] at hI
      exact hI
  have hI := loop 2 0 rfl
  rw [shf_0] at hI
  exact hI
theorem ct_X3_init16 {h0 : Nat} : CT 1 4 64 kX3_init [.ref h0, .int (nI 16)] [(h0, .inr (3, [.null, .null, .null, .null]))] (fun cA q => [(h0, .inr (3, [.ref (q 0), .ref (q 1), .ref (q 2), .ref (q 3)])), ((q 0), .inl (cA 1, 16, .inr (.inl (fun _ => 0)))), ((q 1), .inl (cA 1, 16, .inr (.inl (fun _ => 0)))), ((q 2), .inl (cA 0, 16, .inl (fun j => if j < 16 then -9 else 0))), ((q 3), .inl (cA 0, 16, .inl (fun _ => 0)))]) := by
  refine ct_of_cp (by decide) (Nat.le_of_ble_eq_true rfl) rfl (fun l G cA A0 fm A => ?_)
  refine cp_aload_n (i := 0) dX3_init_0 rfl rfl ?_
  refine cp_obj dX3_init_1 ob_X3 (Nat.le_of_ble_eq_true rfl) (Nat.le_of_ble_eq_true rfl) ?_
  refine cp_iload_n (i := 1) dX3_init_4 rfl rfl ?_
  refine cp_if_le (tgt := 12) dX3_init_5 (by decide) (by decide) (by decide) ?_
  refine cp_iload_n (i := 1) dX3_init_8 rfl rfl ?_
  refine cp_goto (tgt := 13) dX3_init_9 (by decide) ?_
  refine cp_istore_n (i := 2) dX3_init_13 rfl (by decide) ?_
  refine cp_aload_n (i := 0) dX3_init_14 rfl rfl ?_
  refine cp_iload_n (i := 2) dX3_init_15 rfl rfl ?_
  refine cp_newa (atype := .long) (ty := .long) (t := 1) (N := 16) (a0 := (16, .inr (.inl (fun _ => 0)))) dX3_init_16 ac_long rfl rfl (fun _ _ h => h) (fun _ => rfl) (Nat.le_of_ble_eq_true rfl) (Nat.le_of_ble_eq_true rfl) (Nat.le_of_ble_eq_true rfl) (Nat.le_of_ble_eq_true rfl) (fun q16 => ?_)
  refine cp_put (q0 := 0) (ci := 3) (kf := 0) dX3_init_18 ⟨Nat.le_of_ble_eq_true rfl, Nat.le_of_ble_eq_true rfl, rfl, tb_in 188 (by decide +kernel)⟩ rfl rfl rfl rfl (Nat.le_of_ble_eq_true rfl) ?_
  refine cp_aload_n (i := 0) dX3_init_21 rfl rfl ?_
  refine cp_iload_n (i := 2) dX3_init_22 rfl rfl ?_
  refine cp_newa (atype := .long) (ty := .long) (t := 1) (N := 16) (a0 := (16, .inr (.inl (fun _ => 0)))) dX3_init_23 ac_long rfl rfl (fun _ _ h => h) (fun _ => rfl) (Nat.le_of_ble_eq_true rfl) (Nat.le_of_ble_eq_true rfl) (Nat.le_of_ble_eq_true rfl) (Nat.le_of_ble_eq_true rfl) (fun q23 => ?_)
  refine cp_put (q0 := 0) (ci := 3) (kf := 1) dX3_init_25 ⟨Nat.le_of_ble_eq_true rfl, Nat.le_of_ble_eq_true rfl, rfl, tb_in 189 (by decide +kernel)⟩ rfl rfl rfl rfl (Nat.le_of_ble_eq_true rfl) ?_
  refine cp_aload_n (i := 0) dX3_init_28 rfl rfl ?_
  refine cp_iload_n (i := 2) dX3_init_29 rfl rfl ?_
  refine cp_newa (atype := .int) (ty := .int) (t := 0) (N := 16) (a0 := (16, .inl (fun _ => 0))) dX3_init_30 ac_int rfl rfl (fun _ _ h => h) (fun _ => rfl) (Nat.le_of_ble_eq_true rfl) (Nat.le_of_ble_eq_true rfl) (Nat.le_of_ble_eq_true rfl) (Nat.le_of_ble_eq_true rfl) (fun q30 => ?_)
  refine cp_put (q0 := 0) (ci := 3) (kf := 2) dX3_init_32 ⟨Nat.le_of_ble_eq_true rfl, Nat.le_of_ble_eq_true rfl, rfl, tb_in 190 (by decide +kernel)⟩ rfl rfl rfl rfl (Nat.le_of_ble_eq_true rfl) ?_
  refine cp_aload_n (i := 0) dX3_init_35 rfl rfl ?_
  refine cp_iload_n (i := 2) dX3_init_36 rfl rfl ?_
  refine cp_newa (atype := .int) (ty := .int) (t := 0) (N := 16) (a0 := (16, .inl (fun _ => 0))) dX3_init_37 ac_int rfl rfl (fun _ _ h => h) (fun _ => rfl) (Nat.le_of_ble_eq_true rfl) (Nat.le_of_ble_eq_true rfl) (Nat.le_of_ble_eq_true rfl) (Nat.le_of_ble_eq_true rfl) (fun q37 => ?_)
  refine cp_put (q0 := 0) (ci := 3) (kf := 3) dX3_init_39 ⟨Nat.le_of_ble_eq_true rfl, Nat.le_of_ble_eq_true rfl, rfl, tb_in 191 (by decide +kernel)⟩ rfl rfl rfl rfl (Nat.le_of_ble_eq_true rfl) ?_
  refine cp_iconst (v := nI 0) dX3_init_42 (by decide +kernel) ?_
  refine cp_istore_n (i := 3) dX3_init_43 rfl (by decide) ?_
  have loop : ∀ k m, k + m = 16 → CP G cA A0 fm kX3_init 1 4 64 A l (CTQ (fun (q : Nat → Nat) (t : State) => va_P G vwCl [(h0, .inr (3, [.ref (q 0), .ref (q 1), .ref (q 2), .ref (q 3)])), ((q 0), .inl (cA 1, 16, .inr (.inl (fun _ => 0)))), ((q 1), .inl (cA 1, 16, .inr (.inl (fun _ => 0)))), ((q 2), .inl (cA 0, 16, .inl (fun j => if j < 16 then -9 else 0))), ((q 3), .inl (cA 0, 16, .inl (fun _ => 0)))] t.heap ∧ va_D A [(h0, .inr (3, [.ref (q 0), .ref (q 1), .ref (q 2), .ref (q 3)])), ((q 0), .inl (cA 1, 16, .inr (.inl (fun _ => 0)))), ((q 1), .inl (cA 1, 16, .inr (.inl (fun _ => 0)))), ((q 2), .inl (cA 0, 16, .inl (fun j => if j < 16 then -9 else 0))), ((q 3), .inl (cA 0, 16, .inl (fun _ => 0)))]) A) 44 [(0, .ref h0), (1, .int (nI 16)), (2, .int (nI 16)), (3, .int (nI m))] [] (0 + 1 + 1 + 1 + 1) (0 + 16 + 16 + 16 + 16) [(h0, .inr (3, [.ref q16, .ref q23, .ref q30, .ref q37])), (q16, .inl (cA 1, 16, .inr (.inl (fun _ => 0)))), (q23, .inl (cA 1, 16, .inr (.inl (fun _ => 0)))), (q30, .inl (cA 0, 16, .inl (fun j => if j < m then -9 else 0))), (q37, .inl (cA 0, 16, .inl (fun _ => 0)))] := by
    intro k
    induction k with
    | zero =>
      intro m hm
      have hm2 : m = 16 := (Nat.zero_add m).symm.trans hm
      subst hm2
      refine cp_iload_n (i := 3) dX3_init_44 rfl rfl ?_
      refine cp_iload_n (i := 2) dX3_init_45 rfl rfl ?_
      refine cp_icmp_ge (tgt := 63) dX3_init_46 (by decide) (by decide) (by decide) (fun _ => ?_) (fun h => absurd (Nat.le_refl 16) h)
      refine cp_return dX3_init_63 rfl (Nat.le_of_ble_eq_true rfl) (Nat.le_of_ble_eq_true rfl) (fun i => [q16, q23, q30, q37].getD i 0) (fun t h1 h2 => ⟨h1.sub [0, 1, 2, 3, 4] rfl, h2.sub [0, 1, 2, 3, 4] (by decide) rfl⟩)
    | succ k ih =>
      intro m hm
      have hm2 : m < 16 := by omega
      refine cp_iload_n (i := 3) dX3_init_44 rfl rfl ?_
      refine cp_iload_n (i := 2) dX3_init_45 rfl rfl ?_
      refine cp_icmp_ge (tgt := 63) dX3_init_46 (by decide) (by omega) (by decide) (fun h => absurd h (by omega)) (fun _ => ?_)
      refine cp_aload_n (i := 0) dX3_init_49 rfl rfl ?_
      refine cp_getR (q0 := 0) (ci := 3) (kf := 2) (v := .ref q30) dX3_init_50 ⟨Nat.le_of_ble_eq_true rfl, Nat.le_of_ble_eq_true rfl, rfl, tb_in 190 (by decide +kernel)⟩ rfl rfl ?_
      refine cp_iload_n (i := 3) dX3_init_53 rfl rfl ?_
      refine cp_bipush (v := (-9)) dX3_init_54 (by decide +kernel) ?_
      refine cp_iast (q0 := 3) (j := m) dX3_init_56 rfl hm2 (by decide) ?_
      refine cp_iinc (v := nI (m + 1)) dX3_init_57 rfl (nI_add m 1) (by decide) ?_
      refine cp_goto (tgt := 44) dX3_init_60 (by decide) ?_
      have hI := ih (m + 1) (by omega)
      rw [← shf_up (m := m)] at hI
      exact hI
  have hI := loop 16 0 rfl
  rw [shf_0] at hI
  exact hI
theorem ct_X1_init {h0 : Nat} : CT 2 5 68 kX1_init [.ref h0] [(h0, .inr (1, [.null, .int 0, .int 0]))] (fun cA q => [(h0, .inr (1, [.ref (q 0), .int (nI 0), .int (nI 0)])), ((q 0), .inr (3, [.ref (q 1), .ref (q 2), .ref (q 3), .ref (q 4)])), ((q 1), .inl (cA 1, 16, .inr (.inl (fun _ => 0)))), ((q 2), .inl (cA 1, 16, .inr (.inl (fun _ => 0)))), ((q 3), .inl (cA 0, 16, .inl (fun j => if j < 16 then -9 else 0))), ((q 4), .inl (cA 0, 16, .inl (fun _ => 0)))]) := by
  refine ct_of_cp (by decide) (Nat.le_of_ble_eq_true rfl) rfl (fun l G cA A0 fm A => ?_)
  refine cp_aload_n (i := 0) dX1_init_0 rfl rfl ?_
  refine cp_obj dX1_init_1 ob_X1 (Nat.le_of_ble_eq_true rfl) (Nat.le_of_ble_eq_true rfl) ?_
  refine cp_aload_n (i := 0) dX1_init_4 rfl rfl ?_
  refine cp_new (ci := 3) (fs := [.null, .null, .null, .null]) dX1_init_5 (by decide) ⟨tb_in 182 (by decide +kernel), tb_in 183 (by decide +kernel), tb_in 52 (by decide +kernel)⟩ df_3 (Nat.le_of_ble_eq_true rfl) (Nat.le_of_ble_eq_true rfl) (fun q5 => ?_)
  refine cp_dup dX1_init_8 rfl ?_
  refine cp_bipush (v := nI 16) dX1_init_9 (by decide +kernel) ?_
  refine cp_call (j := 1) (isR := [0]) (wr := [(h0, .inr (1, [.null, .int 0, .int 0]))]) dX1_init_11 lm_X1_11 m_X3_init rfl rfl rfl (Nat.le_of_ble_eq_true rfl) ct_X3_init16 (Nat.le_of_ble_eq_true rfl) (Nat.le_of_ble_eq_true rfl) (Nat.le_of_ble_eq_true rfl) rfl (by decide) (by decide) (fun u11 => ?_)
  show CP _ _ _ _ _ _ _ _ _ _ _ _ _ _ _ _ [(h0, .inr (1, [.null, .int 0, .int 0])), (q5, .inr (3, [.ref (u11 0), .ref (u11 1), .ref (u11 2), .ref (u11 3)])), ((u11 0), .inl (cA 1, 16, .inr (.inl (fun _ => 0)))), ((u11 1), .inl (cA 1, 16, .inr (.inl (fun _ => 0)))), ((u11 2), .inl (cA 0, 16, .inl (fun j => if j < 16 then -9 else 0))), ((u11 3), .inl (cA 0, 16, .inl (fun _ => 0)))]
  refine cp_put (q0 := 0) (ci := 1) (kf := 0) dX1_init_14 ⟨Nat.le_of_ble_eq_true rfl, Nat.le_of_ble_eq_true rfl, rfl, tb_in 202 (by decide +kernel)⟩ rfl rfl rfl rfl (Nat.le_of_ble_eq_true rfl) ?_
  refine cp_aload_n (i := 0) dX1_init_17 rfl rfl ?_
  refine cp_iconst (v := nI 0) dX1_init_18 (by decide +kernel) ?_
  refine cp_put (q0 := 0) (ci := 1) (kf := 1) dX1_init_19 ⟨Nat.le_of_ble_eq_true rfl, Nat.le_of_ble_eq_true rfl, rfl, tb_in 203 (by decide +kernel)⟩ rfl rfl rfl rfl (Nat.le_of_ble_eq_true rfl) ?_
  refine cp_aload_n (i := 0) dX1_init_22 rfl rfl ?_
  refine cp_iconst (v := nI 0) dX1_init_23 (by decide +kernel) ?_
  refine cp_put (q0 := 0) (ci := 1) (kf := 2) dX1_init_24 ⟨Nat.le_of_ble_eq_true rfl, Nat.le_of_ble_eq_true rfl, rfl, tb_in 204 (by decide +kernel)⟩ rfl rfl rfl rfl (Nat.le_of_ble_eq_true rfl) ?_
  refine cp_return dX1_init_27 rfl (Nat.le_of_ble_eq_true rfl) (Nat.le_of_ble_eq_true rfl) (fun i => [q5, (u11 0), (u11 1), (u11 2), (u11 3)].getD i 0) (fun t h1 h2 => ⟨h1.sub [0, 1, 2, 3, 4, 5] rfl, h2.sub [0, 1, 2, 3, 4, 5] (by decide) rfl⟩)
