/-! CONSTRUCTORS: the reference -/
set_option maxHeartbeats 16000000 in
theorem mt_X6_init {l : Launch} {G : va_G} {cA : Nat → ClassId} {A0 : Nat → Nat} {fm : Value} {sz h0 : Nat} : Met l kX6_init.1 (wsK kX6_init) (rmC 1 12 2074) (CTP G cA A0 fm [(h0, .inr (6, [.int 0, .int 0, .int 0, .null, .null, .null, .null, .null, .int 0, .null, .null, .int 0, .int 0, .null, .null, .null, .long 0, .null, .null]))] sz [.ref h0]) (CTQ (XQ ΩM (RM s00) G cA A0 h0 (va_A [(h0, .inr (6, [.int 0, .int 0, .int 0, .null, .null, .null, .null, .null, .int 0, .null, .null, .int 0, .int 0, .null, .null, .null, .long 0, .null, .null]))] sz)) (va_A [(h0, .inr (6, [.int 0, .int 0, .int 0, .null, .null, .null, .null, .null, .int 0, .null, .null, .int 0, .int 0, .null, .null, .null, .long 0, .null, .null]))] sz)) 12 2074 (va_A [(h0, .inr (6, [.int 0, .int 0, .int 0, .null, .null, .null, .null, .null, .int 0, .null, .null, .int 0, .int 0, .null, .null, .null, .long 0, .null, .null]))] sz) := by
  refine met_of_cp (by decide) (Nat.le_of_ble_eq_true rfl) rfl (fun A hA => ?_)
  subst hA
  refine cp_aload_n (i := 0) dX6_init_0 rfl rfl ?_
  refine cp_obj dX6_init_1 ob_X6 (Nat.le_of_ble_eq_true rfl) (Nat.le_of_ble_eq_true rfl) ?_
  refine cp_aload_n (i := 0) dX6_init_4 rfl rfl ?_
  refine cp_bipush (v := nI 64) dX6_init_5 (by decide +kernel) ?_
  refine cp_newa (atype := .int) (ty := .int) (t := 0) (N := 64) (a0 := (64, .inl (fun _ => 0))) dX6_init_7 ac_int rfl rfl (fun _ _ h => h) (fun _ => rfl) (Nat.le_of_ble_eq_true rfl) (Nat.le_of_ble_eq_true rfl) (Nat.le_of_ble_eq_true rfl) (Nat.le_of_ble_eq_true rfl) (fun q7 => ?_)
  refine cp_put (q0 := 0) (ci := 6) (kf := 3) dX6_init_9 ⟨Nat.le_of_ble_eq_true rfl, Nat.le_of_ble_eq_true rfl, rfl, tb_in 793 (by decide +kernel)⟩ rfl rfl rfl rfl (Nat.le_of_ble_eq_true rfl) ?_
  show CP _ _ _ _ _ _ _ _ _ _ _ _ _ _ _ _ [(h0, .inr (6, [.int 0, .int 0, .int 0, .ref q7, .null, .null, .null, .null, .int 0, .null, .null, .int 0, .int 0, .null, .null, .null, .long 0, .null, .null])), (q7, .inl (cA 0, 64, .inl (fun _ => 0)))]
  refine cp_aload_n (i := 0) dX6_init_12 rfl rfl ?_
  refine cp_bipush (v := nI 64) dX6_init_13 (by decide +kernel) ?_
  refine cp_newa (atype := .int) (ty := .int) (t := 0) (N := 64) (a0 := (64, .inl (fun _ => 0))) dX6_init_15 ac_int rfl rfl (fun _ _ h => h) (fun _ => rfl) (Nat.le_of_ble_eq_true rfl) (Nat.le_of_ble_eq_true rfl) (Nat.le_of_ble_eq_true rfl) (Nat.le_of_ble_eq_true rfl) (fun q15 => ?_)
  refine cp_put (q0 := 0) (ci := 6) (kf := 4) dX6_init_17 ⟨Nat.le_of_ble_eq_true rfl, Nat.le_of_ble_eq_true rfl, rfl, tb_in 794 (by decide +kernel)⟩ rfl rfl rfl rfl (Nat.le_of_ble_eq_true rfl) ?_
  show CP _ _ _ _ _ _ _ _ _ _ _ _ _ _ _ _ [(h0, .inr (6, [.int 0, .int 0, .int 0, .ref q7, .ref q15, .null, .null, .null, .int 0, .null, .null, .int 0, .int 0, .null, .null, .null, .long 0, .null, .null])), (q7, .inl (cA 0, 64, .inl (fun _ => 0))), (q15, .inl (cA 0, 64, .inl (fun _ => 0)))]
  refine cp_aload_n (i := 0) dX6_init_20 rfl rfl ?_
  refine cp_iconst (v := nI 4) dX6_init_21 (by decide +kernel) ?_
  refine cp_newa (atype := .int) (ty := .int) (t := 0) (N := 4) (a0 := (4, .inl (fun _ => 0))) dX6_init_22 ac_int rfl rfl (fun _ _ h => h) (fun _ => rfl) (Nat.le_of_ble_eq_true rfl) (Nat.le_of_ble_eq_true rfl) (Nat.le_of_ble_eq_true rfl) (Nat.le_of_ble_eq_true rfl) (fun q22 => ?_)
  refine cp_put (q0 := 0) (ci := 6) (kf := 5) dX6_init_24 ⟨Nat.le_of_ble_eq_true rfl, Nat.le_of_ble_eq_true rfl, rfl, tb_in 795 (by decide +kernel)⟩ rfl rfl rfl rfl (Nat.le_of_ble_eq_true rfl) ?_
  show CP _ _ _ _ _ _ _ _ _ _ _ _ _ _ _ _ [(h0, .inr (6, [.int 0, .int 0, .int 0, .ref q7, .ref q15, .ref q22, .null, .null, .int 0, .null, .null, .int 0, .int 0, .null, .null, .null, .long 0, .null, .null])), (q7, .inl (cA 0, 64, .inl (fun _ => 0))), (q15, .inl (cA 0, 64, .inl (fun _ => 0))), (q22, .inl (cA 0, 4, .inl (fun _ => 0)))]
  refine cp_aload_n (i := 0) dX6_init_27 rfl rfl ?_
  refine cp_iconst (v := nI 4) dX6_init_28 (by decide +kernel) ?_
  refine cp_newa (atype := .int) (ty := .int) (t := 0) (N := 4) (a0 := (4, .inl (fun _ => 0))) dX6_init_29 ac_int rfl rfl (fun _ _ h => h) (fun _ => rfl) (Nat.le_of_ble_eq_true rfl) (Nat.le_of_ble_eq_true rfl) (Nat.le_of_ble_eq_true rfl) (Nat.le_of_ble_eq_true rfl) (fun q29 => ?_)
  refine cp_put (q0 := 0) (ci := 6) (kf := 6) dX6_init_31 ⟨Nat.le_of_ble_eq_true rfl, Nat.le_of_ble_eq_true rfl, rfl, tb_in 796 (by decide +kernel)⟩ rfl rfl rfl rfl (Nat.le_of_ble_eq_true rfl) ?_
  show CP _ _ _ _ _ _ _ _ _ _ _ _ _ _ _ _ [(h0, .inr (6, [.int 0, .int 0, .int 0, .ref q7, .ref q15, .ref q22, .ref q29, .null, .int 0, .null, .null, .int 0, .int 0, .null, .null, .null, .long 0, .null, .null])), (q7, .inl (cA 0, 64, .inl (fun _ => 0))), (q15, .inl (cA 0, 64, .inl (fun _ => 0))), (q22, .inl (cA 0, 4, .inl (fun _ => 0))), (q29, .inl (cA 0, 4, .inl (fun _ => 0)))]
  refine cp_aload_n (i := 0) dX6_init_34 rfl rfl ?_
  refine cp_bipush (v := nI 24) dX6_init_35 (by decide +kernel) ?_
  refine cp_newa (atype := .int) (ty := .int) (t := 0) (N := 24) (a0 := (24, .inl (fun _ => 0))) dX6_init_37 ac_int rfl rfl (fun _ _ h => h) (fun _ => rfl) (Nat.le_of_ble_eq_true rfl) (Nat.le_of_ble_eq_true rfl) (Nat.le_of_ble_eq_true rfl) (Nat.le_of_ble_eq_true rfl) (fun q37 => ?_)
  refine cp_put (q0 := 0) (ci := 6) (kf := 7) dX6_init_39 ⟨Nat.le_of_ble_eq_true rfl, Nat.le_of_ble_eq_true rfl, rfl, tb_in 797 (by decide +kernel)⟩ rfl rfl rfl rfl (Nat.le_of_ble_eq_true rfl) ?_
  show CP _ _ _ _ _ _ _ _ _ _ _ _ _ _ _ _ [(h0, .inr (6, [.int 0, .int 0, .int 0, .ref q7, .ref q15, .ref q22, .ref q29, .ref q37, .int 0, .null, .null, .int 0, .int 0, .null, .null, .null, .long 0, .null, .null])), (q7, .inl (cA 0, 64, .inl (fun _ => 0))), (q15, .inl (cA 0, 64, .inl (fun _ => 0))), (q22, .inl (cA 0, 4, .inl (fun _ => 0))), (q29, .inl (cA 0, 4, .inl (fun _ => 0))), (q37, .inl (cA 0, 24, .inl (fun _ => 0)))]
  refine cp_aload_n (i := 0) dX6_init_42 rfl rfl ?_
  refine cp_sipush (v := nI 1024) dX6_init_43 (by decide +kernel) ?_
  refine cp_newa (atype := .int) (ty := .int) (t := 0) (N := 1024) (a0 := (1024, .inl (fun _ => 0))) dX6_init_46 ac_int rfl rfl (fun _ _ h => h) (fun _ => rfl) (Nat.le_of_ble_eq_true rfl) (Nat.le_of_ble_eq_true rfl) (Nat.le_of_ble_eq_true rfl) (Nat.le_of_ble_eq_true rfl) (fun q46 => ?_)
  refine cp_put (q0 := 0) (ci := 6) (kf := 9) dX6_init_48 ⟨Nat.le_of_ble_eq_true rfl, Nat.le_of_ble_eq_true rfl, rfl, tb_in 799 (by decide +kernel)⟩ rfl rfl rfl rfl (Nat.le_of_ble_eq_true rfl) ?_
  show CP _ _ _ _ _ _ _ _ _ _ _ _ _ _ _ _ [(h0, .inr (6, [.int 0, .int 0, .int 0, .ref q7, .ref q15, .ref q22, .ref q29, .ref q37, .int 0, .ref q46, .null, .int 0, .int 0, .null, .null, .null, .long 0, .null, .null])), (q7, .inl (cA 0, 64, .inl (fun _ => 0))), (q15, .inl (cA 0, 64, .inl (fun _ => 0))), (q22, .inl (cA 0, 4, .inl (fun _ => 0))), (q29, .inl (cA 0, 4, .inl (fun _ => 0))), (q37, .inl (cA 0, 24, .inl (fun _ => 0))), (q46, .inl (cA 0, 1024, .inl (fun _ => 0)))]
  refine cp_aload_n (i := 0) dX6_init_51 rfl rfl ?_
  refine cp_iconst (v := nI 4) dX6_init_52 (by decide +kernel) ?_
  refine cp_newa (atype := .int) (ty := .int) (t := 0) (N := 4) (a0 := (4, .inl (fun _ => 0))) dX6_init_53 ac_int rfl rfl (fun _ _ h => h) (fun _ => rfl) (Nat.le_of_ble_eq_true rfl) (Nat.le_of_ble_eq_true rfl) (Nat.le_of_ble_eq_true rfl) (Nat.le_of_ble_eq_true rfl) (fun q53 => ?_)
  refine cp_put (q0 := 0) (ci := 6) (kf := 10) dX6_init_55 ⟨Nat.le_of_ble_eq_true rfl, Nat.le_of_ble_eq_true rfl, rfl, tb_in 800 (by decide +kernel)⟩ rfl rfl rfl rfl (Nat.le_of_ble_eq_true rfl) ?_
  show CP _ _ _ _ _ _ _ _ _ _ _ _ _ _ _ _ [(h0, .inr (6, [.int 0, .int 0, .int 0, .ref q7, .ref q15, .ref q22, .ref q29, .ref q37, .int 0, .ref q46, .ref q53, .int 0, .int 0, .null, .null, .null, .long 0, .null, .null])), (q7, .inl (cA 0, 64, .inl (fun _ => 0))), (q15, .inl (cA 0, 64, .inl (fun _ => 0))), (q22, .inl (cA 0, 4, .inl (fun _ => 0))), (q29, .inl (cA 0, 4, .inl (fun _ => 0))), (q37, .inl (cA 0, 24, .inl (fun _ => 0))), (q46, .inl (cA 0, 1024, .inl (fun _ => 0))), (q53, .inl (cA 0, 4, .inl (fun _ => 0)))]
  refine cp_aload_n (i := 0) dX6_init_58 rfl rfl ?_
  refine cp_sipush (v := nI 544) dX6_init_59 (by decide +kernel) ?_
  refine cp_newa (atype := .int) (ty := .int) (t := 0) (N := 544) (a0 := (544, .inl (fun _ => 0))) dX6_init_62 ac_int rfl rfl (fun _ _ h => h) (fun _ => rfl) (Nat.le_of_ble_eq_true rfl) (Nat.le_of_ble_eq_true rfl) (Nat.le_of_ble_eq_true rfl) (Nat.le_of_ble_eq_true rfl) (fun q62 => ?_)
  refine cp_put (q0 := 0) (ci := 6) (kf := 13) dX6_init_64 ⟨Nat.le_of_ble_eq_true rfl, Nat.le_of_ble_eq_true rfl, rfl, tb_in 803 (by decide +kernel)⟩ rfl rfl rfl rfl (Nat.le_of_ble_eq_true rfl) ?_
  show CP _ _ _ _ _ _ _ _ _ _ _ _ _ _ _ _ [(h0, .inr (6, [.int 0, .int 0, .int 0, .ref q7, .ref q15, .ref q22, .ref q29, .ref q37, .int 0, .ref q46, .ref q53, .int 0, .int 0, .ref q62, .null, .null, .long 0, .null, .null])), (q7, .inl (cA 0, 64, .inl (fun _ => 0))), (q15, .inl (cA 0, 64, .inl (fun _ => 0))), (q22, .inl (cA 0, 4, .inl (fun _ => 0))), (q29, .inl (cA 0, 4, .inl (fun _ => 0))), (q37, .inl (cA 0, 24, .inl (fun _ => 0))), (q46, .inl (cA 0, 1024, .inl (fun _ => 0))), (q53, .inl (cA 0, 4, .inl (fun _ => 0))), (q62, .inl (cA 0, 544, .inl (fun _ => 0)))]
  refine cp_aload_n (i := 0) dX6_init_67 rfl rfl ?_
  refine cp_sipush (v := nI 256) dX6_init_68 (by decide +kernel) ?_
  refine cp_newa (atype := .int) (ty := .int) (t := 0) (N := 256) (a0 := (256, .inl (fun _ => 0))) dX6_init_71 ac_int rfl rfl (fun _ _ h => h) (fun _ => rfl) (Nat.le_of_ble_eq_true rfl) (Nat.le_of_ble_eq_true rfl) (Nat.le_of_ble_eq_true rfl) (Nat.le_of_ble_eq_true rfl) (fun q71 => ?_)
  refine cp_put (q0 := 0) (ci := 6) (kf := 14) dX6_init_73 ⟨Nat.le_of_ble_eq_true rfl, Nat.le_of_ble_eq_true rfl, rfl, tb_in 804 (by decide +kernel)⟩ rfl rfl rfl rfl (Nat.le_of_ble_eq_true rfl) ?_
  show CP _ _ _ _ _ _ _ _ _ _ _ _ _ _ _ _ [(h0, .inr (6, [.int 0, .int 0, .int 0, .ref q7, .ref q15, .ref q22, .ref q29, .ref q37, .int 0, .ref q46, .ref q53, .int 0, .int 0, .ref q62, .ref q71, .null, .long 0, .null, .null])), (q7, .inl (cA 0, 64, .inl (fun _ => 0))), (q15, .inl (cA 0, 64, .inl (fun _ => 0))), (q22, .inl (cA 0, 4, .inl (fun _ => 0))), (q29, .inl (cA 0, 4, .inl (fun _ => 0))), (q37, .inl (cA 0, 24, .inl (fun _ => 0))), (q46, .inl (cA 0, 1024, .inl (fun _ => 0))), (q53, .inl (cA 0, 4, .inl (fun _ => 0))), (q62, .inl (cA 0, 544, .inl (fun _ => 0))), (q71, .inl (cA 0, 256, .inl (fun _ => 0)))]
  refine cp_aload_n (i := 0) dX6_init_76 rfl rfl ?_
  refine cp_bipush (v := nI 16) dX6_init_77 (by decide +kernel) ?_
  refine cp_newa (atype := .int) (ty := .int) (t := 0) (N := 16) (a0 := (16, .inl (fun _ => 0))) dX6_init_79 ac_int rfl rfl (fun _ _ h => h) (fun _ => rfl) (Nat.le_of_ble_eq_true rfl) (Nat.le_of_ble_eq_true rfl) (Nat.le_of_ble_eq_true rfl) (Nat.le_of_ble_eq_true rfl) (fun q79 => ?_)
  refine cp_put (q0 := 0) (ci := 6) (kf := 15) dX6_init_81 ⟨Nat.le_of_ble_eq_true rfl, Nat.le_of_ble_eq_true rfl, rfl, tb_in 805 (by decide +kernel)⟩ rfl rfl rfl rfl (Nat.le_of_ble_eq_true rfl) ?_
  show CP _ _ _ _ _ _ _ _ _ _ _ _ _ _ _ _ [(h0, .inr (6, [.int 0, .int 0, .int 0, .ref q7, .ref q15, .ref q22, .ref q29, .ref q37, .int 0, .ref q46, .ref q53, .int 0, .int 0, .ref q62, .ref q71, .ref q79, .long 0, .null, .null])), (q7, .inl (cA 0, 64, .inl (fun _ => 0))), (q15, .inl (cA 0, 64, .inl (fun _ => 0))), (q22, .inl (cA 0, 4, .inl (fun _ => 0))), (q29, .inl (cA 0, 4, .inl (fun _ => 0))), (q37, .inl (cA 0, 24, .inl (fun _ => 0))), (q46, .inl (cA 0, 1024, .inl (fun _ => 0))), (q53, .inl (cA 0, 4, .inl (fun _ => 0))), (q62, .inl (cA 0, 544, .inl (fun _ => 0))), (q71, .inl (cA 0, 256, .inl (fun _ => 0))), (q79, .inl (cA 0, 16, .inl (fun _ => 0)))]
  refine cp_aload_n (i := 0) dX6_init_84 rfl rfl ?_
  refine cp_iconst (v := nI 2) dX6_init_85 (by decide +kernel) ?_
  refine cp_newa (atype := .boolean) (ty := .boolean) (t := 3) (N := 2) (a0 := (2, .inl (fun _ => 0))) dX6_init_86 ac_boolean rfl rfl (fun _ _ h => h) (fun _ => rfl) (Nat.le_of_ble_eq_true rfl) (Nat.le_of_ble_eq_true rfl) (Nat.le_of_ble_eq_true rfl) (Nat.le_of_ble_eq_true rfl) (fun q86 => ?_)
  refine cp_put (q0 := 0) (ci := 6) (kf := 17) dX6_init_88 ⟨Nat.le_of_ble_eq_true rfl, Nat.le_of_ble_eq_true rfl, rfl, tb_in 807 (by decide +kernel)⟩ rfl rfl rfl rfl (Nat.le_of_ble_eq_true rfl) ?_
  show CP _ _ _ _ _ _ _ _ _ _ _ _ _ _ _ _ [(h0, .inr (6, [.int 0, .int 0, .int 0, .ref q7, .ref q15, .ref q22, .ref q29, .ref q37, .int 0, .ref q46, .ref q53, .int 0, .int 0, .ref q62, .ref q71, .ref q79, .long 0, .ref q86, .null])), (q7, .inl (cA 0, 64, .inl (fun _ => 0))), (q15, .inl (cA 0, 64, .inl (fun _ => 0))), (q22, .inl (cA 0, 4, .inl (fun _ => 0))), (q29, .inl (cA 0, 4, .inl (fun _ => 0))), (q37, .inl (cA 0, 24, .inl (fun _ => 0))), (q46, .inl (cA 0, 1024, .inl (fun _ => 0))), (q53, .inl (cA 0, 4, .inl (fun _ => 0))), (q62, .inl (cA 0, 544, .inl (fun _ => 0))), (q71, .inl (cA 0, 256, .inl (fun _ => 0))), (q79, .inl (cA 0, 16, .inl (fun _ => 0))), (q86, .inl (cA 3, 2, .inl (fun _ => 0)))]
  refine cp_aload_n (i := 0) dX6_init_91 rfl rfl ?_
  refine cp_bipush (v := nI 68) dX6_init_92 (by decide +kernel) ?_
  refine cp_newa (atype := .int) (ty := .int) (t := 0) (N := 68) (a0 := (68, .inl (fun _ => 0))) dX6_init_94 ac_int rfl rfl (fun _ _ h => h) (fun _ => rfl) (Nat.le_of_ble_eq_true rfl) (Nat.le_of_ble_eq_true rfl) (Nat.le_of_ble_eq_true rfl) (Nat.le_of_ble_eq_true rfl) (fun q94 => ?_)
  refine cp_put (q0 := 0) (ci := 6) (kf := 18) dX6_init_96 ⟨Nat.le_of_ble_eq_true rfl, Nat.le_of_ble_eq_true rfl, rfl, tb_in 808 (by decide +kernel)⟩ rfl rfl rfl rfl (Nat.le_of_ble_eq_true rfl) ?_
  show CP _ _ _ _ _ _ _ _ _ _ _ _ _ _ _ _ [(h0, .inr (6, [.int 0, .int 0, .int 0, .ref q7, .ref q15, .ref q22, .ref q29, .ref q37, .int 0, .ref q46, .ref q53, .int 0, .int 0, .ref q62, .ref q71, .ref q79, .long 0, .ref q86, .ref q94])), (q7, .inl (cA 0, 64, .inl (fun _ => 0))), (q15, .inl (cA 0, 64, .inl (fun _ => 0))), (q22, .inl (cA 0, 4, .inl (fun _ => 0))), (q29, .inl (cA 0, 4, .inl (fun _ => 0))), (q37, .inl (cA 0, 24, .inl (fun _ => 0))), (q46, .inl (cA 0, 1024, .inl (fun _ => 0))), (q53, .inl (cA 0, 4, .inl (fun _ => 0))), (q62, .inl (cA 0, 544, .inl (fun _ => 0))), (q71, .inl (cA 0, 256, .inl (fun _ => 0))), (q79, .inl (cA 0, 16, .inl (fun _ => 0))), (q86, .inl (cA 3, 2, .inl (fun _ => 0))), (q94, .inl (cA 0, 68, .inl (fun _ => 0)))]
  refine cp_aload_n (i := 0) dX6_init_99 rfl rfl ?_
  refine cp_iconst (v := nI 1) dX6_init_100 (by decide +kernel) ?_
  refine cp_put (q0 := 0) (ci := 6) (kf := 0) dX6_init_101 ⟨Nat.le_of_ble_eq_true rfl, Nat.le_of_ble_eq_true rfl, rfl, tb_in 790 (by decide +kernel)⟩ rfl rfl rfl rfl (Nat.le_of_ble_eq_true rfl) ?_
  show CP _ _ _ _ _ _ _ _ _ _ _ _ _ _ _ _ [(h0, .inr (6, [.int (nI 1), .int 0, .int 0, .ref q7, .ref q15, .ref q22, .ref q29, .ref q37, .int 0, .ref q46, .ref q53, .int 0, .int 0, .ref q62, .ref q71, .ref q79, .long 0, .ref q86, .ref q94])), (q7, .inl (cA 0, 64, .inl (fun _ => 0))), (q15, .inl (cA 0, 64, .inl (fun _ => 0))), (q22, .inl (cA 0, 4, .inl (fun _ => 0))), (q29, .inl (cA 0, 4, .inl (fun _ => 0))), (q37, .inl (cA 0, 24, .inl (fun _ => 0))), (q46, .inl (cA 0, 1024, .inl (fun _ => 0))), (q53, .inl (cA 0, 4, .inl (fun _ => 0))), (q62, .inl (cA 0, 544, .inl (fun _ => 0))), (q71, .inl (cA 0, 256, .inl (fun _ => 0))), (q79, .inl (cA 0, 16, .inl (fun _ => 0))), (q86, .inl (cA 3, 2, .inl (fun _ => 0))), (q94, .inl (cA 0, 68, .inl (fun _ => 0)))]
  refine cp_aload_n (i := 0) dX6_init_104 rfl rfl ?_
  refine cp_iconst (v := nI 1) dX6_init_105 (by decide +kernel) ?_
  refine cp_put (q0 := 0) (ci := 6) (kf := 1) dX6_init_106 ⟨Nat.le_of_ble_eq_true rfl, Nat.le_of_ble_eq_true rfl, rfl, tb_in 791 (by decide +kernel)⟩ rfl rfl rfl rfl (Nat.le_of_ble_eq_true rfl) ?_
  show CP _ _ _ _ _ _ _ _ _ _ _ _ _ _ _ _ [(h0, .inr (6, [.int (nI 1), .int (nI 1), .int 0, .ref q7, .ref q15, .ref q22, .ref q29, .ref q37, .int 0, .ref q46, .ref q53, .int 0, .int 0, .ref q62, .ref q71, .ref q79, .long 0, .ref q86, .ref q94])), (q7, .inl (cA 0, 64, .inl (fun _ => 0))), (q15, .inl (cA 0, 64, .inl (fun _ => 0))), (q22, .inl (cA 0, 4, .inl (fun _ => 0))), (q29, .inl (cA 0, 4, .inl (fun _ => 0))), (q37, .inl (cA 0, 24, .inl (fun _ => 0))), (q46, .inl (cA 0, 1024, .inl (fun _ => 0))), (q53, .inl (cA 0, 4, .inl (fun _ => 0))), (q62, .inl (cA 0, 544, .inl (fun _ => 0))), (q71, .inl (cA 0, 256, .inl (fun _ => 0))), (q79, .inl (cA 0, 16, .inl (fun _ => 0))), (q86, .inl (cA 3, 2, .inl (fun _ => 0))), (q94, .inl (cA 0, 68, .inl (fun _ => 0)))]
  refine cp_aload_n (i := 0) dX6_init_109 rfl rfl ?_
  refine cp_getR (q0 := 0) (ci := 6) (kf := 3) (v := .ref q7) dX6_init_110 ⟨Nat.le_of_ble_eq_true rfl, Nat.le_of_ble_eq_true rfl, rfl, tb_in 793 (by decide +kernel)⟩ rfl rfl ?_
  refine cp_iconst (v := nI 0) dX6_init_113 (by decide +kernel) ?_
  refine cp_bipush (v := nI 46) dX6_init_114 (by decide +kernel) ?_
  refine cp_iast (q0 := 1) (j := 0) dX6_init_116 rfl (Nat.le_of_ble_eq_true rfl) (Nat.le_of_ble_eq_true rfl) ?_
  refine cp_aload_n (i := 0) dX6_init_117 rfl rfl ?_
  refine cp_getR (q0 := 0) (ci := 6) (kf := 6) (v := .ref q29) dX6_init_118 ⟨Nat.le_of_ble_eq_true rfl, Nat.le_of_ble_eq_true rfl, rfl, tb_in 796 (by decide +kernel)⟩ rfl rfl ?_
  refine cp_iconst (v := nI 0) dX6_init_121 (by decide +kernel) ?_
  refine cp_bipush (v := (-9)) dX6_init_122 (by decide +kernel) ?_
  refine cp_iast (q0 := 4) (j := 0) dX6_init_124 rfl (Nat.le_of_ble_eq_true rfl) (Nat.le_of_ble_eq_true rfl) ?_
  have hcel : ∀ i q, shM[i]? = some q → ([(h0, .inr (6, [.int (nI 1), .int (nI 1), .int 0, .ref q7, .ref q15, .ref q22, .ref q29, .ref q37, .int 0, .ref q46, .ref q53, .int 0, .int 0, .ref q62, .ref q71, .ref q79, .long 0, .ref q86, .ref q94])), (q7, .inl (cA 0, 64, .inl (upd (fun _ => 0) 0 (nI 46)))), (q15, .inl (cA 0, 64, .inl (fun _ => 0))), (q22, .inl (cA 0, 4, .inl (fun _ => 0))), (q29, .inl (cA 0, 4, .inl (upd (fun _ => 0) 0 (-9)))), (q37, .inl (cA 0, 24, .inl (fun _ => 0))), (q46, .inl (cA 0, 1024, .inl (fun _ => 0))), (q53, .inl (cA 0, 4, .inl (fun _ => 0))), (q62, .inl (cA 0, 544, .inl (fun _ => 0))), (q71, .inl (cA 0, 256, .inl (fun _ => 0))), (q79, .inl (cA 0, 16, .inl (fun _ => 0))), (q86, .inl (cA 3, 2, .inl (fun _ => 0))), (q94, .inl (cA 0, 68, .inl (fun _ => 0)))] : va_W)[i]? = some (adr [(h0, .inr (6, [.int (nI 1), .int (nI 1), .int 0, .ref q7, .ref q15, .ref q22, .ref q29, .ref q37, .int 0, .ref q46, .ref q53, .int 0, .int 0, .ref q62, .ref q71, .ref q79, .long 0, .ref q86, .ref q94])), (q7, .inl (cA 0, 64, .inl (upd (fun _ => 0) 0 (nI 46)))), (q15, .inl (cA 0, 64, .inl (fun _ => 0))), (q22, .inl (cA 0, 4, .inl (fun _ => 0))), (q29, .inl (cA 0, 4, .inl (upd (fun _ => 0) 0 (-9)))), (q37, .inl (cA 0, 24, .inl (fun _ => 0))), (q46, .inl (cA 0, 1024, .inl (fun _ => 0))), (q53, .inl (cA 0, 4, .inl (fun _ => 0))), (q62, .inl (cA 0, 544, .inl (fun _ => 0))), (q71, .inl (cA 0, 256, .inl (fun _ => 0))), (q79, .inl (cA 0, 16, .inl (fun _ => 0))), (q86, .inl (cA 3, 2, .inl (fun _ => 0))), (q94, .inl (cA 0, 68, .inl (fun _ => 0)))] A0 i, cel cA ΩM (adr [(h0, .inr (6, [.int (nI 1), .int (nI 1), .int 0, .ref q7, .ref q15, .ref q22, .ref q29, .ref q37, .int 0, .ref q46, .ref q53, .int 0, .int 0, .ref q62, .ref q71, .ref q79, .long 0, .ref q86, .ref q94])), (q7, .inl (cA 0, 64, .inl (upd (fun _ => 0) 0 (nI 46)))), (q15, .inl (cA 0, 64, .inl (fun _ => 0))), (q22, .inl (cA 0, 4, .inl (fun _ => 0))), (q29, .inl (cA 0, 4, .inl (upd (fun _ => 0) 0 (-9)))), (q37, .inl (cA 0, 24, .inl (fun _ => 0))), (q46, .inl (cA 0, 1024, .inl (fun _ => 0))), (q53, .inl (cA 0, 4, .inl (fun _ => 0))), (q62, .inl (cA 0, 544, .inl (fun _ => 0))), (q71, .inl (cA 0, 256, .inl (fun _ => 0))), (q79, .inl (cA 0, 16, .inl (fun _ => 0))), (q86, .inl (cA 3, 2, .inl (fun _ => 0))), (q94, .inl (cA 0, 68, .inl (fun _ => 0)))] A0) I0M J00 i q) := by
    intro i q hq
    have hi : i < 13 := (List.getElem?_eq_some_iff.mp hq).1
    rcases (show i = 0 ∨ i = 1 ∨ i = 2 ∨ i = 3 ∨ i = 4 ∨ i = 5 ∨ i = 6 ∨ i = 7 ∨ i = 8 ∨ i = 9 ∨ i = 10 ∨ i = 11 ∨ i = 12 by omega) with rfl | rfl | rfl | rfl | rfl | rfl | rfl | rfl | rfl | rfl | rfl | rfl | rfl
    · obtain rfl : ((0, 6, 0) : Nat × Nat × Nat) = q := Option.some.inj hq
      rfl
    · obtain rfl : ((1, 0, 64) : Nat × Nat × Nat) = q := Option.some.inj hq
      rfl
    · obtain rfl : ((1, 0, 64) : Nat × Nat × Nat) = q := Option.some.inj hq
      rfl
    · obtain rfl : ((1, 0, 4) : Nat × Nat × Nat) = q := Option.some.inj hq
      rfl
    · obtain rfl : ((1, 0, 4) : Nat × Nat × Nat) = q := Option.some.inj hq
      rfl
    · obtain rfl : ((1, 0, 24) : Nat × Nat × Nat) = q := Option.some.inj hq
      rfl
    · obtain rfl : ((1, 0, 1024) : Nat × Nat × Nat) = q := Option.some.inj hq
      rfl
    · obtain rfl : ((1, 0, 4) : Nat × Nat × Nat) = q := Option.some.inj hq
      rfl
    · obtain rfl : ((1, 0, 544) : Nat × Nat × Nat) = q := Option.some.inj hq
      rfl
    · obtain rfl : ((1, 0, 256) : Nat × Nat × Nat) = q := Option.some.inj hq
      rfl
    · obtain rfl : ((1, 0, 16) : Nat × Nat × Nat) = q := Option.some.inj hq
      rfl
    · obtain rfl : ((1, 3, 2) : Nat × Nat × Nat) = q := Option.some.inj hq
      rfl
    · obtain rfl : ((1, 0, 68) : Nat × Nat × Nat) = q := Option.some.inj hq
      rfl
  exact cp_mend [0, 1, 2, 3, 4, 5, 6, 7, 8, 9, 10, 11, 12] rfl (by decide) rfl rfl hcel rfl (Nat.le_of_ble_eq_true rfl) (Nat.le_of_ble_eq_true rfl)
