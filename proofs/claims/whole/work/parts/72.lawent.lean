/-! THE ENTRY: classes, statics, constants -/
theorem nF_ok : ∀ q ∈ nestF, Cond.fieldLinkNest q.1 q.2.1 q.2.2.1 q.2.2.2.1 q.2.2.2.2.1 q.2.2.2.2.2 ∈ lw_tbl := (List.forall_mem_cons.mpr ⟨lt_in 78 (by decide +kernel), (List.forall_mem_cons.mpr ⟨lt_in 97 (by decide +kernel), (List.forall_mem_cons.mpr ⟨lt_in 99 (by decide +kernel), (List.forall_mem_cons.mpr ⟨lt_in 101 (by decide +kernel), (List.forall_mem_cons.mpr ⟨lt_in 103 (by decide +kernel), (List.forall_mem_cons.mpr ⟨lt_in 104 (by decide +kernel), (List.forall_mem_cons.mpr ⟨lt_in 132 (by decide +kernel), (List.forall_mem_cons.mpr ⟨lt_in 136 (by decide +kernel), (List.forall_mem_cons.mpr ⟨lt_in 138 (by decide +kernel), (List.forall_mem_cons.mpr ⟨lt_in 140 (by decide +kernel), (List.forall_mem_cons.mpr ⟨lt_in 142 (by decide +kernel), (List.forall_mem_cons.mpr ⟨lt_in 144 (by decide +kernel), (List.forall_mem_cons.mpr ⟨lt_in 146 (by decide +kernel), (List.forall_mem_cons.mpr ⟨lt_in 148 (by decide +kernel), (List.forall_mem_cons.mpr ⟨lt_in 149 (by decide +kernel), (List.forall_mem_cons.mpr ⟨lt_in 151 (by decide +kernel), (List.forall_mem_cons.mpr ⟨lt_in 152 (by decide +kernel), (List.forall_mem_cons.mpr ⟨lt_in 205 (by decide +kernel), (fun _ h => absurd h List.not_mem_nil)⟩)⟩)⟩)⟩)⟩)⟩)⟩)⟩)⟩)⟩)⟩)⟩)⟩)⟩)⟩)⟩)⟩)⟩)
theorem nM_ok : ∀ q ∈ nestM, Cond.methodLinkNest q.1 q.2.1 q.2.2.1 q.2.2.2 ∈ lw_tbl := (List.forall_mem_cons.mpr ⟨lt_in 72 (by decide +kernel), (List.forall_mem_cons.mpr ⟨lt_in 87 (by decide +kernel), (List.forall_mem_cons.mpr ⟨lt_in 178 (by decide +kernel), (List.forall_mem_cons.mpr ⟨lt_in 225 (by decide +kernel), (List.forall_mem_cons.mpr ⟨lt_in 234 (by decide +kernel), (List.forall_mem_cons.mpr ⟨lt_in 433 (by decide +kernel), (List.forall_mem_cons.mpr ⟨lt_in 441 (by decide +kernel), (List.forall_mem_cons.mpr ⟨lt_in 518 (by decide +kernel), (List.forall_mem_cons.mpr ⟨lt_in 523 (by decide +kernel), (List.forall_mem_cons.mpr ⟨lt_in 524 (by decide +kernel), (List.forall_mem_cons.mpr ⟨lt_in 552 (by decide +kernel), (List.forall_mem_cons.mpr ⟨lt_in 562 (by decide +kernel), (List.forall_mem_cons.mpr ⟨lt_in 605 (by decide +kernel), (List.forall_mem_cons.mpr ⟨lt_in 694 (by decide +kernel), (fun _ h => absurd h List.not_mem_nil)⟩)⟩)⟩)⟩)⟩)⟩)⟩)⟩)⟩)⟩)⟩)⟩)⟩)⟩)
theorem nst_ok {args : Array Value} {s : State} (hts : ∀ w ∈ lw_tbl, w.before args s = true) : Nst s := ⟨fun q hq => va_Nw.of rfl (hts _ (nF_ok q hq)), fun q hq => va_Nw.of rfl (hts _ (nM_ok q hq))⟩
theorem inst_ok : ∀ ci, ci < 7 → Cond.instantiable (cNm ci) (cNf ci) ∈ lw_tbl := by
  intro ci h
  rcases (show ci = 0 ∨ ci = 1 ∨ ci = 2 ∨ ci = 3 ∨ ci = 4 ∨ ci = 5 ∨ ci = 6 by omega) with rfl | rfl | rfl | rfl | rfl | rfl | rfl
  · exact lt_in 86 (by decide +kernel)
  · exact lt_in 177 (by decide +kernel)
  · exact lt_in 126 (by decide +kernel)
  · exact lt_in 183 (by decide +kernel)
  · exact lt_in 71 (by decide +kernel)
  · exact lt_in 63 (by decide +kernel)
  · exact lt_in 785 (by decide +kernel)
theorem arr_ok {args : Array Value} {s : State} {ty : FieldType} (h : (Cond.arrayClass ty).before args s = true) : ∃ c : ClassId, ArrOfT s c ty ∧ s.vm.findClass ("[" ++ ty.toString) = some c := by
  obtain ⟨c, k, comp, h1, h2, h3⟩ := Cond.arrayClass_spec (args := args) (first := s) (o := none) (s := s) (idx := []) h
  exact ⟨c, fun n z => ⟨fun k h => (by cases h), k, h2, comp, h3⟩, h1⟩
theorem ents_K {args : Array Value} {s : State} (hts : ∀ w ∈ lw_tbl, w.before args s = true) : ∃ (G : va_G) (cA : Nat → ClassId), va_K G vwCl (ATs cA) s := by
  have h0 : ∀ ci, ∃ q : ClassId × (Nat → Nat), ci < 7 → u_Kn s (cNm ci) (cTb ci) (cNf ci) q.1 q.2 := fun ci => by
    by_cases h : ci < 7
    · obtain ⟨c, f, hf⟩ := u_known hts (fun w hw => tb_ok (cl_in ci h w hw)) (hts _ (inst_ok ci h))
      exact ⟨(c, f), fun _ => hf⟩
    · exact ⟨(0, fun _ => 0), fun z => absurd z h⟩
  obtain ⟨f, hf⟩ := Classical.axiomOfChoice h0
  obtain ⟨c0, a0, b0⟩ := arr_ok (hts _ (tb_ok ac_int))
  obtain ⟨c1, a1, b1⟩ := arr_ok (hts _ (tb_ok ac_long))
  obtain ⟨c2, a2, b2⟩ := arr_ok (hts _ (tb_ok ac_byte))
  obtain ⟨c3, a3, b3⟩ := arr_ok (hts _ (tb_ok ac_boolean))
  refine ⟨(fun k => (f k).1, fun k => (f k).2), fun k => match k with | 0 => c0 | 1 => c1 | 2 => c2 | _ => c3, fun ci q hq => ?_, fun k q hq => ?_⟩
  · have hci : ci < 7 := (List.getElem?_eq_some_iff.mp hq).1
    rw [cl_ok ci hci] at hq
    cases hq
    exact hf ci hci
  · have hk : k < 4 := (List.getElem?_eq_some_iff.mp hq).1
    rcases (show k = 0 ∨ k = 1 ∨ k = 2 ∨ k = 3 by omega) with rfl | rfl | rfl | rfl
    · obtain rfl : (c0, FieldType.int) = q := Option.some.inj hq
      exact ⟨a0, b0⟩
    · obtain rfl : (c1, FieldType.long) = q := Option.some.inj hq
      exact ⟨a1, b1⟩
    · obtain rfl : (c2, FieldType.byte) = q := Option.some.inj hq
      exact ⟨a2, b2⟩
    · obtain rfl : (c3, FieldType.boolean) = q := Option.some.inj hq
      exact ⟨a3, b3⟩
def ad8 (t0 t1 t2 t3 k5 k4 v5 v4 : Nat) : Nat → Nat := fun i => match i with
  | 1000 => t0
  | 1001 => t1
  | 1002 => t2
  | 1003 => t3
  | 1004 => k5
  | 1005 => k4
  | 1006 => v5
  | 1007 => v4
  | _ => 0
theorem ents_R {b : Nat} {s : State} (hts : ∀ w ∈ lw_tbl, w.before #[Value.ref b] s = true) (hgv : (Jvm.Cond.and given_1 narrow_1).before #[Value.ref b] s = true) : ∃ (A0 : Nat → Nat) (fm : Value), Roe A0 fm (fun q => s.heap.size ≤ q) s s.heap := by
  have hs := flat_of_before _ hgv
  have hA : ∀ a : Nat, a < s.heap.size → ¬ (fun q : Nat => s.heap.size ≤ q) a := fun a h => Nat.not_le.mpr h
  have l0 : ∀ j : Nat, j < 8 → (Term.elem (Term.static "StayWhereFell$Field" "ACROSS" "[I") (.int (Int32.ofNat j))).eval #[Value.ref b] s none [] s = some (.int ((roT 1000).getD j 0)) := by
    intro j hj
    rcases (show j = 0 ∨ j = 1 ∨ j = 2 ∨ j = 3 ∨ j = 4 ∨ j = 5 ∨ j = 6 ∨ j = 7 by omega) with rfl | rfl | rfl | rfl | rfl | rfl | rfl | rfl <;> exact va_eqt (hs _ (by decide +kernel))
  obtain ⟨t0, e0, T0⟩ := va_Tof (tm := (Term.static "StayWhereFell$Field" "ACROSS" "[I")) (ty := .int) (N := 8) (f := fun j => .int ((roT 1000).getD j 0)) (by decide) (hs _ (by decide +kernel)) (va_eqt (hs _ (by decide +kernel))) l0 hA
  have l1 : ∀ j : Nat, j < 8 → (Term.elem (Term.static "StayWhereFell$Field" "DOWN" "[I") (.int (Int32.ofNat j))).eval #[Value.ref b] s none [] s = some (.int ((roT 1001).getD j 0)) := by
    intro j hj
    rcases (show j = 0 ∨ j = 1 ∨ j = 2 ∨ j = 3 ∨ j = 4 ∨ j = 5 ∨ j = 6 ∨ j = 7 by omega) with rfl | rfl | rfl | rfl | rfl | rfl | rfl | rfl <;> exact va_eqt (hs _ (by decide +kernel))
  obtain ⟨t1, e1, T1⟩ := va_Tof (tm := (Term.static "StayWhereFell$Field" "DOWN" "[I")) (ty := .int) (N := 8) (f := fun j => .int ((roT 1001).getD j 0)) (by decide) (hs _ (by decide +kernel)) (va_eqt (hs _ (by decide +kernel))) l1 hA
  have l2 : ∀ j : Nat, j < 8 → (Term.elem (Term.static "StayWhereFell$Field" "LEAP_ACROSS" "[I") (.int (Int32.ofNat j))).eval #[Value.ref b] s none [] s = some (.int ((roT 1002).getD j 0)) := by
    intro j hj
    rcases (show j = 0 ∨ j = 1 ∨ j = 2 ∨ j = 3 ∨ j = 4 ∨ j = 5 ∨ j = 6 ∨ j = 7 by omega) with rfl | rfl | rfl | rfl | rfl | rfl | rfl | rfl <;> exact va_eqt (hs _ (by decide +kernel))
  obtain ⟨t2, e2, T2⟩ := va_Tof (tm := (Term.static "StayWhereFell$Field" "LEAP_ACROSS" "[I")) (ty := .int) (N := 8) (f := fun j => .int ((roT 1002).getD j 0)) (by decide) (hs _ (by decide +kernel)) (va_eqt (hs _ (by decide +kernel))) l2 hA
  have l3 : ∀ j : Nat, j < 8 → (Term.elem (Term.static "StayWhereFell$Field" "LEAP_DOWN" "[I") (.int (Int32.ofNat j))).eval #[Value.ref b] s none [] s = some (.int ((roT 1003).getD j 0)) := by
    intro j hj
    rcases (show j = 0 ∨ j = 1 ∨ j = 2 ∨ j = 3 ∨ j = 4 ∨ j = 5 ∨ j = 6 ∨ j = 7 by omega) with rfl | rfl | rfl | rfl | rfl | rfl | rfl | rfl <;> exact va_eqt (hs _ (by decide +kernel))
  obtain ⟨t3, e3, T3⟩ := va_Tof (tm := (Term.static "StayWhereFell$Field" "LEAP_DOWN" "[I")) (ty := .int) (N := 8) (f := fun j => .int ((roT 1003).getD j 0)) (by decide) (hs _ (by decide +kernel)) (va_eqt (hs _ (by decide +kernel))) l3 hA
  have m5 : ∀ i : Nat, i < 1 → ∀ j : Nat, j < [12].getD i 0 → (Cond.eq (.elem (.field (Term.string "StayWhereFell" 268) "java/lang/String" "value" "[B") (.int (Int32.ofNat j))) (.int (([roT 1006].getD i []).getD j 0))).before #[Value.ref b] s = true := by
    intro i hi j hj
    obtain rfl : i = 0 := by omega
    have hj : j < 12 := hj
    rcases (show j = 0 ∨ j = 1 ∨ j = 2 ∨ j = 3 ∨ j = 4 ∨ j = 5 ∨ j = 6 ∨ j = 7 ∨ j = 8 ∨ j = 9 ∨ j = 10 ∨ j = 11 by omega) with rfl | rfl | rfl | rfl | rfl | rfl | rfl | rfl | rfl | rfl | rfl | rfl <;> exact hs _ (by decide +kernel)
  obtain ⟨k5, v5, S5, E5⟩ := vk_Sof (N := 1) (tm := fun _ => (Term.string "StayWhereFell" 268)) (len := [12]) (byt := [roT 1006]) (fun i hi => by have h9 : i = 0 := (by omega); subst h9; decide) (fun i hi => hs (Cond.exactly (Term.string "StayWhereFell" 268) "java/lang/String") (by decide +kernel)) (fun i hi => hs (Cond.eq (.field (Term.string "StayWhereFell" 268) "java/lang/String" "coder" "B") (.int 0)) (by decide +kernel)) (fun i hi => hs (Cond.arrayOf (.field (Term.string "StayWhereFell" 268) "java/lang/String" "value" "[B") .byte) (by decide +kernel)) (fun i hi => by have h9 : i = 0 := (by omega); subst h9; exact hs _ (by decide +kernel)) m5 (fun i j hi hj h => absurd (by omega) h) hA
  have R5 : vk_R "StayWhereFell" 268 ".#KRBNPkrbnp" (k5 0) s := vk_R.of (hts _ (lt_in 473 (by decide +kernel))) (E5 0 (by decide))
  have m4 : ∀ i : Nat, i < 1 → ∀ j : Nat, j < [12].getD i 0 → (Cond.eq (.elem (.field (Term.string "StayWhereFell$Text" 34) "java/lang/String" "value" "[B") (.int (Int32.ofNat j))) (.int (([roT 1007].getD i []).getD j 0))).before #[Value.ref b] s = true := by
    intro i hi j hj
    obtain rfl : i = 0 := by omega
    have hj : j < 12 := hj
    rcases (show j = 0 ∨ j = 1 ∨ j = 2 ∨ j = 3 ∨ j = 4 ∨ j = 5 ∨ j = 6 ∨ j = 7 ∨ j = 8 ∨ j = 9 ∨ j = 10 ∨ j = 11 by omega) with rfl | rfl | rfl | rfl | rfl | rfl | rfl | rfl | rfl | rfl | rfl | rfl <;> exact hs _ (by decide +kernel)
  obtain ⟨k4, v4, S4, E4⟩ := vk_Sof (N := 1) (tm := fun _ => (Term.string "StayWhereFell$Text" 34)) (len := [12]) (byt := [roT 1007]) (fun i hi => by have h9 : i = 0 := (by omega); subst h9; decide) (fun i hi => hs (Cond.exactly (Term.string "StayWhereFell$Text" 34) "java/lang/String") (by decide +kernel)) (fun i hi => hs (Cond.eq (.field (Term.string "StayWhereFell$Text" 34) "java/lang/String" "coder" "B") (.int 0)) (by decide +kernel)) (fun i hi => hs (Cond.arrayOf (.field (Term.string "StayWhereFell$Text" 34) "java/lang/String" "value" "[B") .byte) (by decide +kernel)) (fun i hi => by have h9 : i = 0 := (by omega); subst h9; exact hs _ (by decide +kernel)) m4 (fun i j hi hj h => absurd (by omega) h) hA
  have R4 : vk_R "StayWhereFell$Text" 34 ".#KRBNPkrbnp" (k4 0) s := vk_R.of (hts _ (lt_in 321 (by decide +kernel))) (E4 0 (by decide))
  obtain ⟨fm, hfm, hcat⟩ : ∃ v, (Term.static "jdk/internal/util/Preconditions" "SIOOBE_FORMATTER" "Ljava/util/function/BiFunction;").eval #[Value.ref b] s none [] s = some v ∧ v.category = 1 := by
    obtain ⟨v, h1, h2⟩ := Cond.isRef_spec (args := #[Value.ref b]) (first := s) (o := none) (s := s) (idx := []) (t := Term.static "jdk/internal/util/Preconditions" "SIOOBE_FORMATTER" "Ljava/util/function/BiFunction;") (hs _ (by decide +kernel))
    exact ⟨v, h1, by cases v <;> simp_all [Value.isRef, Value.category]⟩
  refine ⟨ad8 t0 t1 t2 t3 (k5 0) (k4 0) (v5 0) (v4 0), fm, ⟨⟨fun q hq => ?_, fun i h1 h2 => ?_⟩, fun i h1 h2 => ?_, ⟨R5, R4⟩, va_Zof (hts _ (lt_in 335 (by decide +kernel))) (hts _ (lt_in 54 (by decide +kernel))) (va_eqi (hs _ (by decide +kernel))) hA, va_Zof (hts _ (lt_in 378 (by decide +kernel))) (hts _ (lt_in 58 (by decide +kernel))) hfm hA, hcat⟩⟩
  · simp only [roS, List.mem_cons, List.not_mem_nil, or_false] at hq
    rcases hq with rfl | rfl | rfl | rfl
    · exact va_Zof (hts _ (lt_in 224 (by decide +kernel))) (hts _ (lt_in 49 (by decide +kernel))) e0 hA
    · exact va_Zof (hts _ (lt_in 229 (by decide +kernel))) (hts _ (lt_in 49 (by decide +kernel))) e1 hA
    · exact va_Zof (hts _ (lt_in 241 (by decide +kernel))) (hts _ (lt_in 49 (by decide +kernel))) e2 hA
    · exact va_Zof (hts _ (lt_in 243 (by decide +kernel))) (hts _ (lt_in 49 (by decide +kernel))) e3 hA
  · rcases (show i = 1000 ∨ i = 1001 ∨ i = 1002 ∨ i = 1003 by omega) with rfl | rfl | rfl | rfl
    · exact T0
    · exact T1
    · exact T2
    · exact T3
  · rcases (show i = 1004 ∨ i = 1005 by omega) with rfl | rfl
    · exact S5.1 0 (by decide)
    · exact S4.1 0 (by decide)
