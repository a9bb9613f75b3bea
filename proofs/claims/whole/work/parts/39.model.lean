/-! THE REFERENCE: leaves -/
def inL (v l m : Int64) : Bool := decide (l ≤ v ∧ v ≤ m)
def oc9 (o : Option Nat) : Int32 := match o with
  | none => -9
  | some c => nI c
theorem inL_rng {x : Int32} {a b : Nat} (ha : a < 1000) (hb : b < 1000) : inL x.toInt64 (lN a) (lN b) = decide (¬ (x < nI a ∨ nI b < x)) := by
  unfold inL
  refine decide_eq_decide.mpr ?_
  rw [Int64.le_iff_toInt_le, Int64.le_iff_toInt_le, Int32.toInt_toInt64, pk_lT (by omega), pk_lT (by omega), Int32.lt_iff_toInt_lt, Int32.lt_iff_toInt_lt, nI_ti ha, nI_ti hb]
  omega
theorem inL_cell {x : Int32} {n : Nat} (h1 : 1 ≤ n) (hn : n < 1000) : inL x.toInt64 (lN 0) (lN (n - 1)) = inB x n := by
  unfold inL inB
  refine decide_eq_decide.mpr ?_
  have h0 : (0 : Int32).toInt = 0 := rfl
  rw [Int64.le_iff_toInt_le, Int64.le_iff_toInt_le, Int32.toInt_toInt64, pk_lT (by omega), pk_lT (by omega), Int32.lt_iff_toInt_lt, Int32.lt_iff_toInt_lt, nI_ti hn, h0]
  omega
theorem inL_at {z : Int} {n : Nat} (hz : -1000 ≤ z ∧ z ≤ 1000) (h1 : 1 ≤ n) (hn : n < 1000) : inL (zI z).toInt64 (lN 0) (lN (n - 1)) = decide (0 ≤ z ∧ z < n) := by
  unfold inL
  refine decide_eq_decide.mpr ?_
  rw [Int64.le_iff_toInt_le, Int64.le_iff_toInt_le, Int32.toInt_toInt64, pk_lT (by omega), pk_lT (by omega), zI_ti (by omega) (by omega)]
  omega
/-- the side of a byte -/
def sdB (b : Nat) : Int32 := match sgn b with
  | none => -9
  | some s => sdI s
theorem sdB_asc : ∀ s, s < 12 → sdB (asc s) = sdI s := by decide +kernel
/-- the kind of a sign, as a white man's byte -/
def kdA (s : Nat) : Nat := match s with
  | 0 => 46 | 1 => 35 | 2 => 75 | 3 => 82 | 4 => 66 | 5 => 78 | 6 => 80 | 7 => 75 | 8 => 82 | 9 => 66 | 10 => 78 | _ => 80
/-- one level of the boards: n cells -/
def LV (n k : Nat) (b : Bd) (I : MemI) : Prop := (∀ c, c < n → I 1 (16 * k + c) = nI (asc (b.1 c)) ∧ I 2 (16 * k + c) = nI (b.2.1 c)) ∧ I 3 k = nI b.2.2.1 ∧ I 4 k = lsI b.2.2.2
/-- what is not free -/
def nfr (nb : Bool) (g : Nat → Nat) (c : Nat) : Bool := if nb = true then ded g c else ful g c
theorem asc_0 : ∀ s, s < 12 → (asc s = 46 ↔ s = 0) := by decide +kernel
theorem asc_1 : ∀ s, s < 12 → (asc s = 35 ↔ s = 1) := by decide +kernel
theorem ful_0 {g : Nat → Nat} {c : Nat} : ful g c = decide (¬ g c = 0) := by
  unfold ful wht blk ded
  rw [← Bool.decide_or, ← Bool.decide_or]
  exact decide_eq_decide.mpr (by omega)
def chB (w h k : Nat) : Nat → Option Nat → Bool
  | 0, o => o.isNone
  | _ + 1, none => true
  | r + 1, some q => chB w h k r (nbr w h q k)
theorem ch_3 : ∀ w, w < 5 → ∀ h, h < 5 → ∀ c, c < 16 → ∀ k, k < 8 → (decide (c < w * h) = true → chB w h k 3 (nbr w h c k) = true) := by decide +kernel
section MLF
variable {Ω : Shp} {d : Nat} {I : MemI} {J : MemJ}
set_option maxHeartbeats 16000000 in
theorem sp_X6_in {v l m : Int64} : CALL Ω d kX6_in [.long v, .long l, .long m] I J (PQ (.int (bI (inL v l m))) I J) := by
  refine call_of_wp (by decide) (Nat.le_of_ble_eq_true rfl) ?_
  refine wp_lload_n (pc := 0) (i := 0) dX6_in_0 rfl rfl ?_
  refine wp_lload_n (pc := 1) (i := 2) dX6_in_1 rfl rfl ?_
  refine wp_lcmp (pc := 2) dX6_in_2 ?_
  refine wp_if_lt (pc := 3) (tgt := 17) dX6_in_3 (by decide) (fun c_3 => ?_) (fun c_3 => ?_)
  · refine wp_iconst (pc := 17) (v := nI 0) dX6_in_17 (by decide +kernel) ?_
    refine wp_zreturn (pc := 18) dX6_in_18 rfl (by first | exact bI_narrow _ | exact nI_narrow01 (by omega) | decide +kernel | assumption) ?_
    first | (have g1 := (lg_cmp_lt v l).mp c_3; exact pq_i (by rw [show inL v l m = false from decide_eq_false (fun z => Int64.not_lt.mpr z.1 g1)]; rfl)) | (have g1 : ¬ 0 < lg_cmp v m := c_10; exact pq_i (by rw [show inL v l m = true from decide_eq_true ⟨Int64.not_lt.mp (fun z => c_3 ((lg_cmp_lt v l).mpr z)), Int64.not_lt.mp (fun z => g1 ((lg_cmp_gt v m).mpr z))⟩]; rfl)) | (have g1 := (lg_cmp_gt v m).mp c_10; exact pq_i (by rw [show inL v l m = false from decide_eq_false (fun z => Int64.not_lt.mpr z.2 g1)]; rfl))
  · refine wp_lload_n (pc := 6) (i := 0) dX6_in_6 rfl rfl ?_
    refine wp_lload (pc := 7) dX6_in_7 rfl ?_
    refine wp_lcmp (pc := 9) dX6_in_9 ?_
    refine wp_if_gt (pc := 10) (tgt := 17) dX6_in_10 (by decide) (fun c_10 => ?_) (fun c_10 => ?_)
    · refine wp_iconst (pc := 17) (v := nI 0) dX6_in_17 (by decide +kernel) ?_
      refine wp_zreturn (pc := 18) dX6_in_18 rfl (by first | exact bI_narrow _ | exact nI_narrow01 (by omega) | decide +kernel | assumption) ?_
      first | (have g1 := (lg_cmp_lt v l).mp c_3; exact pq_i (by rw [show inL v l m = false from decide_eq_false (fun z => Int64.not_lt.mpr z.1 g1)]; rfl)) | (have g1 : ¬ 0 < lg_cmp v m := c_10; exact pq_i (by rw [show inL v l m = true from decide_eq_true ⟨Int64.not_lt.mp (fun z => c_3 ((lg_cmp_lt v l).mpr z)), Int64.not_lt.mp (fun z => g1 ((lg_cmp_gt v m).mpr z))⟩]; rfl)) | (have g1 := (lg_cmp_gt v m).mp c_10; exact pq_i (by rw [show inL v l m = false from decide_eq_false (fun z => Int64.not_lt.mpr z.2 g1)]; rfl))
    · refine wp_iconst (pc := 13) (v := nI 1) dX6_in_13 (by decide +kernel) ?_
      refine wp_goto (pc := 14) (tgt := 18) dX6_in_14 (by decide) ?_
      refine wp_zreturn (pc := 18) dX6_in_18 rfl (by first | exact bI_narrow _ | exact nI_narrow01 (by omega) | decide +kernel | assumption) ?_
      first | (have g1 := (lg_cmp_lt v l).mp c_3; exact pq_i (by rw [show inL v l m = false from decide_eq_false (fun z => Int64.not_lt.mpr z.1 g1)]; rfl)) | (have g1 : ¬ 0 < lg_cmp v m := c_10; exact pq_i (by rw [show inL v l m = true from decide_eq_true ⟨Int64.not_lt.mp (fun z => c_3 ((lg_cmp_lt v l).mpr z)), Int64.not_lt.mp (fun z => g1 ((lg_cmp_gt v m).mpr z))⟩]; rfl)) | (have g1 := (lg_cmp_gt v m).mp c_10; exact pq_i (by rw [show inL v l m = false from decide_eq_false (fun z => Int64.not_lt.mpr z.2 g1)]; rfl))
theorem sd_off : ∀ b, b < 256 → (sdB b = nI 0 ∧ Op.lookupswitch.offset [(66, 91), (75, 91), (78, 91), (80, 91), (82, 91), (98, 93), (107, 93), (110, 93), (112, 93), (114, 93)] 95 (nI b).toInt = 91) ∨ (sdB b = nI 1 ∧ Op.lookupswitch.offset [(66, 91), (75, 91), (78, 91), (80, 91), (82, 91), (98, 93), (107, 93), (110, 93), (112, 93), (114, 93)] 95 (nI b).toInt = 93) ∨ (sdB b = -9 ∧ Op.lookupswitch.offset [(66, 91), (75, 91), (78, 91), (80, 91), (82, 91), (98, 93), (107, 93), (110, 93), (112, 93), (114, 93)] 95 (nI b).toInt = 95) := by decide +kernel
set_option maxHeartbeats 16000000 in
theorem sp_X6_sideOf {b : Nat} (hb : b < 256) : CALL Ω d kX6_sideOf [.int (nI b)] I J (PQ (.int (sdB b)) I J) := by
  refine call_of_wp (by decide) (Nat.le_of_ble_eq_true rfl) ?_
  rcases sd_off b hb with ⟨h1, h2⟩ | ⟨h1, h2⟩ | ⟨h1, h2⟩
  · rw [h1]
    refine wp_iload_n (pc := 0) (i := 0) dX6_sideOf_0 rfl rfl ?_
    refine wp_lookup (pc := 1) (x := nI b) (off := 91) (tgt := 92) dX6_sideOf_1 (by decide) h2 (by decide) ?_
    refine wp_iconst (pc := 92) (v := nI 0) dX6_sideOf_92 (by decide +kernel) ?_
    refine wp_ireturn (pc := 93) dX6_sideOf_93 rfl ?_
    exact pq_i rfl
  · rw [h1]
    refine wp_iload_n (pc := 0) (i := 0) dX6_sideOf_0 rfl rfl ?_
    refine wp_lookup (pc := 1) (x := nI b) (off := 93) (tgt := 94) dX6_sideOf_1 (by decide) h2 (by decide) ?_
    refine wp_iconst (pc := 94) (v := nI 1) dX6_sideOf_94 (by decide +kernel) ?_
    refine wp_ireturn (pc := 95) dX6_sideOf_95 rfl ?_
    exact pq_i rfl
  · rw [h1]
    refine wp_iload_n (pc := 0) (i := 0) dX6_sideOf_0 rfl rfl ?_
    refine wp_lookup (pc := 1) (x := nI b) (off := 95) (tgt := 96) dX6_sideOf_1 (by decide) h2 (by decide) ?_
    refine wp_bipush (pc := 96) (v := (-9)) dX6_sideOf_96 (by decide +kernel) ?_
    refine wp_ireturn (pc := 98) dX6_sideOf_98 rfl ?_
    exact pq_i rfl
theorem sgn_46 : ∀ b, b < 256 → ((sgn b).isSome = (decide (b = 46) || (decide (b = 35) || decide (¬ sdB b = -9)))) := by decide +kernel
set_option maxHeartbeats 16000000 in
theorem sp_X6_isCellSign {b : Nat} (hb : b < 256) : CALL Ω (d + 1) kX6_isCellSign [.int (nI b)] I J (PQ (.int (bI (sgn b).isSome)) I J) := by
  rw [sgn_46 b hb]
  refine call_of_wp (by decide) (Nat.le_of_ble_eq_true rfl) ?_
  refine wp_iload_n (pc := 0) (i := 0) dX6_isCellSign_0 rfl rfl ?_
  refine wp_bipush (pc := 1) (v := nI 46) dX6_isCellSign_1 (by decide +kernel) ?_
  first | (refine wp_icmp_eqN (pc := 3) (tgt := 21) dX6_isCellSign_3 (by decide) (by first | with_reducible assumption | omega) (by first | with_reducible assumption | omega) (fun c_3 => ?_) (fun c_3 => ?_)) | (refine wp_icmp_eq (pc := 3) (tgt := 21) dX6_isCellSign_3 (by decide) (fun c_3 => ?_) (fun c_3 => ?_))
  · refine wp_iconst (pc := 21) (v := nI 1) dX6_isCellSign_21 (by decide +kernel) ?_
    refine wp_goto (pc := 22) (tgt := 26) dX6_isCellSign_22 (by decide) ?_
    refine wp_zreturn (pc := 26) dX6_isCellSign_26 rfl (by first | exact bI_narrow _ | exact nI_narrow01 (by omega) | decide +kernel | assumption) ?_
    first
      | (have g : b = 46 := c_3; exact pq_i (by rw [decide_eq_true g]; rfl))
      | (have g : b = 35 := c_9; exact pq_i (by rw [decide_eq_true g, Bool.true_or, Bool.or_true]; rfl))
      | (have g : sdB b = -9 := c_18; have g2 : ¬ b = 46 := c_3; have g3 : ¬ b = 35 := c_9; exact pq_i (by rw [decide_eq_false g2, decide_eq_false g3, decide_eq_false (fun z => z g)]; rfl))
      | (have g : ¬ sdB b = -9 := c_18; exact pq_i (by rw [decide_eq_true g, Bool.or_true, Bool.or_true]; rfl))
  · refine wp_iload_n (pc := 6) (i := 0) dX6_isCellSign_6 rfl rfl ?_
    refine wp_bipush (pc := 7) (v := nI 35) dX6_isCellSign_7 (by decide +kernel) ?_
    first | (refine wp_icmp_eqN (pc := 9) (tgt := 21) dX6_isCellSign_9 (by decide) (by first | with_reducible assumption | omega) (by first | with_reducible assumption | omega) (fun c_9 => ?_) (fun c_9 => ?_)) | (refine wp_icmp_eq (pc := 9) (tgt := 21) dX6_isCellSign_9 (by decide) (fun c_9 => ?_) (fun c_9 => ?_))
    · refine wp_iconst (pc := 21) (v := nI 1) dX6_isCellSign_21 (by decide +kernel) ?_
      refine wp_goto (pc := 22) (tgt := 26) dX6_isCellSign_22 (by decide) ?_
      refine wp_zreturn (pc := 26) dX6_isCellSign_26 rfl (by first | exact bI_narrow _ | exact nI_narrow01 (by omega) | decide +kernel | assumption) ?_
      first
        | (have g : b = 46 := c_3; exact pq_i (by rw [decide_eq_true g]; rfl))
        | (have g : b = 35 := c_9; exact pq_i (by rw [decide_eq_true g, Bool.true_or, Bool.or_true]; rfl))
        | (have g : sdB b = -9 := c_18; have g2 : ¬ b = 46 := c_3; have g3 : ¬ b = 35 := c_9; exact pq_i (by rw [decide_eq_false g2, decide_eq_false g3, decide_eq_false (fun z => z g)]; rfl))
        | (have g : ¬ sdB b = -9 := c_18; exact pq_i (by rw [decide_eq_true g, Bool.or_true, Bool.or_true]; rfl))
    · refine wp_iload_n (pc := 12) (i := 0) dX6_isCellSign_12 rfl rfl ?_
      refine wp_cSP1 (pc := 13) dX6_isCellSign_13 lm_X6_65 m_X6_sideOf (Nat.le_of_ble_eq_true rfl) (sp_X6_sideOf (by first | with_reducible assumption | omega)) ?_
      refine wp_bipush (pc := 16) (v := (-9)) dX6_isCellSign_16 (by decide +kernel) ?_
      refine wp_icmp_eq (pc := 18) (tgt := 25) dX6_isCellSign_18 (by decide) (fun c_18 => ?_) (fun c_18 => ?_)
      · refine wp_iconst (pc := 25) (v := nI 0) dX6_isCellSign_25 (by decide +kernel) ?_
        refine wp_zreturn (pc := 26) dX6_isCellSign_26 rfl (by first | exact bI_narrow _ | exact nI_narrow01 (by omega) | decide +kernel | assumption) ?_
        first
          | (have g : b = 46 := c_3; exact pq_i (by rw [decide_eq_true g]; rfl))
          | (have g : b = 35 := c_9; exact pq_i (by rw [decide_eq_true g, Bool.true_or, Bool.or_true]; rfl))
          | (have g : sdB b = -9 := c_18; have g2 : ¬ b = 46 := c_3; have g3 : ¬ b = 35 := c_9; exact pq_i (by rw [decide_eq_false g2, decide_eq_false g3, decide_eq_false (fun z => z g)]; rfl))
          | (have g : ¬ sdB b = -9 := c_18; exact pq_i (by rw [decide_eq_true g, Bool.or_true, Bool.or_true]; rfl))
      · refine wp_iconst (pc := 21) (v := nI 1) dX6_isCellSign_21 (by decide +kernel) ?_
        refine wp_goto (pc := 22) (tgt := 26) dX6_isCellSign_22 (by decide) ?_
        refine wp_zreturn (pc := 26) dX6_isCellSign_26 rfl (by first | exact bI_narrow _ | exact nI_narrow01 (by omega) | decide +kernel | assumption) ?_
        first
          | (have g : b = 46 := c_3; exact pq_i (by rw [decide_eq_true g]; rfl))
          | (have g : b = 35 := c_9; exact pq_i (by rw [decide_eq_true g, Bool.true_or, Bool.or_true]; rfl))
          | (have g : sdB b = -9 := c_18; have g2 : ¬ b = 46 := c_3; have g3 : ¬ b = 35 := c_9; exact pq_i (by rw [decide_eq_false g2, decide_eq_false g3, decide_eq_false (fun z => z g)]; rfl))
          | (have g : ¬ sdB b = -9 := c_18; exact pq_i (by rw [decide_eq_true g, Bool.or_true, Bool.or_true]; rfl))
theorem kd_A : ∀ s, s < 12 → (sdI s = nI 1 ∧ 32 ≤ asc s ∧ asc s - 32 = kdA s) ∨ (¬ sdI s = nI 1 ∧ asc s = kdA s) := by decide +kernel
set_option maxHeartbeats 16000000 in
theorem sp_X6_kindOf {s : Nat} (hs : s < 12) : CALL Ω (d + 1) kX6_kindOf [.int (nI (asc s))] I J (PQ (.int (nI (kdA s))) I J) := by
  have ha := asc_lt s
  have hside := sp_X6_sideOf (Ω := Ω) (d := d) (I := I) (J := J) (b := asc s) (by omega)
  rw [sdB_asc s hs] at hside
  refine call_of_wp (by decide) (Nat.le_of_ble_eq_true rfl) ?_
  rcases kd_A s hs with ⟨h1, h2, h3⟩ | ⟨h1, h2⟩
  · have h0 := h1
    refine wp_iload_n (pc := 0) (i := 0) dX6_kindOf_0 rfl rfl ?_
    refine wp_cSP1 (pc := 1) dX6_kindOf_1 lm_X6_65 m_X6_sideOf (Nat.le_of_ble_eq_true rfl) hside ?_
    refine wp_iconst (pc := 4) (v := nI 1) dX6_kindOf_4 (by decide +kernel) ?_
    refine wp_icmp_ne (pc := 5) (tgt := 15) dX6_kindOf_5 (by decide) (fun c_5 => ?_) (fun c_5 => ?_)
    · exact absurd h1 c_5
    · refine wp_iload_n (pc := 8) (i := 0) dX6_kindOf_8 rfl rfl ?_
      refine wp_bipush (pc := 9) (v := nI 32) dX6_kindOf_9 (by decide +kernel) ?_
      first | (refine wp_isubN (pc := 11) dX6_kindOf_11 (by first | with_reducible assumption | omega) ?_) | (refine wp_isub (pc := 11) dX6_kindOf_11 ?_)
      refine wp_goto (pc := 12) (tgt := 16) dX6_kindOf_12 (by decide) ?_
      refine wp_ireturn (pc := 16) dX6_kindOf_16 rfl ?_
      exact pq_i (by rw [h3])
  · have h0 := h1
    refine wp_iload_n (pc := 0) (i := 0) dX6_kindOf_0 rfl rfl ?_
    refine wp_cSP1 (pc := 1) dX6_kindOf_1 lm_X6_65 m_X6_sideOf (Nat.le_of_ble_eq_true rfl) hside ?_
    refine wp_iconst (pc := 4) (v := nI 1) dX6_kindOf_4 (by decide +kernel) ?_
    refine wp_icmp_ne (pc := 5) (tgt := 15) dX6_kindOf_5 (by decide) (fun c_5 => ?_) (fun c_5 => ?_)
    · refine wp_iload_n (pc := 15) (i := 0) dX6_kindOf_15 rfl rfl ?_
      refine wp_ireturn (pc := 16) dX6_kindOf_16 rfl ?_
      exact pq_i (by rw [h2])
    · exact absurd c_5 h1
/-- width and height -/
def WH (w h : Nat) (I : MemI) : Prop := (1 ≤ w ∧ w ≤ 4 ∧ 1 ≤ h ∧ h ≤ 4) ∧ I 0 0 = nI w ∧ I 0 1 = nI h
theorem WH_n {w h : Nat} (hW : WH w h I) : 1 ≤ w * h ∧ w * h ≤ 16 := ⟨Nat.mul_pos (by have := hW.1.1; omega) (by have := hW.1.2.2.1; omega), wh16 hW.1.2.1 hW.1.2.2.2⟩
set_option maxHeartbeats 16000000 in
theorem sp_X6_isCell {w h : Nat} {x : Int32} (hW : WH w h I) : CALL ΩM (d + 1) kX6_isCell [.ref 0, .int x] I J (PQ (.int (bI (inB x (w * h)))) I J) := by
  obtain ⟨n1, n16⟩ := WH_n hW
  have e0 := hW.2.1
  have e1 := hW.2.2
  refine call_of_wp (by decide) (Nat.le_of_ble_eq_true rfl) ?_
  refine wp_iload_n (pc := 0) (i := 1) dX6_isCell_0 rfl rfl ?_
  refine wp_i2l (pc := 1) dX6_isCell_1 ?_
  refine wp_lconst (pc := 2) (v := lN 0) dX6_isCell_2 (by decide +kernel) ?_
  refine wp_aload_n (pc := 3) (i := 0) dX6_isCell_3 rfl rfl (by first | with_reducible assumption | rfl) ?_
  refine wp_getI (pc := 4) dX6_isCell_4 lf_X6_47 (by first | with_reducible assumption | rfl) (by first | with_reducible assumption | rfl) rfl ?_
  rw [e0]
  refine wp_aload_n (pc := 7) (i := 0) dX6_isCell_7 rfl rfl (by first | with_reducible assumption | rfl) ?_
  refine wp_getI (pc := 8) dX6_isCell_8 lf_X6_51 (by first | with_reducible assumption | rfl) (by first | with_reducible assumption | rfl) rfl ?_
  rw [e1]
  first | (refine wp_imulN (pc := 11) dX6_isCell_11 ?_) | (refine wp_imul (pc := 11) dX6_isCell_11 ?_)
  refine wp_iconst (pc := 12) (v := nI 1) dX6_isCell_12 (by decide +kernel) ?_
  first | (refine wp_isubN (pc := 13) dX6_isCell_13 (by first | with_reducible assumption | omega) ?_) | (refine wp_isub (pc := 13) dX6_isCell_13 ?_)
  first | (refine wp_i2lN (pc := 14) dX6_isCell_14 (by first | with_reducible assumption | omega) ?_) | (refine wp_i2l (pc := 14) dX6_isCell_14 ?_)
  refine wp_cSP3 (pc := 15) dX6_isCell_15 lm_X6_56 m_X6_in (Nat.le_of_ble_eq_true rfl) sp_X6_in ?_
  rw [inL_cell n1 (by omega)]
  refine wp_zreturn (pc := 18) dX6_isCell_18 rfl (by first | exact bI_narrow _ | exact nI_narrow01 (by omega) | decide +kernel | assumption) ?_
  exact pq_i rfl
set_option maxHeartbeats 16000000 in
theorem sp_X6_at {w h c : Nat} {x y : Int} (hW : WH w h I) (hc : c < w * h) (hx : -10 ≤ x ∧ x ≤ 10) (hy : -10 ≤ y ∧ y ≤ 10) : CALL ΩM (d + 1) kX6_at [.ref 0, .int (nI c), .int (zI x), .int (zI y)] I J (PQ (.int (oc9 (cat w h (cxx w c + x) (cyy w c + y)))) I J) := by
  obtain ⟨n1, n16⟩ := WH_n hW
  obtain ⟨⟨w1, w4, h1, h4⟩, e0, e1⟩ := hW
  have hxb := cxx_b (c := c) w1 w4
  have hyb := cyy_b (w := w) (c := c) (by omega)
  have ex : nI (c % w) + zI x = zI (cxx w c + x) := by rw [zI_n, zI_add]; rfl
  have ey : nI (c / w) + zI y = zI (cyy w c + y) := by rw [zI_n, zI_add]; rfl
  have ix := inL_at (z := cxx w c + x) (n := w) (by omega) w1 (by omega)
  have iy := inL_at (z := cyy w c + y) (n := h) (by omega) h1 (by omega)
  generalize cxx w c + x = X at ex ix hxb ⊢
  generalize cyy w c + y = Y at ey iy hyb ⊢
  by_cases gx : 0 ≤ X ∧ X < w
  · rw [decide_eq_true gx] at ix
    by_cases gy : 0 ≤ Y ∧ Y < h
    · rw [decide_eq_true gy] at iy
      have e : oc9 (cat w h X Y) = zI Y * nI w + zI X := by
        rw [cat_t ⟨gx.1, gx.2, gy.1, gy.2⟩]
        unfold cat
        rw [if_pos ⟨gx.1, gx.2, gy.1, gy.2⟩]
        rfl
      rw [e]
      refine call_of_wp (by decide) (Nat.le_of_ble_eq_true rfl) ?_
      refine wp_iload_n (pc := 0) (i := 1) dX6_at_0 rfl rfl ?_
      refine wp_aload_n (pc := 1) (i := 0) dX6_at_1 rfl rfl (by first | with_reducible assumption | rfl) ?_
      refine wp_getI (pc := 2) dX6_at_2 lf_X6_47 (by first | with_reducible assumption | rfl) (by first | with_reducible assumption | rfl) rfl ?_
      rw [e0]
      refine wp_iremN (pc := 5) dX6_at_5 (by first | with_reducible assumption | omega) (by first | with_reducible assumption | omega) (by first | with_reducible assumption | omega) ?_
      refine wp_iload_n (pc := 6) (i := 2) dX6_at_6 rfl rfl ?_
      refine wp_iadd (pc := 7) dX6_at_7 ?_
      rw [ex]
      refine wp_istore (pc := 8) dX6_at_8 (by decide) ?_
      refine wp_iload_n (pc := 10) (i := 1) dX6_at_10 rfl rfl ?_
      refine wp_aload_n (pc := 11) (i := 0) dX6_at_11 rfl rfl (by first | with_reducible assumption | rfl) ?_
      refine wp_getI (pc := 12) dX6_at_12 lf_X6_47 (by first | with_reducible assumption | rfl) (by first | with_reducible assumption | rfl) rfl ?_
      rw [e0]
      refine wp_idivN (pc := 15) dX6_at_15 (by first | with_reducible assumption | omega) (by first | with_reducible assumption | omega) (by first | with_reducible assumption | omega) ?_
      refine wp_iload_n (pc := 16) (i := 3) dX6_at_16 rfl rfl ?_
      refine wp_iadd (pc := 17) dX6_at_17 ?_
      rw [ey]
      refine wp_istore (pc := 18) dX6_at_18 (by decide) ?_
      refine wp_iload (pc := 20) dX6_at_20 rfl ?_
      refine wp_i2l (pc := 22) dX6_at_22 ?_
      refine wp_lconst (pc := 23) (v := lN 0) dX6_at_23 (by decide +kernel) ?_
      refine wp_aload_n (pc := 24) (i := 0) dX6_at_24 rfl rfl (by first | with_reducible assumption | rfl) ?_
      refine wp_getI (pc := 25) dX6_at_25 lf_X6_47 (by first | with_reducible assumption | rfl) (by first | with_reducible assumption | rfl) rfl ?_
      rw [e0]
      refine wp_iconst (pc := 28) (v := nI 1) dX6_at_28 (by decide +kernel) ?_
      first | (refine wp_isubN (pc := 29) dX6_at_29 (by first | with_reducible assumption | omega) ?_) | (refine wp_isub (pc := 29) dX6_at_29 ?_)
      first | (refine wp_i2lN (pc := 30) dX6_at_30 (by first | with_reducible assumption | omega) ?_) | (refine wp_i2l (pc := 30) dX6_at_30 ?_)
      refine wp_cSP3 (pc := 31) dX6_at_31 lm_X6_56 m_X6_in (Nat.le_of_ble_eq_true rfl) sp_X6_in ?_
      rw [ix]
      refine wp_if_eqB (pc := 34) (tgt := 67) dX6_at_34 (by decide) (fun c_34 => ?_) (fun c_34 => ?_)
      · exact Bool.noConfusion c_34
      · refine wp_iload (pc := 37) dX6_at_37 rfl ?_
        refine wp_i2l (pc := 39) dX6_at_39 ?_
        refine wp_lconst (pc := 40) (v := lN 0) dX6_at_40 (by decide +kernel) ?_
        refine wp_aload_n (pc := 41) (i := 0) dX6_at_41 rfl rfl (by first | with_reducible assumption | rfl) ?_
        refine wp_getI (pc := 42) dX6_at_42 lf_X6_51 (by first | with_reducible assumption | rfl) (by first | with_reducible assumption | rfl) rfl ?_
        rw [e1]
        refine wp_iconst (pc := 45) (v := nI 1) dX6_at_45 (by decide +kernel) ?_
        first | (refine wp_isubN (pc := 46) dX6_at_46 (by first | with_reducible assumption | omega) ?_) | (refine wp_isub (pc := 46) dX6_at_46 ?_)
        first | (refine wp_i2lN (pc := 47) dX6_at_47 (by first | with_reducible assumption | omega) ?_) | (refine wp_i2l (pc := 47) dX6_at_47 ?_)
        refine wp_cSP3 (pc := 48) dX6_at_48 lm_X6_56 m_X6_in (Nat.le_of_ble_eq_true rfl) sp_X6_in ?_
        rw [iy]
        refine wp_if_eqB (pc := 51) (tgt := 67) dX6_at_51 (by decide) (fun c_51 => ?_) (fun c_51 => ?_)
        · exact Bool.noConfusion c_51
        · refine wp_iload (pc := 54) dX6_at_54 rfl ?_
          refine wp_aload_n (pc := 56) (i := 0) dX6_at_56 rfl rfl (by first | with_reducible assumption | rfl) ?_
          refine wp_getI (pc := 57) dX6_at_57 lf_X6_47 (by first | with_reducible assumption | rfl) (by first | with_reducible assumption | rfl) rfl ?_
          rw [e0]
          refine wp_imul (pc := 60) dX6_at_60 ?_
          refine wp_iload (pc := 61) dX6_at_61 rfl ?_
          refine wp_iadd (pc := 63) dX6_at_63 ?_
          refine wp_goto (pc := 64) (tgt := 69) dX6_at_64 (by decide) ?_
          refine wp_ireturn (pc := 69) dX6_at_69 rfl ?_
          exact pq_i rfl
    · rw [decide_eq_false gy] at iy
      have e : oc9 (cat w h X Y) = -9 := by
        unfold cat
        rw [if_neg (fun z => gy ⟨z.2.2.1, z.2.2.2⟩)]
        rfl
      rw [e]
      refine call_of_wp (by decide) (Nat.le_of_ble_eq_true rfl) ?_
      refine wp_iload_n (pc := 0) (i := 1) dX6_at_0 rfl rfl ?_
      refine wp_aload_n (pc := 1) (i := 0) dX6_at_1 rfl rfl (by first | with_reducible assumption | rfl) ?_
      refine wp_getI (pc := 2) dX6_at_2 lf_X6_47 (by first | with_reducible assumption | rfl) (by first | with_reducible assumption | rfl) rfl ?_
      rw [e0]
      refine wp_iremN (pc := 5) dX6_at_5 (by first | with_reducible assumption | omega) (by first | with_reducible assumption | omega) (by first | with_reducible assumption | omega) ?_
      refine wp_iload_n (pc := 6) (i := 2) dX6_at_6 rfl rfl ?_
      refine wp_iadd (pc := 7) dX6_at_7 ?_
      rw [ex]
      refine wp_istore (pc := 8) dX6_at_8 (by decide) ?_
      refine wp_iload_n (pc := 10) (i := 1) dX6_at_10 rfl rfl ?_
      refine wp_aload_n (pc := 11) (i := 0) dX6_at_11 rfl rfl (by first | with_reducible assumption | rfl) ?_
      refine wp_getI (pc := 12) dX6_at_12 lf_X6_47 (by first | with_reducible assumption | rfl) (by first | with_reducible assumption | rfl) rfl ?_
      rw [e0]
      refine wp_idivN (pc := 15) dX6_at_15 (by first | with_reducible assumption | omega) (by first | with_reducible assumption | omega) (by first | with_reducible assumption | omega) ?_
      refine wp_iload_n (pc := 16) (i := 3) dX6_at_16 rfl rfl ?_
      refine wp_iadd (pc := 17) dX6_at_17 ?_
      rw [ey]
      refine wp_istore (pc := 18) dX6_at_18 (by decide) ?_
      refine wp_iload (pc := 20) dX6_at_20 rfl ?_
      refine wp_i2l (pc := 22) dX6_at_22 ?_
      refine wp_lconst (pc := 23) (v := lN 0) dX6_at_23 (by decide +kernel) ?_
      refine wp_aload_n (pc := 24) (i := 0) dX6_at_24 rfl rfl (by first | with_reducible assumption | rfl) ?_
      refine wp_getI (pc := 25) dX6_at_25 lf_X6_47 (by first | with_reducible assumption | rfl) (by first | with_reducible assumption | rfl) rfl ?_
      rw [e0]
      refine wp_iconst (pc := 28) (v := nI 1) dX6_at_28 (by decide +kernel) ?_
      first | (refine wp_isubN (pc := 29) dX6_at_29 (by first | with_reducible assumption | omega) ?_) | (refine wp_isub (pc := 29) dX6_at_29 ?_)
      first | (refine wp_i2lN (pc := 30) dX6_at_30 (by first | with_reducible assumption | omega) ?_) | (refine wp_i2l (pc := 30) dX6_at_30 ?_)
      refine wp_cSP3 (pc := 31) dX6_at_31 lm_X6_56 m_X6_in (Nat.le_of_ble_eq_true rfl) sp_X6_in ?_
      rw [ix]
      refine wp_if_eqB (pc := 34) (tgt := 67) dX6_at_34 (by decide) (fun c_34 => ?_) (fun c_34 => ?_)
      · exact Bool.noConfusion c_34
      · refine wp_iload (pc := 37) dX6_at_37 rfl ?_
        refine wp_i2l (pc := 39) dX6_at_39 ?_
        refine wp_lconst (pc := 40) (v := lN 0) dX6_at_40 (by decide +kernel) ?_
        refine wp_aload_n (pc := 41) (i := 0) dX6_at_41 rfl rfl (by first | with_reducible assumption | rfl) ?_
        refine wp_getI (pc := 42) dX6_at_42 lf_X6_51 (by first | with_reducible assumption | rfl) (by first | with_reducible assumption | rfl) rfl ?_
        rw [e1]
        refine wp_iconst (pc := 45) (v := nI 1) dX6_at_45 (by decide +kernel) ?_
        first | (refine wp_isubN (pc := 46) dX6_at_46 (by first | with_reducible assumption | omega) ?_) | (refine wp_isub (pc := 46) dX6_at_46 ?_)
        first | (refine wp_i2lN (pc := 47) dX6_at_47 (by first | with_reducible assumption | omega) ?_) | (refine wp_i2l (pc := 47) dX6_at_47 ?_)
        refine wp_cSP3 (pc := 48) dX6_at_48 lm_X6_56 m_X6_in (Nat.le_of_ble_eq_true rfl) sp_X6_in ?_
        rw [iy]
        refine wp_if_eqB (pc := 51) (tgt := 67) dX6_at_51 (by decide) (fun c_51 => ?_) (fun c_51 => ?_)
        · refine wp_bipush (pc := 67) (v := (-9)) dX6_at_67 (by decide +kernel) ?_
          refine wp_ireturn (pc := 69) dX6_at_69 rfl ?_
          exact pq_i rfl
        · exact Bool.noConfusion c_51
  · rw [decide_eq_false gx] at ix
    have e : oc9 (cat w h X Y) = -9 := by
      unfold cat
      rw [if_neg (fun z => gx ⟨z.1, z.2.1⟩)]
      rfl
    rw [e]
    refine call_of_wp (by decide) (Nat.le_of_ble_eq_true rfl) ?_
    refine wp_iload_n (pc := 0) (i := 1) dX6_at_0 rfl rfl ?_
    refine wp_aload_n (pc := 1) (i := 0) dX6_at_1 rfl rfl (by first | with_reducible assumption | rfl) ?_
    refine wp_getI (pc := 2) dX6_at_2 lf_X6_47 (by first | with_reducible assumption | rfl) (by first | with_reducible assumption | rfl) rfl ?_
    rw [e0]
    refine wp_iremN (pc := 5) dX6_at_5 (by first | with_reducible assumption | omega) (by first | with_reducible assumption | omega) (by first | with_reducible assumption | omega) ?_
    refine wp_iload_n (pc := 6) (i := 2) dX6_at_6 rfl rfl ?_
    refine wp_iadd (pc := 7) dX6_at_7 ?_
    rw [ex]
    refine wp_istore (pc := 8) dX6_at_8 (by decide) ?_
    refine wp_iload_n (pc := 10) (i := 1) dX6_at_10 rfl rfl ?_
    refine wp_aload_n (pc := 11) (i := 0) dX6_at_11 rfl rfl (by first | with_reducible assumption | rfl) ?_
    refine wp_getI (pc := 12) dX6_at_12 lf_X6_47 (by first | with_reducible assumption | rfl) (by first | with_reducible assumption | rfl) rfl ?_
    rw [e0]
    refine wp_idivN (pc := 15) dX6_at_15 (by first | with_reducible assumption | omega) (by first | with_reducible assumption | omega) (by first | with_reducible assumption | omega) ?_
    refine wp_iload_n (pc := 16) (i := 3) dX6_at_16 rfl rfl ?_
    refine wp_iadd (pc := 17) dX6_at_17 ?_
    rw [ey]
    refine wp_istore (pc := 18) dX6_at_18 (by decide) ?_
    refine wp_iload (pc := 20) dX6_at_20 rfl ?_
    refine wp_i2l (pc := 22) dX6_at_22 ?_
    refine wp_lconst (pc := 23) (v := lN 0) dX6_at_23 (by decide +kernel) ?_
    refine wp_aload_n (pc := 24) (i := 0) dX6_at_24 rfl rfl (by first | with_reducible assumption | rfl) ?_
    refine wp_getI (pc := 25) dX6_at_25 lf_X6_47 (by first | with_reducible assumption | rfl) (by first | with_reducible assumption | rfl) rfl ?_
    rw [e0]
    refine wp_iconst (pc := 28) (v := nI 1) dX6_at_28 (by decide +kernel) ?_
    first | (refine wp_isubN (pc := 29) dX6_at_29 (by first | with_reducible assumption | omega) ?_) | (refine wp_isub (pc := 29) dX6_at_29 ?_)
    first | (refine wp_i2lN (pc := 30) dX6_at_30 (by first | with_reducible assumption | omega) ?_) | (refine wp_i2l (pc := 30) dX6_at_30 ?_)
    refine wp_cSP3 (pc := 31) dX6_at_31 lm_X6_56 m_X6_in (Nat.le_of_ble_eq_true rfl) sp_X6_in ?_
    rw [ix]
    refine wp_if_eqB (pc := 34) (tgt := 67) dX6_at_34 (by decide) (fun c_34 => ?_) (fun c_34 => ?_)
    · refine wp_bipush (pc := 67) (v := (-9)) dX6_at_67 (by decide +kernel) ?_
      refine wp_ireturn (pc := 69) dX6_at_69 rfl ?_
      exact pq_i rfl
    · exact Bool.noConfusion c_34
set_option maxHeartbeats 16000000 in
theorem sp_X6_step {w h c : Nat} {x y : Int} (hW : WH w h I) (hc : c < w * h) (hx : -10 ≤ x ∧ x ≤ 10) (hy : -10 ≤ y ∧ y ≤ 10) : CALL ΩM (d + 2) kX6_step [.ref 0, .int (nI c), .int (zI x), .int (zI y)] I J (PQ (.int (nI (obN (cat w h (cxx w c + x) (cyy w c + y))))) I J) := by
  have n16 := (WH_n hW).2
  have hat := sp_X6_at (d := d) (J := J) hW hc hx hy
  refine call_of_wp (by decide) (Nat.le_of_ble_eq_true rfl) ?_
  cases ho : cat w h (cxx w c + x) (cyy w c + y) with
  | none =>
    rw [ho] at hat
    refine wp_aload_n (pc := 0) (i := 0) dX6_step_0 rfl rfl (by first | with_reducible assumption | rfl) ?_
    refine wp_iload_n (pc := 1) (i := 1) dX6_step_1 rfl rfl ?_
    refine wp_iload_n (pc := 2) (i := 2) dX6_step_2 rfl rfl ?_
    refine wp_iload_n (pc := 3) (i := 3) dX6_step_3 rfl rfl ?_
    refine wp_cVP3 (pc := 4) (ci := 6) dX6_step_4 lm_X6_97 m_X6_at (by first | with_reducible assumption | rfl) (by first | with_reducible assumption | rfl) (by decide) rfl (Nat.le_of_ble_eq_true rfl) hat ?_
    show WP ΩM _ _ _ _ (.int (-9) :: _) _ _ _
    refine wp_istore (pc := 7) dX6_step_7 (by decide) ?_
    refine wp_iload (pc := 9) dX6_step_9 rfl ?_
    refine wp_bipush (pc := 11) (v := (-9)) dX6_step_11 (by decide +kernel) ?_
    refine wp_icmp_ne (pc := 13) (tgt := 20) dX6_step_13 (by decide) (fun c_13 => ?_) (fun c_13 => ?_)
    · exact absurd rfl c_13
    · refine wp_iconst (pc := 16) (v := nI 0) dX6_step_16 (by decide +kernel) ?_
      refine wp_goto (pc := 17) (tgt := 24) dX6_step_17 (by decide) ?_
      refine wp_ireturn (pc := 24) dX6_step_24 rfl ?_
      exact pq_i rfl
  | some q =>
    have hq := cat_lt ho
    have hne : ¬ nI q = -9 := fun z => nI_pos (n := q) (by omega) (by rw [z]; decide)
    rw [ho] at hat
    refine wp_aload_n (pc := 0) (i := 0) dX6_step_0 rfl rfl (by first | with_reducible assumption | rfl) ?_
    refine wp_iload_n (pc := 1) (i := 1) dX6_step_1 rfl rfl ?_
    refine wp_iload_n (pc := 2) (i := 2) dX6_step_2 rfl rfl ?_
    refine wp_iload_n (pc := 3) (i := 3) dX6_step_3 rfl rfl ?_
    refine wp_cVP3 (pc := 4) (ci := 6) dX6_step_4 lm_X6_97 m_X6_at (by first | with_reducible assumption | rfl) (by first | with_reducible assumption | rfl) (by decide) rfl (Nat.le_of_ble_eq_true rfl) hat ?_
    show WP ΩM _ _ _ _ (.int (nI q) :: _) _ _ _
    refine wp_istore (pc := 7) dX6_step_7 (by decide) ?_
    refine wp_iload (pc := 9) dX6_step_9 rfl ?_
    refine wp_bipush (pc := 11) (v := (-9)) dX6_step_11 (by decide +kernel) ?_
    refine wp_icmp_ne (pc := 13) (tgt := 20) dX6_step_13 (by decide) (fun c_13 => ?_) (fun c_13 => ?_)
    · refine wp_iconst (pc := 20) (v := nI 1) dX6_step_20 (by decide +kernel) ?_
      refine wp_iload (pc := 21) dX6_step_21 rfl ?_
      first | (refine wp_ishl1 (pc := 23) dX6_step_23 (by first | with_reducible assumption | omega) ?_) | (refine wp_ishlN (pc := 23) dX6_step_23 (by first | with_reducible assumption | omega) (by first | with_reducible assumption | omega) ?_) | (refine wp_ishl (pc := 23) dX6_step_23 ?_)
      refine wp_ireturn (pc := 24) dX6_step_24 rfl ?_
      exact pq_i rfl
    · exact absurd c_13 hne
set_option maxHeartbeats 16000000 in
theorem sp_X6_isFree {n k c : Nat} {b : Bd} {nb : Bool} (hL : LV n k b I) (hs : ∀ c, c < 16 → b.1 c < 12) (hn : n ≤ 16) (hk : k < 4) (hc : c < n) : CALL ΩM d kX6_isFree [.ref 0, .int (nI k), .int (nI c), .int (bI nb)] I J (PQ (.int (bI (!nfr nb b.1 c))) I J) := by
  have e := (hL.1 c hc).1
  have hsc := hs c (by omega)
  have ha := asc_lt (b.1 c)
  have a0 := asc_0 _ hsc
  have a1 := asc_1 _ hsc
  refine call_of_wp (by decide) (Nat.le_of_ble_eq_true rfl) ?_
  cases nb
  · have eN : nfr false b.1 c = decide (¬ b.1 c = 0) := by rw [← ful_0]; rfl
    rw [eN]
    refine wp_aload_n (pc := 0) (i := 0) dX6_isFree_0 rfl rfl (by first | with_reducible assumption | rfl) ?_
    refine wp_getR (pc := 1) dX6_isFree_1 lf_X6_7 (by first | with_reducible assumption | rfl) (by first | with_reducible assumption | rfl) rfl (by first | with_reducible assumption | rfl) (by first | with_reducible assumption | rfl) ?_
    refine wp_bipush (pc := 4) (v := nI 16) dX6_isFree_4 (by decide +kernel) ?_
    refine wp_iload_n (pc := 6) (i := 1) dX6_isFree_6 rfl rfl ?_
    first | (refine wp_imulN (pc := 7) dX6_isFree_7 ?_) | (refine wp_imul (pc := 7) dX6_isFree_7 ?_)
    refine wp_iload_n (pc := 8) (i := 2) dX6_isFree_8 rfl rfl ?_
    first | (refine wp_iaddN (pc := 9) dX6_isFree_9 ?_) | (refine wp_iadd (pc := 9) dX6_isFree_9 ?_)
    refine wp_iald (pc := 10) dX6_isFree_10 (by first | with_reducible assumption | rfl) (by first | with_reducible assumption | rfl) (by first | with_reducible assumption | omega) (by first | decide | omega) ?_
    rw [e]
    refine wp_bipush (pc := 11) (v := nI 46) dX6_isFree_11 (by decide +kernel) ?_
    first | (refine wp_icmp_eqN (pc := 13) (tgt := 36) dX6_isFree_13 (by decide) (by first | with_reducible assumption | omega) (by first | with_reducible assumption | omega) (fun c_13 => ?_) (fun c_13 => ?_)) | (refine wp_icmp_eq (pc := 13) (tgt := 36) dX6_isFree_13 (by decide) (fun c_13 => ?_) (fun c_13 => ?_))
    · refine wp_iconst (pc := 36) (v := nI 1) dX6_isFree_36 (by decide +kernel) ?_
      refine wp_goto (pc := 37) (tgt := 41) dX6_isFree_37 (by decide) ?_
      refine wp_zreturn (pc := 41) dX6_isFree_41 rfl (by first | exact bI_narrow _ | exact nI_narrow01 (by omega) | decide +kernel | assumption) ?_
      first
        | (have g : asc (b.1 c) = 46 := c_13; exact pq_i (by rw [decide_eq_false (fun z => z (a0.mp g))]; rfl))
        | (have g : ¬ asc (b.1 c) = 46 := c_13; exact pq_i (by rw [show decide (¬ b.1 c = 0) = true from decide_eq_true (fun z => g (a0.mpr z))]; rfl))
    · refine wp_iload_n (pc := 16) (i := 3) dX6_isFree_16 rfl rfl ?_
      refine wp_if_eqB (pc := 17) (tgt := 40) dX6_isFree_17 (by decide) (fun c_17 => ?_) (fun c_17 => ?_)
      · refine wp_iconst (pc := 40) (v := nI 0) dX6_isFree_40 (by decide +kernel) ?_
        refine wp_zreturn (pc := 41) dX6_isFree_41 rfl (by first | exact bI_narrow _ | exact nI_narrow01 (by omega) | decide +kernel | assumption) ?_
        first
          | (have g : asc (b.1 c) = 46 := c_13; exact pq_i (by rw [decide_eq_false (fun z => z (a0.mp g))]; rfl))
          | (have g : ¬ asc (b.1 c) = 46 := c_13; exact pq_i (by rw [show decide (¬ b.1 c = 0) = true from decide_eq_true (fun z => g (a0.mpr z))]; rfl))
      · exact Bool.noConfusion c_17
  · have eN : nfr true b.1 c = decide (b.1 c = 1) := rfl
    rw [eN]
    refine wp_aload_n (pc := 0) (i := 0) dX6_isFree_0 rfl rfl (by first | with_reducible assumption | rfl) ?_
    refine wp_getR (pc := 1) dX6_isFree_1 lf_X6_7 (by first | with_reducible assumption | rfl) (by first | with_reducible assumption | rfl) rfl (by first | with_reducible assumption | rfl) (by first | with_reducible assumption | rfl) ?_
    refine wp_bipush (pc := 4) (v := nI 16) dX6_isFree_4 (by decide +kernel) ?_
    refine wp_iload_n (pc := 6) (i := 1) dX6_isFree_6 rfl rfl ?_
    first | (refine wp_imulN (pc := 7) dX6_isFree_7 ?_) | (refine wp_imul (pc := 7) dX6_isFree_7 ?_)
    refine wp_iload_n (pc := 8) (i := 2) dX6_isFree_8 rfl rfl ?_
    first | (refine wp_iaddN (pc := 9) dX6_isFree_9 ?_) | (refine wp_iadd (pc := 9) dX6_isFree_9 ?_)
    refine wp_iald (pc := 10) dX6_isFree_10 (by first | with_reducible assumption | rfl) (by first | with_reducible assumption | rfl) (by first | with_reducible assumption | omega) (by first | decide | omega) ?_
    rw [e]
    refine wp_bipush (pc := 11) (v := nI 46) dX6_isFree_11 (by decide +kernel) ?_
    first | (refine wp_icmp_eqN (pc := 13) (tgt := 36) dX6_isFree_13 (by decide) (by first | with_reducible assumption | omega) (by first | with_reducible assumption | omega) (fun c_13 => ?_) (fun c_13 => ?_)) | (refine wp_icmp_eq (pc := 13) (tgt := 36) dX6_isFree_13 (by decide) (fun c_13 => ?_) (fun c_13 => ?_))
    · refine wp_iconst (pc := 36) (v := nI 1) dX6_isFree_36 (by decide +kernel) ?_
      refine wp_goto (pc := 37) (tgt := 41) dX6_isFree_37 (by decide) ?_
      refine wp_zreturn (pc := 41) dX6_isFree_41 rfl (by first | exact bI_narrow _ | exact nI_narrow01 (by omega) | decide +kernel | assumption) ?_
      first
        | (have g : asc (b.1 c) = 46 := c_13; exact pq_i (by rw [decide_eq_false (fun z => by rw [a0] at g; omega)]; rfl))
        | (have g : asc (b.1 c) = 35 := c_33; exact pq_i (by rw [decide_eq_true (a1.mp g)]; rfl))
        | (have g : ¬ asc (b.1 c) = 35 := c_33; exact pq_i (by rw [decide_eq_false (fun z => g (a1.mpr z))]; rfl))
    · refine wp_iload_n (pc := 16) (i := 3) dX6_isFree_16 rfl rfl ?_
      refine wp_if_eqB (pc := 17) (tgt := 40) dX6_isFree_17 (by decide) (fun c_17 => ?_) (fun c_17 => ?_)
      · exact Bool.noConfusion c_17
      · refine wp_aload_n (pc := 20) (i := 0) dX6_isFree_20 rfl rfl (by first | with_reducible assumption | rfl) ?_
        refine wp_getR (pc := 21) dX6_isFree_21 lf_X6_7 (by first | with_reducible assumption | rfl) (by first | with_reducible assumption | rfl) rfl (by first | with_reducible assumption | rfl) (by first | with_reducible assumption | rfl) ?_
        refine wp_bipush (pc := 24) (v := nI 16) dX6_isFree_24 (by decide +kernel) ?_
        refine wp_iload_n (pc := 26) (i := 1) dX6_isFree_26 rfl rfl ?_
        first | (refine wp_imulN (pc := 27) dX6_isFree_27 ?_) | (refine wp_imul (pc := 27) dX6_isFree_27 ?_)
        refine wp_iload_n (pc := 28) (i := 2) dX6_isFree_28 rfl rfl ?_
        first | (refine wp_iaddN (pc := 29) dX6_isFree_29 ?_) | (refine wp_iadd (pc := 29) dX6_isFree_29 ?_)
        refine wp_iald (pc := 30) dX6_isFree_30 (by first | with_reducible assumption | rfl) (by first | with_reducible assumption | rfl) (by first | with_reducible assumption | omega) (by first | decide | omega) ?_
        rw [e]
        refine wp_bipush (pc := 31) (v := nI 35) dX6_isFree_31 (by decide +kernel) ?_
        first | (refine wp_icmp_eqN (pc := 33) (tgt := 40) dX6_isFree_33 (by decide) (by first | with_reducible assumption | omega) (by first | with_reducible assumption | omega) (fun c_33 => ?_) (fun c_33 => ?_)) | (refine wp_icmp_eq (pc := 33) (tgt := 40) dX6_isFree_33 (by decide) (fun c_33 => ?_) (fun c_33 => ?_))
        · refine wp_iconst (pc := 40) (v := nI 0) dX6_isFree_40 (by decide +kernel) ?_
          refine wp_zreturn (pc := 41) dX6_isFree_41 rfl (by first | exact bI_narrow _ | exact nI_narrow01 (by omega) | decide +kernel | assumption) ?_
          first
            | (have g : asc (b.1 c) = 46 := c_13; exact pq_i (by rw [decide_eq_false (fun z => by rw [a0] at g; omega)]; rfl))
            | (have g : asc (b.1 c) = 35 := c_33; exact pq_i (by rw [decide_eq_true (a1.mp g)]; rfl))
            | (have g : ¬ asc (b.1 c) = 35 := c_33; exact pq_i (by rw [decide_eq_false (fun z => g (a1.mpr z))]; rfl))
        · refine wp_iconst (pc := 36) (v := nI 1) dX6_isFree_36 (by decide +kernel) ?_
          refine wp_goto (pc := 37) (tgt := 41) dX6_isFree_37 (by decide) ?_
          refine wp_zreturn (pc := 41) dX6_isFree_41 rfl (by first | exact bI_narrow _ | exact nI_narrow01 (by omega) | decide +kernel | assumption) ?_
          first
            | (have g : asc (b.1 c) = 46 := c_13; exact pq_i (by rw [decide_eq_false (fun z => by rw [a0] at g; omega)]; rfl))
            | (have g : asc (b.1 c) = 35 := c_33; exact pq_i (by rw [decide_eq_true (a1.mp g)]; rfl))
            | (have g : ¬ asc (b.1 c) = 35 := c_33; exact pq_i (by rw [decide_eq_false (fun z => g (a1.mpr z))]; rfl))
end MLF
