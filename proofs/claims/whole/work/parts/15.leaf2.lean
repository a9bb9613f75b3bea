/-! LEAVES, 2 -/
section L2A
variable {Ω : Shp} {d : Nat} {K : Mth} {pc : Nat} {L : Lcs} {S : List Value} {I : MemI} {J : MemJ} {Q : Pst}
theorem wp_weak {L' : Lcs} (h : ∀ q ∈ L', q ∈ L) (k : WP Ω d K pc L' S I J Q) : WP Ω d K pc L S I J Q := by
  intro l G cA A fm p e s m args below meth c H locs ls X hP hS hl
  refine k l G cA A fm p e s m args below meth c H locs ls X hP hS (hl.less fun q hq => ?_)
  obtain ⟨x, hx, rfl⟩ := List.mem_map.mp hq
  exact List.mem_map.mpr ⟨x, h x hx, rfl⟩
/-- the locals from n on are no longer asked for -/
theorem wp_drop (n : Nat) (k : WP Ω d K pc (L.filter (fun q => Nat.blt q.1 n)) S I J Q) : WP Ω d K pc L S I J Q :=
  wp_weak (fun _ hq => (List.mem_filter.mp hq).1) k
theorem wp_post {Q' : Pst} (h : ∀ r I' J', Q r I' J' → Q' r I' J') (k : WP Ω d K pc L S I J Q) : WP Ω d K pc L S I J Q' := by
  intro l G cA A fm p e s m args below meth c H locs ls X hP hS hl T hT XT
  obtain ⟨t, st, o, h1, h2, ⟨⟨r, I', J', e1, hq, hp⟩, hF⟩, h3⟩ := k l G cA A fm p e s m args below meth c H locs ls X hP hS hl T hT XT
  exact ⟨t, st, o, h1, h2, ⟨⟨r, I', J', e1, h r I' J' hq, hp⟩, hF⟩, h3⟩
end L2A
/-- a set with one place changed -/
def upB (P : Nat → Bool) (c : Nat) (b : Bool) : Nat → Bool := fun i => if i = c then b else P i
theorem set_t {P : Nat → Bool} {c : Nat} (h : c < 16) : mset P ||| 2 ^ c = mset (upB P c true) := by
  rw [mset_one h, mset_or]
  refine mset_eq fun i _ => ?_
  by_cases hi : i = c <;> simp [upB, hi]
theorem set_f {P : Nat → Bool} {c : Nat} (h : c < 16) : nI (mset P) &&& (nI (2 ^ c) ^^^ (-1)) = nI (mset (upB P c false)) := by
  rw [mset_one h, mset_minus]
  congr 1
  refine mset_eq fun i _ => ?_
  by_cases hi : i = c <;> simp [upB, hi]
/-- ints by whole numbers -/
def zI (z : Int) : Int32 := Int32.ofInt z
theorem zI_n (n : Nat) : nI n = zI n := rfl
theorem zI_ti {z : Int} (h1 : -1000000 ≤ z) (h2 : z ≤ 1000000) : (zI z).toInt = z := by
  unfold zI
  exact Int32.toInt_ofInt_of_le (by have : Int32.minValue.toInt = -2147483648 := by decide
                                    omega) (by have : Int32.maxValue.toInt = 2147483647 := by decide
                                               omega)
theorem zI_lt {a b : Int} (h1 : -1000000 ≤ a ∧ a ≤ 1000000) (h2 : -1000000 ≤ b ∧ b ≤ 1000000) : zI a < zI b ↔ a < b := by
  rw [Int32.lt_iff_toInt_lt, zI_ti h1.1 h1.2, zI_ti h2.1 h2.2]
theorem zI_le {a b : Int} (h1 : -1000000 ≤ a ∧ a ≤ 1000000) (h2 : -1000000 ≤ b ∧ b ≤ 1000000) : zI a ≤ zI b ↔ a ≤ b := by
  rw [Int32.le_iff_toInt_le, zI_ti h1.1 h1.2, zI_ti h2.1 h2.2]
theorem zI_eq {a b : Int} (h1 : -1000000 ≤ a ∧ a ≤ 1000000) (h2 : -1000000 ≤ b ∧ b ≤ 1000000) : zI a = zI b ↔ a = b := by
  rw [← Int32.toInt_inj, zI_ti h1.1 h1.2, zI_ti h2.1 h2.2]
theorem zI_add (a b : Int) : zI a + zI b = zI (a + b) := by
  unfold zI; rw [Int32.ofInt_add]
theorem zI_sub (a b : Int) : zI a - zI b = zI (a - b) := by
  unfold zI; rw [Int32.ofInt_sub]
theorem zI_mul (a b : Int) : zI a * zI b = zI (a * b) := by
  unfold zI; rw [Int32.ofInt_mul]
theorem zI_0 : (0 : Int32) = zI 0 := by decide +kernel
/-- a cell or none -/
def ocI (o : Option Nat) : Int32 := match o with
  | none => -1
  | some c => nI c
def obN (o : Option Nat) : Nat := match o with
  | none => 0
  | some c => 2 ^ c
/-- the cell at (x, y) of a board of w times h -/
def cat (w h : Nat) (x y : Int) : Option Nat := if 0 ≤ x ∧ x < w ∧ 0 ≤ y ∧ y < h then some (y.toNat * w + x.toNat) else none
theorem cat_t {w h : Nat} {x y : Int} (h1 : 0 ≤ x ∧ x < w ∧ 0 ≤ y ∧ y < h) : zI y * nI w + zI x = ocI (cat w h x y) := by
  rw [cat, if_pos h1, zI_n, zI_mul, zI_add]
  show zI _ = nI _
  rw [zI_n]
  congr 1
  rw [Int.natCast_add, Int.natCast_mul, Int.toNat_of_nonneg h1.1, Int.toNat_of_nonneg h1.2.2.1]
theorem cat_f {w h : Nat} {x y : Int} (h1 : ¬ (0 ≤ x ∧ x < w ∧ 0 ≤ y ∧ y < h)) : (-1 : Int32) = ocI (cat w h x y) := by
  rw [cat, if_neg h1]; rfl
theorem cat_lt {w h c : Nat} {x y : Int} (hc : cat w h x y = some c) : c < w * h := by
  unfold cat at hc
  split at hc
  · rename_i h1
    cases hc
    have e1 : x.toNat < w := by omega
    have e2 : y.toNat + 1 ≤ h := by omega
    have e3 : (y.toNat + 1) * w ≤ h * w := Nat.mul_le_mul_right w e2
    rw [Nat.add_mul, Nat.one_mul] at e3
    rw [Nat.mul_comm w h]
    omega
  · cases hc
section L2B
variable {Ω : Shp} {d : Nat} {I : MemI} {J : MemJ}
set_option maxHeartbeats 16000000 in
theorem sp_X2_with {P : Nat → Bool} {c : Nat} {b : Bool} (hc : c < 16) : CALL Ω d kX2_with [.int (nI (mset P)), .int (nI (2 ^ c)), .int (bI b)] I J (PQ (.int (nI (mset (upB P c b)))) I J) := by
  refine call_of_wp (by decide) (Nat.le_of_ble_eq_true rfl) ?_
  refine wp_iload_n (pc := 0) (i := 2) dX2_with_0 rfl rfl ?_
  first | (refine wp_if_eqB (pc := 1) (tgt := 10) dX2_with_1 (by decide) (fun c_1 => ?_) (fun c_1 => ?_)) | (refine wp_if_eqN (pc := 1) (tgt := 10) dX2_with_1 (by decide) (by first | with_reducible assumption | omega) (fun c_1 => ?_) (fun c_1 => ?_)) | (refine wp_if_eq (pc := 1) (tgt := 10) dX2_with_1 (by decide) (fun c_1 => ?_) (fun c_1 => ?_))
  · refine wp_iload_n (pc := 10) (i := 0) dX2_with_10 rfl rfl ?_
    refine wp_iload_n (pc := 11) (i := 1) dX2_with_11 rfl rfl ?_
    refine wp_iconst (pc := 12) (v := (-1)) dX2_with_12 (by decide +kernel) ?_
    refine wp_ixor (pc := 13) dX2_with_13 ?_
    first | (refine wp_iandN (pc := 14) dX2_with_14 ?_) | (refine wp_iand (pc := 14) dX2_with_14 ?_)
    refine wp_ireturn (pc := 15) dX2_with_15 rfl ?_
    first | exact pq_i (by rw [c_1]; exact congrArg nI (set_t hc)) | exact pq_i (by rw [c_1]; exact set_f hc)
  · refine wp_iload_n (pc := 4) (i := 0) dX2_with_4 rfl rfl ?_
    refine wp_iload_n (pc := 5) (i := 1) dX2_with_5 rfl rfl ?_
    first | (refine wp_iorN (pc := 6) dX2_with_6 ?_) | (refine wp_ior (pc := 6) dX2_with_6 ?_)
    refine wp_goto (pc := 7) (tgt := 15) dX2_with_7 (by decide) ?_
    refine wp_ireturn (pc := 15) dX2_with_15 rfl ?_
    first | exact pq_i (by rw [c_1]; exact congrArg nI (set_t hc)) | exact pq_i (by rw [c_1]; exact set_f hc)
set_option maxHeartbeats 16000000 in
theorem sp_X2_nibble {N c : Nat} (hN : N < 18446744073709551616) (hc : c < 16) : CALL Ω d kX2_nibble [.long (lN N), .int (nI c)] I J (PQ (.int (nI (N / 2 ^ (4 * c) % 16))) I J) := by
  refine call_of_wp (by decide) (Nat.le_of_ble_eq_true rfl) ?_
  refine wp_lload_n (pc := 0) (i := 0) dX2_nibble_0 rfl rfl ?_
  refine wp_iconst (pc := 1) (v := nI 4) dX2_nibble_1 (by decide +kernel) ?_
  refine wp_iload_n (pc := 2) (i := 2) dX2_nibble_2 rfl rfl ?_
  first | (refine wp_imulN (pc := 3) dX2_nibble_3 ?_) | (refine wp_imul (pc := 3) dX2_nibble_3 ?_)
  first | (refine wp_lushrN (pc := 4) dX2_nibble_4 (by first | with_reducible assumption | omega) (by first | with_reducible assumption | omega) ?_) | (refine wp_lushr (pc := 4) dX2_nibble_4 ?_)
  first | (refine wp_l2iN (pc := 5) dX2_nibble_5 ?_) | (refine wp_l2i (pc := 5) dX2_nibble_5 ?_)
  refine wp_bipush (pc := 6) (v := nI 15) dX2_nibble_6 (by decide +kernel) ?_
  first | (refine wp_iandN (pc := 8) dX2_nibble_8 ?_) | (refine wp_iand (pc := 8) dX2_nibble_8 ?_)
  refine wp_ireturn (pc := 9) dX2_nibble_9 rfl ?_
  exact pq_i (by rw [and_15])
set_option maxHeartbeats 16000000 in
theorem sp_X0_bitOf {o : Option Nat} (ho : ∀ c, o = some c → c < 16) : CALL Ω d kX0_bitOf [.int (ocI o)] I J (PQ (.int (nI (obN o))) I J) := by
  refine call_of_wp (by decide) (Nat.le_of_ble_eq_true rfl) ?_
  cases o with
  | none =>
    show WP Ω d kX0_bitOf 0 [(0, .int (-1))] [] I J _
    refine wp_iload_n (pc := 0) (i := 0) dX0_bitOf_0 rfl rfl ?_
    refine wp_iconst (pc := 1) (v := (-1)) dX0_bitOf_1 (by decide +kernel) ?_
    first | (refine wp_icmp_neN (pc := 2) (tgt := 9) dX0_bitOf_2 (by decide) (by first | with_reducible assumption | omega) (by first | with_reducible assumption | omega) (fun c_2 => ?_) (fun c_2 => ?_)) | (refine wp_icmp_ne (pc := 2) (tgt := 9) dX0_bitOf_2 (by decide) (fun c_2 => ?_) (fun c_2 => ?_))
    · exact absurd rfl c_2
    · refine wp_iconst (pc := 5) (v := nI 0) dX0_bitOf_5 (by decide +kernel) ?_
      refine wp_goto (pc := 6) (tgt := 12) dX0_bitOf_6 (by decide) ?_
      refine wp_ireturn (pc := 12) dX0_bitOf_12 rfl ?_
      exact pq_i rfl
  | some c =>
    have hc := ho c rfl
    show WP Ω d kX0_bitOf 0 [(0, .int (nI c))] [] I J _
    refine wp_iload_n (pc := 0) (i := 0) dX0_bitOf_0 rfl rfl ?_
    refine wp_iconst (pc := 1) (v := (-1)) dX0_bitOf_1 (by decide +kernel) ?_
    first | (refine wp_icmp_neN (pc := 2) (tgt := 9) dX0_bitOf_2 (by decide) (by first | with_reducible assumption | omega) (by first | with_reducible assumption | omega) (fun c_2 => ?_) (fun c_2 => ?_)) | (refine wp_icmp_ne (pc := 2) (tgt := 9) dX0_bitOf_2 (by decide) (fun c_2 => ?_) (fun c_2 => ?_))
    · refine wp_iconst (pc := 9) (v := nI 1) dX0_bitOf_9 (by decide +kernel) ?_
      refine wp_iload_n (pc := 10) (i := 0) dX0_bitOf_10 rfl rfl ?_
      first | (refine wp_ishl1 (pc := 11) dX0_bitOf_11 (by first | with_reducible assumption | omega) ?_) | (refine wp_ishlN (pc := 11) dX0_bitOf_11 (by first | with_reducible assumption | omega) (by first | with_reducible assumption | omega) ?_) | (refine wp_ishl (pc := 11) dX0_bitOf_11 ?_)
      refine wp_ireturn (pc := 12) dX0_bitOf_12 rfl ?_
      exact pq_i rfl
    · exact absurd c_2 (fun z => nI_pos (n := c) (by omega) (by rw [z]; decide))
set_option maxHeartbeats 16000000 in
theorem sp_X0_cellAt {x y : Int} {w h : Nat} (hx : -1000 ≤ x ∧ x ≤ 1000) (hy : -1000 ≤ y ∧ y ≤ 1000) (hw : I 3 5 = nI w) (hh : I 3 6 = nI h) (hw4 : w ≤ 4) (hh4 : h ≤ 4) : CALL ΩC d kX0_cellAt [.ref 3, .int (zI x), .int (zI y)] I J (PQ (.int (ocI (cat w h x y))) I J) := by
  have bx : -1000000 ≤ x ∧ x ≤ 1000000 := ⟨by omega, by omega⟩
  have bY : -1000000 ≤ y ∧ y ≤ 1000000 := ⟨by omega, by omega⟩
  have bw : -1000000 ≤ (w : Int) ∧ (w : Int) ≤ 1000000 := ⟨by omega, by omega⟩
  have bh : -1000000 ≤ (h : Int) ∧ (h : Int) ≤ 1000000 := ⟨by omega, by omega⟩
  have b0 : -1000000 ≤ (0 : Int) ∧ (0 : Int) ≤ 1000000 := ⟨by omega, by omega⟩
  refine call_of_wp (by decide) (Nat.le_of_ble_eq_true rfl) ?_
  refine wp_iload_n (pc := 0) (i := 1) dX0_cellAt_0 rfl rfl ?_
  refine wp_if_lt (pc := 1) (tgt := 28) dX0_cellAt_1 (by decide) (fun c_1 => ?_) (fun c_1 => ?_)
  all_goals (rw [zI_0, zI_lt bx b0] at c_1)
  · refine wp_iconst (pc := 28) (v := nI 0) dX0_cellAt_28 (by decide +kernel) ?_
    refine wp_istore_n (pc := 29) (i := 3) dX0_cellAt_29 rfl (by decide) ?_
    refine wp_iload_n (pc := 30) (i := 3) dX0_cellAt_30 rfl rfl ?_
    refine wp_if_eqN (pc := 31) (tgt := 45) dX0_cellAt_31 (by decide) (by first | with_reducible assumption | omega) (fun c_31 => ?_) (fun c_31 => ?_)
    · refine wp_iconst (pc := 45) (v := (-1)) dX0_cellAt_45 (by decide +kernel) ?_
      refine wp_ireturn (pc := 46) dX0_cellAt_46 rfl ?_
      first | exact pq_i (cat_f (by omega)) | exact pq_i (cat_t (by omega))
    · refine wp_iload_n (pc := 34) (i := 2) dX0_cellAt_34 rfl rfl ?_
      refine wp_aload_n (pc := 35) (i := 0) dX0_cellAt_35 rfl rfl (by first | with_reducible assumption | rfl) ?_
      refine wp_getI (pc := 36) dX0_cellAt_36 lf_X0_27 (by first | with_reducible assumption | rfl) (by first | with_reducible assumption | rfl) rfl ?_
      rw [hw]
      refine wp_imul (pc := 39) dX0_cellAt_39 ?_
      refine wp_iload_n (pc := 40) (i := 1) dX0_cellAt_40 rfl rfl ?_
      refine wp_iadd (pc := 41) dX0_cellAt_41 ?_
      refine wp_goto (pc := 42) (tgt := 46) dX0_cellAt_42 (by decide) ?_
      refine wp_ireturn (pc := 46) dX0_cellAt_46 rfl ?_
      first | exact pq_i (cat_f (by omega)) | exact pq_i (cat_t (by omega))
  · refine wp_iload_n (pc := 4) (i := 1) dX0_cellAt_4 rfl rfl ?_
    refine wp_aload_n (pc := 5) (i := 0) dX0_cellAt_5 rfl rfl (by first | with_reducible assumption | rfl) ?_
    refine wp_getI (pc := 6) dX0_cellAt_6 lf_X0_27 (by first | with_reducible assumption | rfl) (by first | with_reducible assumption | rfl) rfl ?_
    rw [hw]
    refine wp_icmp_ge (pc := 9) (tgt := 28) dX0_cellAt_9 (by decide) (fun c_9 => ?_) (fun c_9 => ?_)
    all_goals (rw [zI_n, zI_le bw bx] at c_9)
    · refine wp_iconst (pc := 28) (v := nI 0) dX0_cellAt_28 (by decide +kernel) ?_
      refine wp_istore_n (pc := 29) (i := 3) dX0_cellAt_29 rfl (by decide) ?_
      refine wp_iload_n (pc := 30) (i := 3) dX0_cellAt_30 rfl rfl ?_
      refine wp_if_eqN (pc := 31) (tgt := 45) dX0_cellAt_31 (by decide) (by first | with_reducible assumption | omega) (fun c_31 => ?_) (fun c_31 => ?_)
      · refine wp_iconst (pc := 45) (v := (-1)) dX0_cellAt_45 (by decide +kernel) ?_
        refine wp_ireturn (pc := 46) dX0_cellAt_46 rfl ?_
        first | exact pq_i (cat_f (by omega)) | exact pq_i (cat_t (by omega))
      · refine wp_iload_n (pc := 34) (i := 2) dX0_cellAt_34 rfl rfl ?_
        refine wp_aload_n (pc := 35) (i := 0) dX0_cellAt_35 rfl rfl (by first | with_reducible assumption | rfl) ?_
        refine wp_getI (pc := 36) dX0_cellAt_36 lf_X0_27 (by first | with_reducible assumption | rfl) (by first | with_reducible assumption | rfl) rfl ?_
        rw [hw]
        refine wp_imul (pc := 39) dX0_cellAt_39 ?_
        refine wp_iload_n (pc := 40) (i := 1) dX0_cellAt_40 rfl rfl ?_
        refine wp_iadd (pc := 41) dX0_cellAt_41 ?_
        refine wp_goto (pc := 42) (tgt := 46) dX0_cellAt_42 (by decide) ?_
        refine wp_ireturn (pc := 46) dX0_cellAt_46 rfl ?_
        first | exact pq_i (cat_f (by omega)) | exact pq_i (cat_t (by omega))
    · refine wp_iload_n (pc := 12) (i := 2) dX0_cellAt_12 rfl rfl ?_
      refine wp_if_lt (pc := 13) (tgt := 28) dX0_cellAt_13 (by decide) (fun c_13 => ?_) (fun c_13 => ?_)
      all_goals (rw [zI_0, zI_lt bY b0] at c_13)
      · refine wp_iconst (pc := 28) (v := nI 0) dX0_cellAt_28 (by decide +kernel) ?_
        refine wp_istore_n (pc := 29) (i := 3) dX0_cellAt_29 rfl (by decide) ?_
        refine wp_iload_n (pc := 30) (i := 3) dX0_cellAt_30 rfl rfl ?_
        refine wp_if_eqN (pc := 31) (tgt := 45) dX0_cellAt_31 (by decide) (by first | with_reducible assumption | omega) (fun c_31 => ?_) (fun c_31 => ?_)
        · refine wp_iconst (pc := 45) (v := (-1)) dX0_cellAt_45 (by decide +kernel) ?_
          refine wp_ireturn (pc := 46) dX0_cellAt_46 rfl ?_
          first | exact pq_i (cat_f (by omega)) | exact pq_i (cat_t (by omega))
        · refine wp_iload_n (pc := 34) (i := 2) dX0_cellAt_34 rfl rfl ?_
          refine wp_aload_n (pc := 35) (i := 0) dX0_cellAt_35 rfl rfl (by first | with_reducible assumption | rfl) ?_
          refine wp_getI (pc := 36) dX0_cellAt_36 lf_X0_27 (by first | with_reducible assumption | rfl) (by first | with_reducible assumption | rfl) rfl ?_
          rw [hw]
          refine wp_imul (pc := 39) dX0_cellAt_39 ?_
          refine wp_iload_n (pc := 40) (i := 1) dX0_cellAt_40 rfl rfl ?_
          refine wp_iadd (pc := 41) dX0_cellAt_41 ?_
          refine wp_goto (pc := 42) (tgt := 46) dX0_cellAt_42 (by decide) ?_
          refine wp_ireturn (pc := 46) dX0_cellAt_46 rfl ?_
          first | exact pq_i (cat_f (by omega)) | exact pq_i (cat_t (by omega))
      · refine wp_iload_n (pc := 16) (i := 2) dX0_cellAt_16 rfl rfl ?_
        refine wp_aload_n (pc := 17) (i := 0) dX0_cellAt_17 rfl rfl (by first | with_reducible assumption | rfl) ?_
        refine wp_getI (pc := 18) dX0_cellAt_18 lf_X0_31 (by first | with_reducible assumption | rfl) (by first | with_reducible assumption | rfl) rfl ?_
        rw [hh]
        refine wp_icmp_ge (pc := 21) (tgt := 28) dX0_cellAt_21 (by decide) (fun c_21 => ?_) (fun c_21 => ?_)
        all_goals (rw [zI_n, zI_le bh bY] at c_21)
        · refine wp_iconst (pc := 28) (v := nI 0) dX0_cellAt_28 (by decide +kernel) ?_
          refine wp_istore_n (pc := 29) (i := 3) dX0_cellAt_29 rfl (by decide) ?_
          refine wp_iload_n (pc := 30) (i := 3) dX0_cellAt_30 rfl rfl ?_
          refine wp_if_eqN (pc := 31) (tgt := 45) dX0_cellAt_31 (by decide) (by first | with_reducible assumption | omega) (fun c_31 => ?_) (fun c_31 => ?_)
          · refine wp_iconst (pc := 45) (v := (-1)) dX0_cellAt_45 (by decide +kernel) ?_
            refine wp_ireturn (pc := 46) dX0_cellAt_46 rfl ?_
            first | exact pq_i (cat_f (by omega)) | exact pq_i (cat_t (by omega))
          · refine wp_iload_n (pc := 34) (i := 2) dX0_cellAt_34 rfl rfl ?_
            refine wp_aload_n (pc := 35) (i := 0) dX0_cellAt_35 rfl rfl (by first | with_reducible assumption | rfl) ?_
            refine wp_getI (pc := 36) dX0_cellAt_36 lf_X0_27 (by first | with_reducible assumption | rfl) (by first | with_reducible assumption | rfl) rfl ?_
            rw [hw]
            refine wp_imul (pc := 39) dX0_cellAt_39 ?_
            refine wp_iload_n (pc := 40) (i := 1) dX0_cellAt_40 rfl rfl ?_
            refine wp_iadd (pc := 41) dX0_cellAt_41 ?_
            refine wp_goto (pc := 42) (tgt := 46) dX0_cellAt_42 (by decide) ?_
            refine wp_ireturn (pc := 46) dX0_cellAt_46 rfl ?_
            first | exact pq_i (cat_f (by omega)) | exact pq_i (cat_t (by omega))
        · refine wp_iconst (pc := 24) (v := nI 1) dX0_cellAt_24 (by decide +kernel) ?_
          refine wp_goto (pc := 25) (tgt := 29) dX0_cellAt_25 (by decide) ?_
          refine wp_istore_n (pc := 29) (i := 3) dX0_cellAt_29 rfl (by decide) ?_
          refine wp_iload_n (pc := 30) (i := 3) dX0_cellAt_30 rfl rfl ?_
          refine wp_if_eqN (pc := 31) (tgt := 45) dX0_cellAt_31 (by decide) (by first | with_reducible assumption | omega) (fun c_31 => ?_) (fun c_31 => ?_)
          · refine wp_iconst (pc := 45) (v := (-1)) dX0_cellAt_45 (by decide +kernel) ?_
            refine wp_ireturn (pc := 46) dX0_cellAt_46 rfl ?_
            first | exact pq_i (cat_f (by omega)) | exact pq_i (cat_t (by omega))
          · refine wp_iload_n (pc := 34) (i := 2) dX0_cellAt_34 rfl rfl ?_
            refine wp_aload_n (pc := 35) (i := 0) dX0_cellAt_35 rfl rfl (by first | with_reducible assumption | rfl) ?_
            refine wp_getI (pc := 36) dX0_cellAt_36 lf_X0_27 (by first | with_reducible assumption | rfl) (by first | with_reducible assumption | rfl) rfl ?_
            rw [hw]
            refine wp_imul (pc := 39) dX0_cellAt_39 ?_
            refine wp_iload_n (pc := 40) (i := 1) dX0_cellAt_40 rfl rfl ?_
            refine wp_iadd (pc := 41) dX0_cellAt_41 ?_
            refine wp_goto (pc := 42) (tgt := 46) dX0_cellAt_42 (by decide) ?_
            refine wp_ireturn (pc := 46) dX0_cellAt_46 rfl ?_
            first | exact pq_i (cat_f (by omega)) | exact pq_i (cat_t (by omega))
set_option maxHeartbeats 16000000 in
/-- the greatest common divisor -/
theorem sp_X5_greatestCommon {a b : Nat} (ha : a ≤ 64) (hb : b ≤ 64) : CALL Ω d kX5_greatestCommon [.int (nI a), .int (nI b)] I J (PQ (.int (nI (Nat.gcd a b))) I J) := by
  have loop : ∀ n i x y, n + i = 64 → y ≤ n → x ≤ 64 → Nat.gcd x y = Nat.gcd a b → WP Ω d kX5_greatestCommon 7 [(0, .int (nI a)), (1, .int (nI b)), (2, .int (nI x)), (3, .int (nI y)), (4, .int (nI i))] [] I J (PQ (.int (nI (Nat.gcd a b))) I J) := by
    intro n
    induction n with
    | zero =>
      intro i x y h1 h2 h3 h4
      have hy : y = 0 := Nat.le_zero.mp h2
      subst hy
      rw [Nat.gcd_zero_right] at h4
      refine wp_iload (pc := 7) dX5_greatestCommon_7 rfl ?_
      refine wp_bipush (pc := 9) (v := nI 64) dX5_greatestCommon_9 (by decide +kernel) ?_
      first | (refine wp_icmp_geN (pc := 11) (tgt := 34) dX5_greatestCommon_11 (by decide) (by first | with_reducible assumption | omega) (by first | with_reducible assumption | omega) (fun c_11 => ?_) (fun c_11 => ?_)) | (refine wp_icmp_ge (pc := 11) (tgt := 34) dX5_greatestCommon_11 (by decide) (fun c_11 => ?_) (fun c_11 => ?_))
      · refine wp_iload_n (pc := 34) (i := 2) dX5_greatestCommon_34 rfl rfl ?_
        refine wp_ireturn (pc := 35) dX5_greatestCommon_35 rfl ?_
        exact pq_i (congrArg nI h4)
      · exact absurd (show 64 ≤ i from Nat.le_of_eq ((Nat.zero_add i).symm.trans h1).symm) c_11
    | succ n ih =>
      intro i x y h1 h2 h3 h4
      refine wp_iload (pc := 7) dX5_greatestCommon_7 rfl ?_
      refine wp_bipush (pc := 9) (v := nI 64) dX5_greatestCommon_9 (by decide +kernel) ?_
      first | (refine wp_icmp_geN (pc := 11) (tgt := 34) dX5_greatestCommon_11 (by decide) (by first | with_reducible assumption | omega) (by first | with_reducible assumption | omega) (fun c_11 => ?_) (fun c_11 => ?_)) | (refine wp_icmp_ge (pc := 11) (tgt := 34) dX5_greatestCommon_11 (by decide) (fun c_11 => ?_) (fun c_11 => ?_))
      · exact absurd c_11 (by omega)
      · refine wp_iload_n (pc := 14) (i := 3) dX5_greatestCommon_14 rfl rfl ?_
        first | (refine wp_if_leN (pc := 15) (tgt := 34) dX5_greatestCommon_15 (by decide) (by first | with_reducible assumption | omega) (fun c_15 => ?_) (fun c_15 => ?_)) | (refine wp_if_le (pc := 15) (tgt := 34) dX5_greatestCommon_15 (by decide) (fun c_15 => ?_) (fun c_15 => ?_))
        all_goals (skip)
        · subst c_15
          rw [Nat.gcd_zero_right] at h4
          refine wp_iload_n (pc := 34) (i := 2) dX5_greatestCommon_34 rfl rfl ?_
          refine wp_ireturn (pc := 35) dX5_greatestCommon_35 rfl ?_
          exact pq_i (congrArg nI h4)
        · refine wp_iload_n (pc := 18) (i := 2) dX5_greatestCommon_18 rfl rfl ?_
          refine wp_iload_n (pc := 19) (i := 3) dX5_greatestCommon_19 rfl rfl ?_
          have h0 : 0 < y := c_15
          refine wp_iremN (pc := 20) dX5_greatestCommon_20 (by first | with_reducible assumption | omega) (by first | with_reducible assumption | omega) (by first | with_reducible assumption | omega) ?_
          refine wp_istore (pc := 21) dX5_greatestCommon_21 (by decide) ?_
          refine wp_iload_n (pc := 23) (i := 3) dX5_greatestCommon_23 rfl rfl ?_
          refine wp_istore_n (pc := 24) (i := 2) dX5_greatestCommon_24 rfl (by decide) ?_
          refine wp_iload (pc := 25) dX5_greatestCommon_25 rfl ?_
          refine wp_istore_n (pc := 27) (i := 3) dX5_greatestCommon_27 rfl (by decide) ?_
          first | (refine wp_iincN (pc := 28) (m := 1) dX5_greatestCommon_28 rfl rfl (by decide) ?_) | (refine wp_iinc (pc := 28) dX5_greatestCommon_28 rfl rfl (by decide) ?_)
          refine wp_goto (pc := 31) (tgt := 7) dX5_greatestCommon_31 (by decide) ?_
          refine wp_drop 5 ?_
          exact ih (i + 1) y (x % y) (by omega) (by have := Nat.mod_lt x h0; omega) (by omega) (by rw [← h4, Nat.gcd_comm x y, Nat.gcd_rec y x, Nat.gcd_comm (x % y) y])
  refine call_of_wp (by decide) (Nat.le_of_ble_eq_true rfl) ?_
  refine wp_iload_n (pc := 0) (i := 0) dX5_greatestCommon_0 rfl rfl ?_
  refine wp_istore_n (pc := 1) (i := 2) dX5_greatestCommon_1 rfl (by decide) ?_
  refine wp_iload_n (pc := 2) (i := 1) dX5_greatestCommon_2 rfl rfl ?_
  refine wp_istore_n (pc := 3) (i := 3) dX5_greatestCommon_3 rfl (by decide) ?_
  refine wp_iconst (pc := 4) (v := nI 0) dX5_greatestCommon_4 (by decide +kernel) ?_
  refine wp_istore (pc := 5) dX5_greatestCommon_5 (by decide) ?_
  exact loop 64 0 a b rfl hb ha rfl
set_option maxHeartbeats 16000000 in
theorem sp_J6_bitCount {m : Nat} (hm : m < 65536) : CALL Ω d kJ6_bitCount_0f7a4 [.int (nI m)] I J (PQ (.int (nI (swN m))) I J) := by
  refine call_of_wp (by decide) (Nat.le_of_ble_eq_true rfl) ?_
  have h0 : m / 2 ^ 1 &&& 1431655765 ≤ m := Nat.le_trans Nat.and_le_left (by omega)
  obtain ⟨A, hA, eA⟩ : ∃ A, A < 65536 ∧ A = m - (m / 2 ^ 1 &&& 1431655765) := ⟨_, by omega, rfl⟩
  obtain ⟨B, hB, eB⟩ : ∃ B, B < 200000 ∧ B = (A &&& 858993459) + (A / 2 ^ 2 &&& 858993459) := ⟨_, by have := Nat.and_le_left (n := A) (m := 858993459); have := Nat.and_le_left (n := A / 2 ^ 2) (m := 858993459); omega, rfl⟩
  obtain ⟨C, hC, eC⟩ : ∃ C, C < 400000 ∧ C = (B + B / 2 ^ 4) &&& 252645135 := ⟨_, by have := Nat.and_le_left (n := B + B / 2 ^ 4) (m := 252645135); omega, rfl⟩
  obtain ⟨E, hE, eE⟩ : ∃ E, E < 800000 ∧ E = C + C / 2 ^ 8 := ⟨_, by omega, rfl⟩
  obtain ⟨F, hF, eF⟩ : ∃ F, F < 1600000 ∧ F = E + E / 2 ^ 16 := ⟨_, by omega, rfl⟩
  refine wp_iload_n (pc := 0) (i := 0) dJ6_bitCount_0f7a4_0 rfl rfl ?_
  refine wp_iload_n (pc := 1) (i := 0) dJ6_bitCount_0f7a4_1 rfl rfl ?_
  refine wp_iconst (pc := 2) (v := nI 1) dJ6_bitCount_0f7a4_2 (by decide +kernel) ?_
  first | (refine wp_iushrN (pc := 3) dJ6_bitCount_0f7a4_3 (by first | with_reducible assumption | omega) (by first | with_reducible assumption | omega) ?_) | (refine wp_iushr (pc := 3) dJ6_bitCount_0f7a4_3 ?_)
  refine wp_ldc_w (pc := 4) (v := nI 1431655765) dJ6_bitCount_0f7a4_4 kc_J6_265 ?_
  first | (refine wp_iandN (pc := 7) dJ6_bitCount_0f7a4_7 ?_) | (refine wp_iand (pc := 7) dJ6_bitCount_0f7a4_7 ?_)
  first | (refine wp_isubN (pc := 8) dJ6_bitCount_0f7a4_8 (by first | with_reducible assumption | omega) ?_) | (refine wp_isub (pc := 8) dJ6_bitCount_0f7a4_8 ?_)
  rw [← eA]
  refine wp_istore_n (pc := 9) (i := 0) dJ6_bitCount_0f7a4_9 rfl (by decide) ?_
  refine wp_iload_n (pc := 10) (i := 0) dJ6_bitCount_0f7a4_10 rfl rfl ?_
  refine wp_ldc_w (pc := 11) (v := nI 858993459) dJ6_bitCount_0f7a4_11 kc_J6_266 ?_
  first | (refine wp_iandN (pc := 14) dJ6_bitCount_0f7a4_14 ?_) | (refine wp_iand (pc := 14) dJ6_bitCount_0f7a4_14 ?_)
  refine wp_iload_n (pc := 15) (i := 0) dJ6_bitCount_0f7a4_15 rfl rfl ?_
  refine wp_iconst (pc := 16) (v := nI 2) dJ6_bitCount_0f7a4_16 (by decide +kernel) ?_
  first | (refine wp_iushrN (pc := 17) dJ6_bitCount_0f7a4_17 (by first | with_reducible assumption | omega) (by first | with_reducible assumption | omega) ?_) | (refine wp_iushr (pc := 17) dJ6_bitCount_0f7a4_17 ?_)
  refine wp_ldc_w (pc := 18) (v := nI 858993459) dJ6_bitCount_0f7a4_18 kc_J6_266 ?_
  first | (refine wp_iandN (pc := 21) dJ6_bitCount_0f7a4_21 ?_) | (refine wp_iand (pc := 21) dJ6_bitCount_0f7a4_21 ?_)
  first | (refine wp_iaddN (pc := 22) dJ6_bitCount_0f7a4_22 ?_) | (refine wp_iadd (pc := 22) dJ6_bitCount_0f7a4_22 ?_)
  rw [← eB]
  refine wp_istore_n (pc := 23) (i := 0) dJ6_bitCount_0f7a4_23 rfl (by decide) ?_
  refine wp_iload_n (pc := 24) (i := 0) dJ6_bitCount_0f7a4_24 rfl rfl ?_
  refine wp_iload_n (pc := 25) (i := 0) dJ6_bitCount_0f7a4_25 rfl rfl ?_
  refine wp_iconst (pc := 26) (v := nI 4) dJ6_bitCount_0f7a4_26 (by decide +kernel) ?_
  first | (refine wp_iushrN (pc := 27) dJ6_bitCount_0f7a4_27 (by first | with_reducible assumption | omega) (by first | with_reducible assumption | omega) ?_) | (refine wp_iushr (pc := 27) dJ6_bitCount_0f7a4_27 ?_)
  first | (refine wp_iaddN (pc := 28) dJ6_bitCount_0f7a4_28 ?_) | (refine wp_iadd (pc := 28) dJ6_bitCount_0f7a4_28 ?_)
  refine wp_ldc_w (pc := 29) (v := nI 252645135) dJ6_bitCount_0f7a4_29 kc_J6_267 ?_
  first | (refine wp_iandN (pc := 32) dJ6_bitCount_0f7a4_32 ?_) | (refine wp_iand (pc := 32) dJ6_bitCount_0f7a4_32 ?_)
  rw [← eC]
  refine wp_istore_n (pc := 33) (i := 0) dJ6_bitCount_0f7a4_33 rfl (by decide) ?_
  refine wp_iload_n (pc := 34) (i := 0) dJ6_bitCount_0f7a4_34 rfl rfl ?_
  refine wp_iload_n (pc := 35) (i := 0) dJ6_bitCount_0f7a4_35 rfl rfl ?_
  refine wp_bipush (pc := 36) (v := nI 8) dJ6_bitCount_0f7a4_36 (by decide +kernel) ?_
  first | (refine wp_iushrN (pc := 38) dJ6_bitCount_0f7a4_38 (by first | with_reducible assumption | omega) (by first | with_reducible assumption | omega) ?_) | (refine wp_iushr (pc := 38) dJ6_bitCount_0f7a4_38 ?_)
  first | (refine wp_iaddN (pc := 39) dJ6_bitCount_0f7a4_39 ?_) | (refine wp_iadd (pc := 39) dJ6_bitCount_0f7a4_39 ?_)
  rw [← eE]
  refine wp_istore_n (pc := 40) (i := 0) dJ6_bitCount_0f7a4_40 rfl (by decide) ?_
  refine wp_iload_n (pc := 41) (i := 0) dJ6_bitCount_0f7a4_41 rfl rfl ?_
  refine wp_iload_n (pc := 42) (i := 0) dJ6_bitCount_0f7a4_42 rfl rfl ?_
  refine wp_bipush (pc := 43) (v := nI 16) dJ6_bitCount_0f7a4_43 (by decide +kernel) ?_
  first | (refine wp_iushrN (pc := 45) dJ6_bitCount_0f7a4_45 (by first | with_reducible assumption | omega) (by first | with_reducible assumption | omega) ?_) | (refine wp_iushr (pc := 45) dJ6_bitCount_0f7a4_45 ?_)
  first | (refine wp_iaddN (pc := 46) dJ6_bitCount_0f7a4_46 ?_) | (refine wp_iadd (pc := 46) dJ6_bitCount_0f7a4_46 ?_)
  rw [← eF]
  refine wp_istore_n (pc := 47) (i := 0) dJ6_bitCount_0f7a4_47 rfl (by decide) ?_
  refine wp_iload_n (pc := 48) (i := 0) dJ6_bitCount_0f7a4_48 rfl rfl ?_
  refine wp_bipush (pc := 49) (v := nI 63) dJ6_bitCount_0f7a4_49 (by decide +kernel) ?_
  first | (refine wp_iandN (pc := 51) dJ6_bitCount_0f7a4_51 ?_) | (refine wp_iand (pc := 51) dJ6_bitCount_0f7a4_51 ?_)
  refine wp_ireturn (pc := 52) dJ6_bitCount_0f7a4_52 rfl ?_
  exact pq_i (by subst eF; subst eE; subst eC; subst eB; subst eA; rfl)
theorem low_ex : ∀ n m : Nat, 0 < m → m < 2 ^ n → ∃ k, k < n ∧ m.testBit k = true ∧ m &&& (2 ^ n - m) = 2 ^ k
  | 0, m, h1, h2 => by simp at h2; omega
  | n + 1, m, h1, h2 => by
    rw [Nat.pow_succ] at h2 ⊢
    rcases Nat.mod_two_eq_zero_or_one m with h | h
    · obtain ⟨k, hk, hb, he⟩ := low_ex n (m / 2) (by omega) (by omega)
      refine ⟨k + 1, by omega, by rw [Nat.testBit_succ]; exact hb, ?_⟩
      apply Nat.eq_of_testBit_eq
      intro i
      cases i with
      | zero =>
        rw [Nat.testBit_and, Nat.testBit_zero, Nat.testBit_two_pow]
        simp [h]
      | succ i =>
        have e1 : (2 ^ n * 2 - m) / 2 = 2 ^ n - m / 2 := by omega
        rw [Nat.testBit_and, Nat.testBit_succ, Nat.testBit_succ, e1, ← Nat.testBit_and, he, Nat.testBit_two_pow, Nat.testBit_two_pow]
        simp
    · refine ⟨0, by omega, by rw [Nat.testBit_zero]; simp [h], ?_⟩
      apply Nat.eq_of_testBit_eq
      intro i
      cases i with
      | zero =>
        have e1 : (2 ^ n * 2 - m) % 2 = 1 := by omega
        rw [Nat.testBit_and, Nat.testBit_zero, Nat.testBit_zero]
        simp [h, e1]
      | succ i =>
        have e1 : (2 ^ n * 2 - m) / 2 = 2 ^ n - (m / 2 + 1) := by omega
        rw [Nat.testBit_and, Nat.testBit_succ, Nat.testBit_succ, e1, Nat.testBit_two_pow_sub_succ (by omega), Nat.testBit_two_pow]
        cases hq : (m / 2).testBit i <;> simp
theorem neg_n {m : Nat} (h : m ≤ 4294967296) : -(nI m) = nI (4294967296 - m) := by
  apply Int32.toBitVec_inj.mp
  rw [Int32.toBitVec_neg]
  apply BitVec.eq_of_toNat_eq
  show (-(BitVec.ofNat 32 m)).toNat = (BitVec.ofNat 32 (4294967296 - m)).toNat
  rw [BitVec.toNat_neg, BitVec.toNat_ofNat, BitVec.toNat_ofNat]
  omega
theorem sw_low : ∀ k, k < 16 → swN (2 ^ k - 1) = k := by decide +kernel
set_option maxHeartbeats 16000000 in
/-- lowest(m): a place of m -/
theorem sp_X5_lowest {m : Nat} (h0 : 0 < m) (hm : m < 65536) : CALL Ω (d + 1) kX5_lowest [.int (nI m)] I J (IQ (fun x I' J' => (∃ k, k < 16 ∧ m.testBit k = true ∧ x = nI k) ∧ I' = I ∧ J' = J)) := by
  obtain ⟨k, hk, hb, he⟩ := low_ex 32 m h0 (by omega)
  have hk16 : k < 16 := by
    rcases Nat.lt_or_ge k 16 with h | h
    · exact h
    · rw [lt_bit (n := 16) hm h] at hb; cases hb
  have hp : 0 < 2 ^ k := Nat.two_pow_pos k
  have hq : 2 ^ k < 65536 := Nat.pow_lt_pow_right (a := 2) (by decide) hk16
  refine call_of_wp (by decide) (Nat.le_of_ble_eq_true rfl) ?_
  refine wp_iload_n (pc := 0) (i := 0) dX5_lowest_0 rfl rfl ?_
  refine wp_iload_n (pc := 1) (i := 0) dX5_lowest_1 rfl rfl ?_
  refine wp_ineg (pc := 2) dX5_lowest_2 ?_
  rw [neg_n (by omega)]
  first | (refine wp_iandN (pc := 3) dX5_lowest_3 ?_) | (refine wp_iand (pc := 3) dX5_lowest_3 ?_)
  rw [he]
  refine wp_iconst (pc := 4) (v := nI 1) dX5_lowest_4 (by decide +kernel) ?_
  first | (refine wp_isubN (pc := 5) dX5_lowest_5 (by first | with_reducible assumption | omega) ?_) | (refine wp_isub (pc := 5) dX5_lowest_5 ?_)
  refine wp_cSP1 (pc := 6) dX5_lowest_6 lm_X5_263 m_J6_bitCount_0f7a4 (Nat.le_of_ble_eq_true rfl) (sp_J6_bitCount (by first | with_reducible assumption | omega)) ?_
  refine wp_ireturn (pc := 9) dX5_lowest_9 rfl ?_
  exact iq_i ⟨⟨k, hk16, hb, congrArg nI (sw_low k hk16)⟩, rfl, rfl⟩
/-! indexOf on the signs -/
theorem b_asc : ∀ b, b < 256 → ∀ j, j < 12 → ((nI (asc j) = (nI b).toInt8.toInt32) ↔ asc j = b) := by decide +kernel
/-- the sign of a byte -/
def sgn (b : Nat) : Option Nat := (List.range 12).find? (fun s => asc s == b)
theorem sgn_asc : ∀ j, j < 12 → sgn (asc j) = some j := by decide +kernel
theorem sgn_none {b : Nat} (h : ∀ i, i < 12 → ¬ asc i = b) : sgn b = none := by
  unfold sgn
  rw [List.find?_eq_none]
  intro x hx
  simpa using h x (List.mem_range.mp hx)
theorem sgn_lt {b s : Nat} (h : sgn b = some s) : s < 12 ∧ asc s = b := by
  have h1 := List.mem_range.mp (List.mem_of_find?_eq_some h)
  have h2 := List.find?_some h
  exact ⟨h1, by simpa using h2⟩
set_option maxHeartbeats 16000000 in
theorem sp_J1_canEncode {b : Nat} (hb : b < 256) : CALL Ω d kJ1_canEncode_9a6ad [.int (nI b)] I J (PQ (.int (nI 1)) I J) := by
  refine call_of_wp (by decide) (Nat.le_of_ble_eq_true rfl) ?_
  refine wp_iload_n (pc := 0) (i := 0) dJ1_canEncode_9a6ad_0 rfl rfl ?_
  refine wp_if_ltN (pc := 1) (tgt := 15) dJ1_canEncode_9a6ad_1 (by decide) (by first | with_reducible assumption | omega) ?_
  refine wp_iload_n (pc := 4) (i := 0) dJ1_canEncode_9a6ad_4 rfl rfl ?_
  refine wp_sipush (pc := 5) (v := nI 255) dJ1_canEncode_9a6ad_5 (by decide +kernel) ?_
  first | (refine wp_icmp_gtN (pc := 8) (tgt := 15) dJ1_canEncode_9a6ad_8 (by decide) (by first | with_reducible assumption | omega) (by first | with_reducible assumption | omega) (fun c_8 => ?_) (fun c_8 => ?_)) | (refine wp_icmp_gt (pc := 8) (tgt := 15) dJ1_canEncode_9a6ad_8 (by decide) (fun c_8 => ?_) (fun c_8 => ?_))
  · exact absurd c_8 (by omega)
  · refine wp_iconst (pc := 11) (v := nI 1) dJ1_canEncode_9a6ad_11 (by decide +kernel) ?_
    refine wp_goto (pc := 12) (tgt := 16) dJ1_canEncode_9a6ad_12 (by decide) ?_
    refine wp_zreturn (pc := 16) dJ1_canEncode_9a6ad_16 rfl (by first | exact bI_narrow _ | exact nI_narrow01 (by omega) | decide +kernel | assumption) ?_
    exact pq_i rfl
set_option maxHeartbeats 16000000 in
theorem sp_J1_indexOfChar {q b : Nat} (h1 : 1006 ≤ q) (h2 : q < 1008) (hb : b < 256) : CALL Ω d kJ1_indexOfChar_4cfef [.ref q, .int (nI b), .int (nI 0), .int (nI 12)] I J (PQ (.int (ocI (sgn b))) I J) := by
  have hq : Nat.beq q 1010 = false := ro_beq (by omega)
  have loop : ∀ n j, n + j = 12 → (∀ i, i < j → ¬ asc i = b) → WP Ω d kJ1_indexOfChar_4cfef 7 [(0, .ref q), (1, .int (nI b)), (2, .int (nI 0)), (3, .int (nI 12)), (4, .int (nI b).toInt8.toInt32), (5, .int (nI j))] [] I J (PQ (.int (ocI (sgn b))) I J) := by
    intro n
    induction n with
    | zero =>
      intro j hj hn
      refine wp_iload (pc := 7) dJ1_indexOfChar_4cfef_7 rfl ?_
      refine wp_iload_n (pc := 9) (i := 3) dJ1_indexOfChar_4cfef_9 rfl rfl ?_
      first | (refine wp_icmp_geN (pc := 10) (tgt := 31) dJ1_indexOfChar_4cfef_10 (by decide) (by first | with_reducible assumption | omega) (by first | with_reducible assumption | omega) (fun c_10 => ?_) (fun c_10 => ?_)) | (refine wp_icmp_ge (pc := 10) (tgt := 31) dJ1_indexOfChar_4cfef_10 (by decide) (fun c_10 => ?_) (fun c_10 => ?_))
      · refine wp_iconst (pc := 31) (v := (-1)) dJ1_indexOfChar_4cfef_31 (by decide +kernel) ?_
        refine wp_ireturn (pc := 32) dJ1_indexOfChar_4cfef_32 rfl ?_
        exact pq_i (by rw [sgn_none (fun i hi => hn i (by omega))]; rfl)
      · exact absurd (show 12 ≤ j by omega) c_10
    | succ n ih =>
      intro j hj hn
      have hj12 : j < 12 := by omega
      refine wp_iload (pc := 7) dJ1_indexOfChar_4cfef_7 rfl ?_
      refine wp_iload_n (pc := 9) (i := 3) dJ1_indexOfChar_4cfef_9 rfl rfl ?_
      first | (refine wp_icmp_geN (pc := 10) (tgt := 31) dJ1_indexOfChar_4cfef_10 (by decide) (by first | with_reducible assumption | omega) (by first | with_reducible assumption | omega) (fun c_10 => ?_) (fun c_10 => ?_)) | (refine wp_icmp_ge (pc := 10) (tgt := 31) dJ1_indexOfChar_4cfef_10 (by decide) (fun c_10 => ?_) (fun c_10 => ?_))
      · exact absurd c_10 (by omega)
      · refine wp_aload_n (pc := 13) (i := 0) dJ1_indexOfChar_4cfef_13 rfl rfl (by first | with_reducible assumption | rfl) ?_
        refine wp_iload (pc := 14) dJ1_indexOfChar_4cfef_14 rfl ?_
        refine wp_baldT (pc := 16) dJ1_indexOfChar_4cfef_16 h1 h2 hj12 ?_
        rw [ro_asc q h1 h2 j hj12]
        refine wp_iload (pc := 17) dJ1_indexOfChar_4cfef_17 rfl ?_
        refine wp_icmp_ne (pc := 19) (tgt := 25) dJ1_indexOfChar_4cfef_19 (by decide) (fun c_19 => ?_) (fun c_19 => ?_)
        · first | (refine wp_iincN (pc := 25) (m := 1) dJ1_indexOfChar_4cfef_25 rfl rfl (by decide) ?_) | (refine wp_iinc (pc := 25) dJ1_indexOfChar_4cfef_25 rfl rfl (by decide) ?_)
          refine wp_goto (pc := 28) (tgt := 7) dJ1_indexOfChar_4cfef_28 (by decide) ?_
          exact ih (j + 1) (by omega) (fun i hi => by
            rcases Nat.lt_succ_iff_lt_or_eq.mp hi with h | h
            · exact hn i h
            · subst h; exact fun z => c_19 ((b_asc b hb _ hj12).mpr z))
        · refine wp_iload (pc := 22) dJ1_indexOfChar_4cfef_22 rfl ?_
          refine wp_ireturn (pc := 24) dJ1_indexOfChar_4cfef_24 rfl ?_
          exact pq_i (by rw [← (b_asc b hb j hj12).mp c_19, sgn_asc j hj12]; rfl)
  refine call_of_wp (by decide) (Nat.le_of_ble_eq_true rfl) ?_
  refine wp_iload_n (pc := 0) (i := 1) dJ1_indexOfChar_4cfef_0 rfl rfl ?_
  refine wp_i2b (pc := 1) dJ1_indexOfChar_4cfef_1 ?_
  refine wp_istore (pc := 2) dJ1_indexOfChar_4cfef_2 (by decide) ?_
  refine wp_iload_n (pc := 4) (i := 2) dJ1_indexOfChar_4cfef_4 rfl rfl ?_
  refine wp_istore (pc := 5) dJ1_indexOfChar_4cfef_5 (by decide) ?_
  exact loop 12 0 rfl (fun i hi => absurd hi (by omega))
set_option maxHeartbeats 16000000 in
theorem sp_J1_indexOf {q b : Nat} (h1 : 1006 ≤ q) (h2 : q < 1008) (hb : b < 256) : CALL Ω (d + 1) kJ1_indexOf_4cfef [.ref q, .int (nI b), .int (nI 0), .int (nI 12)] I J (PQ (.int (ocI (sgn b))) I J) := by
  have hq : Nat.beq q 1010 = false := ro_beq (by omega)
  refine call_of_wp (by decide) (Nat.le_of_ble_eq_true rfl) ?_
  refine wp_iload_n (pc := 0) (i := 1) dJ1_indexOf_4cfef_0 rfl rfl ?_
  refine wp_cSP1 (pc := 1) dJ1_indexOf_4cfef_1 lm_J1_88 m_J1_canEncode_9a6ad (Nat.le_of_ble_eq_true rfl) (sp_J1_canEncode (by first | with_reducible assumption | omega)) ?_
  first | (refine wp_if_neB (pc := 4) (tgt := 9) dJ1_indexOf_4cfef_4 (by decide) (fun c_4 => ?_) (fun c_4 => ?_)) | (refine wp_if_neN (pc := 4) (tgt := 9) dJ1_indexOf_4cfef_4 (by decide) (by first | with_reducible assumption | omega) (fun c_4 => ?_) (fun c_4 => ?_)) | (refine wp_if_ne (pc := 4) (tgt := 9) dJ1_indexOf_4cfef_4 (by decide) (fun c_4 => ?_) (fun c_4 => ?_))
  · refine wp_iload_n (pc := 9) (i := 2) dJ1_indexOf_4cfef_9 rfl rfl ?_
    refine wp_iconst (pc := 10) (v := nI 0) dJ1_indexOf_4cfef_10 (by decide +kernel) ?_
    refine wp_mmax (pc := 11) dJ1_indexOf_4cfef_11 lk_max (by omega) (by omega) (Nat.le_of_ble_eq_true rfl) ?_
    rw [show max 0 0 = 0 from rfl]
    refine wp_istore_n (pc := 14) (i := 2) dJ1_indexOf_4cfef_14 rfl (by decide) ?_
    refine wp_iload_n (pc := 15) (i := 3) dJ1_indexOf_4cfef_15 rfl rfl ?_
    refine wp_aload_n (pc := 16) (i := 0) dJ1_indexOf_4cfef_16 rfl rfl (by first | with_reducible assumption | rfl) ?_
    refine wp_alenT (pc := 17) dJ1_indexOf_4cfef_17 (by omega) (by omega) ?_
    refine wp_mmin (pc := 18) dJ1_indexOf_4cfef_18 lk_min (by omega) (by omega) (Nat.le_of_ble_eq_true rfl) ?_
    rw [show min 12 12 = 12 from rfl]
    refine wp_istore_n (pc := 21) (i := 3) dJ1_indexOf_4cfef_21 rfl (by decide) ?_
    refine wp_iload_n (pc := 22) (i := 2) dJ1_indexOf_4cfef_22 rfl rfl ?_
    refine wp_iload_n (pc := 23) (i := 3) dJ1_indexOf_4cfef_23 rfl rfl ?_
    first | (refine wp_icmp_ltN (pc := 24) (tgt := 29) dJ1_indexOf_4cfef_24 (by decide) (by first | with_reducible assumption | omega) (by first | with_reducible assumption | omega) (fun c_24 => ?_) (fun c_24 => ?_)) | (refine wp_icmp_lt (pc := 24) (tgt := 29) dJ1_indexOf_4cfef_24 (by decide) (fun c_24 => ?_) (fun c_24 => ?_))
    · refine wp_aload_n (pc := 29) (i := 0) dJ1_indexOf_4cfef_29 rfl rfl (by first | with_reducible assumption | rfl) ?_
      refine wp_iload_n (pc := 30) (i := 1) dJ1_indexOf_4cfef_30 rfl rfl ?_
      refine wp_iload_n (pc := 31) (i := 2) dJ1_indexOf_4cfef_31 rfl rfl ?_
      refine wp_iload_n (pc := 32) (i := 3) dJ1_indexOf_4cfef_32 rfl rfl ?_
      refine wp_cSP4 (pc := 33) dJ1_indexOf_4cfef_33 lm_J1_95 m_J1_indexOfChar_4cfef (Nat.le_of_ble_eq_true rfl) (sp_J1_indexOfChar (by first | with_reducible assumption | omega) (by first | with_reducible assumption | omega) (by first | with_reducible assumption | omega)) ?_
      refine wp_ireturn (pc := 36) dJ1_indexOf_4cfef_36 rfl ?_
      exact pq_i rfl
    · exact absurd (show 0 < 12 by omega) c_24
  · exact absurd c_4 (by decide)
set_option maxHeartbeats 16000000 in
theorem sp_J0_indexOf2 {q b : Nat} (h1 : 1004 ≤ q) (h2 : q < 1006) (hb : b < 256) : CALL Ω (d + 2) kJ0_indexOf_7cf53 [.ref q, .int (nI b), .int (nI 0)] I J (PQ (.int (ocI (sgn b))) I J) := by
  have hq : Nat.beq q 1010 = false := ro_beq (by omega)
  refine call_of_wp (by decide) (Nat.le_of_ble_eq_true rfl) ?_
  refine wp_aload_n (pc := 0) (i := 0) dJ0_indexOf_7cf53_0 rfl rfl (by first | with_reducible assumption | rfl) ?_
  refine wp_cTP0 (pc := 1) dJ0_indexOf_7cf53_1 lm_J0_492 (by decide) m_J0_isLatin1_aae02 (by first | with_reducible assumption | omega) (by first | with_reducible assumption | omega) rfl (Nat.le_of_ble_eq_true rfl) (sp_J0_isLatin1 (by first | with_reducible assumption | omega) (by first | with_reducible assumption | omega)) ?_
  first | (refine wp_if_eqB (pc := 4) (tgt := 23) dJ0_indexOf_7cf53_4 (by decide) (fun c_4 => ?_) (fun c_4 => ?_)) | (refine wp_if_eqN (pc := 4) (tgt := 23) dJ0_indexOf_7cf53_4 (by decide) (by first | with_reducible assumption | omega) (fun c_4 => ?_) (fun c_4 => ?_)) | (refine wp_if_eq (pc := 4) (tgt := 23) dJ0_indexOf_7cf53_4 (by decide) (fun c_4 => ?_) (fun c_4 => ?_))
  · exact absurd c_4 (by decide)
  · refine wp_aload_n (pc := 7) (i := 0) dJ0_indexOf_7cf53_7 rfl rfl (by first | with_reducible assumption | rfl) ?_
    refine wp_getfV (pc := 8) dJ0_indexOf_7cf53_8 (by first | with_reducible assumption | omega) (by first | with_reducible assumption | omega) sf_J0_9 ?_
    refine wp_iload_n (pc := 11) (i := 1) dJ0_indexOf_7cf53_11 rfl rfl ?_
    refine wp_iload_n (pc := 12) (i := 2) dJ0_indexOf_7cf53_12 rfl rfl ?_
    refine wp_aload_n (pc := 13) (i := 0) dJ0_indexOf_7cf53_13 rfl rfl (by first | with_reducible assumption | rfl) ?_
    refine wp_cTP0 (pc := 14) dJ0_indexOf_7cf53_14 lm_J0_505 (by decide) m_J0_length_8abf5 (by first | with_reducible assumption | omega) (by first | with_reducible assumption | omega) rfl (Nat.le_of_ble_eq_true rfl) (sp_J0_length (by first | with_reducible assumption | omega) (by first | with_reducible assumption | omega)) ?_
    refine wp_cSP4 (pc := 17) dJ0_indexOf_7cf53_17 lm_J0_637 m_J1_indexOf_4cfef (Nat.le_of_ble_eq_true rfl) (sp_J1_indexOf (by first | with_reducible assumption | omega) (by first | with_reducible assumption | omega) (by first | with_reducible assumption | omega)) ?_
    refine wp_goto (pc := 20) (tgt := 36) dJ0_indexOf_7cf53_20 (by decide) ?_
    refine wp_ireturn (pc := 36) dJ0_indexOf_7cf53_36 rfl ?_
    exact pq_i rfl
set_option maxHeartbeats 16000000 in
theorem sp_J0_indexOf {q b : Nat} (h1 : 1004 ≤ q) (h2 : q < 1006) (hb : b < 256) : CALL Ω (d + 3) kJ0_indexOf_0f7a4 [.ref q, .int (nI b)] I J (PQ (.int (ocI (sgn b))) I J) := by
  have hq : Nat.beq q 1010 = false := ro_beq (by omega)
  refine call_of_wp (by decide) (Nat.le_of_ble_eq_true rfl) ?_
  refine wp_aload_n (pc := 0) (i := 0) dJ0_indexOf_0f7a4_0 rfl rfl (by first | with_reducible assumption | rfl) ?_
  refine wp_iload_n (pc := 1) (i := 1) dJ0_indexOf_0f7a4_1 rfl rfl ?_
  refine wp_iconst (pc := 2) (v := nI 0) dJ0_indexOf_0f7a4_2 (by decide +kernel) ?_
  refine wp_cTP2 (pc := 3) dJ0_indexOf_0f7a4_3 lm_J0_633 (by decide) m_J0_indexOf_7cf53 (by first | with_reducible assumption | omega) (by first | with_reducible assumption | omega) rfl (Nat.le_of_ble_eq_true rfl) (sp_J0_indexOf2 (by first | with_reducible assumption | omega) (by first | with_reducible assumption | omega) (by first | with_reducible assumption | omega)) ?_
  refine wp_ireturn (pc := 6) dJ0_indexOf_0f7a4_6 rfl ?_
  exact pq_i rfl
end L2B
