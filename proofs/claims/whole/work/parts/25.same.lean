/-! TWO PLACES BESIDE EACH OTHER -/
theorem k5_bit : ∀ i, i < 64 → (6148914691236517205 : Nat).testBit i = decide (i % 2 = 0) := by decide +kernel
theorem k3_bit : ∀ i, i < 64 → (3689348814741910323 : Nat).testBit i = decide (i % 4 < 2) := by decide +kernel
theorem kf_bit : ∀ i, i < 64 → (1085102592571150095 : Nat).testBit i = decide (i / 4 % 2 = 0) := by decide +kernel
theorem k1_bit : ∀ i, i < 64 → (1229782938247303441 : Nat).testBit i = decide (i % 4 = 0) := by decide +kernel
/-- a set of cells, a nibble each -/
def spr (P : Nat → Bool) : Nat := pk (fun c => (P c).toNat)
theorem tn_lt (b : Bool) : b.toNat < 2 := by cases b <;> decide
theorem tn_bit (b : Bool) (j : Nat) : b.toNat.testBit j = (decide (j = 0) && b) := by
  cases b
  · simp
  · by_cases h : j = 0
    · subst h; rfl
    · rw [Bool.toNat_true, lt_bit (m := 1) (n := 1) (by decide) (by omega)]; simp [h]
theorem spr_bit (P : Nat → Bool) (i : Nat) : (spr P).testBit i = (decide (i < 64) && (decide (i % 4 = 0) && P (i / 4))) := by
  unfold spr
  rw [pn_bit (fun c _ => Nat.lt_trans (tn_lt _) (by decide)), tn_bit]
theorem spr_lt (P : Nat → Bool) : spr P < 18446744073709551616 := pn_lt (fun c _ => Nat.lt_trans (tn_lt _) (by decide))
theorem spr_1 (P : Nat → Bool) : spr P / 2 ^ 1 &&& 6148914691236517205 = 0 := by
  apply Nat.eq_of_testBit_eq; intro i
  rw [Nat.testBit_and, Nat.testBit_div_two_pow, spr_bit, Nat.zero_testBit]
  by_cases hi : i < 64
  · rw [k5_bit i hi]
    by_cases h : i % 2 = 0
    · have : ¬ (i + 1) % 4 = 0 := by omega
      simp [this]
    · simp [h]
  · have : ¬ i + 1 < 64 := by omega
    simp [this]
theorem spr_2 (P : Nat → Bool) : spr P &&& 3689348814741910323 = spr P := by
  apply Nat.eq_of_testBit_eq; intro i
  rw [Nat.testBit_and, spr_bit]
  by_cases hi : i < 64
  · rw [k3_bit i hi]
    by_cases h : i % 4 = 0
    · simp [h]
    · simp [h]
  · simp [hi]
theorem spr_3 (P : Nat → Bool) : spr P / 2 ^ 2 &&& 3689348814741910323 = 0 := by
  apply Nat.eq_of_testBit_eq; intro i
  rw [Nat.testBit_and, Nat.testBit_div_two_pow, spr_bit, Nat.zero_testBit]
  by_cases hi : i < 64
  · rw [k3_bit i hi]
    by_cases h : i % 4 < 2
    · have : ¬ (i + 2) % 4 = 0 := by omega
      simp [this]
    · simp [h]
  · have : ¬ i + 2 < 64 := by omega
    simp [this]
theorem pk_sum (f : Nat → Nat) : pk f = 1152921504606846976 * f 15 + (72057594037927936 * f 14 + (4503599627370496 * f 13 + (281474976710656 * f 12 + (17592186044416 * f 11 + (1099511627776 * f 10 + (68719476736 * f 9 + (4294967296 * f 8 + (268435456 * f 7 + (16777216 * f 6 + (1048576 * f 5 + (65536 * f 4 + (4096 * f 3 + (256 * f 2 + (16 * f 1 + (1 * f 0 + 0))))))))))))))) := rfl
theorem ct_sum (P : Nat → Bool) : cnt P = (P 0).toNat + (P 1).toNat + (P 2).toNat + (P 3).toNat + (P 4).toNat + (P 5).toNat + (P 6).toNat + (P 7).toNat + (P 8).toNat + (P 9).toNat + (P 10).toNat + (P 11).toNat + (P 12).toNat + (P 13).toNat + (P 14).toNat + (P 15).toNat := by
  have e : ∀ b : Bool, (if b = true then 1 else 0) = b.toNat := by decide
  have : ∀ n, fb_ct P (n + 1) = fb_ct P n + (P n).toNat := fun n => by rw [fb_ct_succ, e]
  unfold cnt
  rw [this 15, this 14, this 13, this 12, this 11, this 10, this 9, this 8, this 7, this 6, this 5, this 4, this 3, this 2, this 1, this 0]
  show 0 + _ + _ + _ + _ + _ + _ + _ + _ + _ + _ + _ + _ + _ + _ + _ + _ = _
  rw [Nat.zero_add]
/-- bytes of two -/
def byt (P : Nat → Bool) : Nat := pk (fun c => if c % 2 = 0 then (P c).toNat + (P (c + 1)).toNat else 0)
theorem spr_4 (P : Nat → Bool) : (spr P + spr P / 2 ^ 4) &&& 1085102592571150095 = byt P := by
  have hf : ∀ c, c < 16 → (fun c => (P c).toNat + if c < 15 then (P (c + 1)).toNat else 0) c < 16 := fun c _ => by
    have h1 := tn_lt (P c)
    have h2 := tn_lt (P (c + 1))
    show (P c).toNat + (if c < 15 then (P (c + 1)).toNat else 0) < 16
    split <;> omega
  have hg : ∀ c, c < 16 → (fun c => if c % 2 = 0 then (P c).toNat + (P (c + 1)).toNat else 0) c < 16 := fun c _ => by
    have h1 := tn_lt (P c)
    have h2 := tn_lt (P (c + 1))
    show (if c % 2 = 0 then (P c).toNat + (P (c + 1)).toNat else 0) < 16
    split <;> omega
  have e : spr P + spr P / 2 ^ 4 = pk (fun c => (P c).toNat + if c < 15 then (P (c + 1)).toNat else 0) := by
    unfold spr
    rw [pk_sum, pk_sum]
    simp only [show ((0 : Nat) < 15) = True from by decide, show ((1 : Nat) < 15) = True from by decide, show ((2 : Nat) < 15) = True from by decide, show ((3 : Nat) < 15) = True from by decide, show ((4 : Nat) < 15) = True from by decide, show ((5 : Nat) < 15) = True from by decide, show ((6 : Nat) < 15) = True from by decide, show ((7 : Nat) < 15) = True from by decide, show ((8 : Nat) < 15) = True from by decide, show ((9 : Nat) < 15) = True from by decide, show ((10 : Nat) < 15) = True from by decide, show ((11 : Nat) < 15) = True from by decide, show ((12 : Nat) < 15) = True from by decide, show ((13 : Nat) < 15) = True from by decide, show ((14 : Nat) < 15) = True from by decide, show ((15 : Nat) < 15) = False from by decide, if_true, if_false, Nat.add_zero, Nat.reduceAdd]
    have h0 := tn_lt (P 0)
    generalize (P 0).toNat = x0 at *
    generalize (P 1).toNat = x1
    generalize (P 2).toNat = x2
    generalize (P 3).toNat = x3
    generalize (P 4).toNat = x4
    generalize (P 5).toNat = x5
    generalize (P 6).toNat = x6
    generalize (P 7).toNat = x7
    generalize (P 8).toNat = x8
    generalize (P 9).toNat = x9
    generalize (P 10).toNat = x10
    generalize (P 11).toNat = x11
    generalize (P 12).toNat = x12
    generalize (P 13).toNat = x13
    generalize (P 14).toNat = x14
    generalize (P 15).toNat = x15
    clear hf hg
    omega
  rw [e]
  unfold byt
  apply Nat.eq_of_testBit_eq; intro i
  rw [Nat.testBit_and, pn_bit hf, pn_bit hg]
  by_cases hi : i < 64
  · rw [kf_bit i hi]
    by_cases h : i / 4 % 2 = 0
    · have h15 : i / 4 < 15 := by omega
      simp [hi, h, h15]
    · simp [h]
  · simp [hi]
def lbN (m : Nat) : Nat :=
  let e := m + m / 2 ^ 8
  let f := e + e / 2 ^ 16
  let g := f + f / 2 ^ 32
  g % 128
theorem lb_byt (P : Nat → Bool) : lbN (byt P) = cnt P := by
  rw [ct_sum]
  unfold lbN byt
  rw [pk_sum]
  simp only [show ∀ n : Nat, (0 : Nat) % 2 = 0 from fun _ => rfl, Nat.reduceMod, Nat.reduceAdd, if_true, Nat.one_ne_zero, if_false, Nat.mul_zero, Nat.zero_add]
  have h0 := tn_lt (P 0)
  have h1 := tn_lt (P 1)
  have h2 := tn_lt (P 2)
  have h3 := tn_lt (P 3)
  have h4 := tn_lt (P 4)
  have h5 := tn_lt (P 5)
  have h6 := tn_lt (P 6)
  have h7 := tn_lt (P 7)
  have h8 := tn_lt (P 8)
  have h9 := tn_lt (P 9)
  have h10 := tn_lt (P 10)
  have h11 := tn_lt (P 11)
  have h12 := tn_lt (P 12)
  have h13 := tn_lt (P 13)
  have h14 := tn_lt (P 14)
  have h15 := tn_lt (P 15)
  obtain ⟨y0, e0, b0⟩ : ∃ y, y = (P 0).toNat + (P 1).toNat ∧ y ≤ 2 := ⟨_, rfl, by omega⟩
  obtain ⟨y1, e1, b1⟩ : ∃ y, y = (P 2).toNat + (P 3).toNat ∧ y ≤ 2 := ⟨_, rfl, by omega⟩
  obtain ⟨y2, e2, b2⟩ : ∃ y, y = (P 4).toNat + (P 5).toNat ∧ y ≤ 2 := ⟨_, rfl, by omega⟩
  obtain ⟨y3, e3, b3⟩ : ∃ y, y = (P 6).toNat + (P 7).toNat ∧ y ≤ 2 := ⟨_, rfl, by omega⟩
  obtain ⟨y4, e4, b4⟩ : ∃ y, y = (P 8).toNat + (P 9).toNat ∧ y ≤ 2 := ⟨_, rfl, by omega⟩
  obtain ⟨y5, e5, b5⟩ : ∃ y, y = (P 10).toNat + (P 11).toNat ∧ y ≤ 2 := ⟨_, rfl, by omega⟩
  obtain ⟨y6, e6, b6⟩ : ∃ y, y = (P 12).toNat + (P 13).toNat ∧ y ≤ 2 := ⟨_, rfl, by omega⟩
  obtain ⟨y7, e7, b7⟩ : ∃ y, y = (P 14).toNat + (P 15).toNat ∧ y ≤ 2 := ⟨_, rfl, by omega⟩
  clear h0 h1 h2 h3 h4 h5 h6 h7 h8 h9 h10 h11 h12 h13 h14 h15
  have es : (P 0).toNat + (P 1).toNat + (P 2).toNat + (P 3).toNat + (P 4).toNat + (P 5).toNat + (P 6).toNat + (P 7).toNat + (P 8).toNat + (P 9).toNat + (P 10).toNat + (P 11).toNat + (P 12).toNat + (P 13).toNat + (P 14).toNat + (P 15).toNat = y0 + y1 + y2 + y3 + y4 + y5 + y6 + y7 := by omega
  rw [es, ← e0, ← e1, ← e2, ← e3, ← e4, ← e5, ← e6, ← e7]
  clear es e0 e1 e2 e3 e4 e5 e6 e7
  obtain ⟨c, ec⟩ : ∃ c, c = 72057594037927936 * y7 + (281474976710656 * y6 + (1099511627776 * y5 + (4294967296 * y4 + (16777216 * y3 + (65536 * y2 + (256 * y1 + (1 * y0 + 0))))))) := ⟨_, rfl⟩
  rw [← ec]
  have d8 : c / 2 ^ 8 = 281474976710656 * y7 + (1099511627776 * y6 + (4294967296 * y5 + (16777216 * y4 + (65536 * y3 + (256 * y2 + y1))))) := by omega
  obtain ⟨e, ee⟩ : ∃ e, e = c + c / 2 ^ 8 := ⟨_, rfl⟩
  rw [← ee]
  rw [d8, ec] at ee
  have d16 : e / 2 ^ 16 = 1099511627776 * y7 + (4294967296 * (y6 + y7) + (16777216 * (y5 + y6) + (65536 * (y4 + y5) + (256 * (y3 + y4) + (y2 + y3))))) := by
    clear d8 ec
    omega
  obtain ⟨f, ef⟩ : ∃ f, f = e + e / 2 ^ 16 := ⟨_, rfl⟩
  rw [← ef]
  rw [d16, ee] at ef
  have d32 : f / 2 ^ 32 = 16777216 * y7 + (65536 * (y6 + y7) + (256 * (y5 + y6 + y7) + (y4 + y5 + y6 + y7))) := by
    clear d8 ec d16 ee
    omega
  rw [d32, ef]
  clear d8 ec d16 ee d32 ef
  omega
/-- where two boards differ -/
def dif (f g : Nat → Nat) (c : Nat) : Bool := decide (¬ f c = g c)
theorem nib_or : ∀ n, n < 16 → (((n.testBit 0 || n.testBit 1) || n.testBit 2) || n.testBit 3) = decide (¬ n = 0) := by decide +kernel
theorem xor_0 {a b : Nat} : a ^^^ b = 0 ↔ a = b := by
  constructor
  · intro h
    have h2 := congrArg (fun z => z ^^^ b) h
    simpa [Nat.xor_assoc] using h2
  · rintro rfl; exact Nat.xor_self a
theorem pk_xor {f g : Nat → Nat} (hf : ∀ c, c < 16 → f c < 16) (hg : ∀ c, c < 16 → g c < 16) : pk f ^^^ pk g = pk (fun c => f c ^^^ g c) := by
  have hx : ∀ c, c < 16 → (fun c => f c ^^^ g c) c < 16 := fun c hc => Nat.xor_lt_two_pow (n := 4) (hf c hc) (hg c hc)
  apply Nat.eq_of_testBit_eq; intro i
  rw [Nat.testBit_xor, pn_bit hf, pn_bit hg, pn_bit hx, Nat.testBit_xor]
  cases decide (i < 64) <;> simp
theorem spread {f g : Nat → Nat} (hf : ∀ c, c < 16 → f c < 16) (hg : ∀ c, c < 16 → g c < 16) (x y : Nat) (hx : x = pk f ^^^ pk g) (hy : y = x ||| x / 2 ^ 1) : (y ||| y / 2 ^ 2) &&& 1229782938247303441 = spr (dif f g) := by
  have hn : ∀ c, c < 16 → (fun c => f c ^^^ g c) c < 16 := fun c hc => Nat.xor_lt_two_pow (n := 4) (hf c hc) (hg c hc)
  subst hy
  rw [hx, pk_xor hf hg]
  apply Nat.eq_of_testBit_eq; intro i
  rw [spr_bit, Nat.testBit_and]
  by_cases hi : i < 64
  · rw [k1_bit i hi]
    by_cases h : i % 4 = 0
    · rw [Nat.testBit_or, Nat.testBit_or, Nat.testBit_div_two_pow, Nat.testBit_div_two_pow, Nat.testBit_or, Nat.testBit_div_two_pow, pn_bit hn, pn_bit hn, pn_bit hn, pn_bit hn]
      have hc : i / 4 < 16 := by omega
      have a1 : (i + 1) / 4 = i / 4 := by omega
      have a2 : (i + 2) / 4 = i / 4 := by omega
      have a3 : (i + 2 + 1) / 4 = i / 4 := by omega
      have c1 : (i + 1) % 4 = 1 := by omega
      have c2 : (i + 2) % 4 = 2 := by omega
      have c3 : (i + 2 + 1) % 4 = 3 := by omega
      have d1 : i + 1 < 64 := by omega
      have d2 : i + 2 < 64 := by omega
      have d3 : i + 2 + 1 < 64 := by omega
      have key := nib_or _ (hn _ hc)
      have e : decide (¬ (f (i / 4) ^^^ g (i / 4)) = 0) = dif f g (i / 4) := decide_eq_decide.mpr (not_congr xor_0)
      rw [a1, a2, a3, c1, c2, c3, h, decide_eq_true hi, decide_eq_true d1, decide_eq_true d2, decide_eq_true d3, Bool.true_and, Bool.true_and, Bool.true_and, Bool.true_and, Bool.true_and, ← e, ← key]
      simp [Bool.or_assoc]
    · simp [h]
  · rw [lt_bit (m := 1229782938247303441) (n := 64) (by decide) (by omega)]; simp [hi]
def samB (b b2 : Bd) : Bool := decide (pk b.1 = pk b2.1 ∧ pk b.2.1 = pk b2.2.1 ∧ b.2.2.1 = b2.2.2.1)
section SAM
variable {d : Nat} {I : MemI} {J : MemJ}
set_option maxHeartbeats 16000000 in
theorem sp_J13_bitCount {Ω : Shp} {P : Nat → Bool} : CALL Ω d kJ13_bitCount_95d88 [.long (lN (spr P))] I J (PQ (.int (nI (cnt P))) I J) := by
  have h0 := spr_lt P
  have hb : byt P ≤ 1085102592571150095 := by
    rw [← spr_4]
    exact Nat.and_le_right
  have h1 := spr_1 P
  have h2 := spr_2 P
  have h3 := spr_3 P
  have h4 := spr_4 P
  have h5 := lb_byt P
  have h6 : spr P < 2 ^ 63 := by
    refine Nat.lt_pow_two_of_testBit _ (fun i hi => ?_)
    rw [spr_bit]
    rcases Nat.lt_or_ge i 64 with z | z
    · have : ¬ i % 4 = 0 := by omega
      simp [this]
    · have : ¬ i < 64 := by omega
      simp [this]
  generalize spr P = x at h0 h1 h2 h3 h4 h6 ⊢
  generalize byt P = y at hb h4 h5
  have hxx : x + x / 2 ^ 4 < 18446744073709551616 := by omega
  obtain ⟨e, he⟩ : ∃ e, e = y + y / 2 ^ 8 := ⟨_, rfl⟩
  obtain ⟨f, hf⟩ : ∃ f, f = e + e / 2 ^ 16 := ⟨_, rfl⟩
  obtain ⟨g, hg⟩ : ∃ g, g = f + f / 2 ^ 32 := ⟨_, rfl⟩
  have b0 : y < 18446744073709551616 := by omega
  have b1 : e < 18446744073709551616 := by omega
  have b2 : f < 18446744073709551616 := by omega
  have h7 : g % 128 = cnt P := by rw [← h5, hg, hf, he]; rfl
  clear hb h5 h6
  refine call_of_wp (by decide) (Nat.le_of_ble_eq_true rfl) ?_
  refine wp_lload_n (pc := 0) (i := 0) dJ13_bitCount_95d88_0 rfl rfl ?_
  refine wp_lload_n (pc := 1) (i := 0) dJ13_bitCount_95d88_1 rfl rfl ?_
  refine wp_iconst (pc := 2) (v := nI 1) dJ13_bitCount_95d88_2 (by decide +kernel) ?_
  first | (refine wp_lushrN (pc := 3) dJ13_bitCount_95d88_3 (by first | with_reducible assumption | omega) (by first | with_reducible assumption | omega) ?_) | (refine wp_lushr (pc := 3) dJ13_bitCount_95d88_3 ?_)
  refine wp_ldc2_w (pc := 4) (v := lN 6148914691236517205) dJ13_bitCount_95d88_4 kl_J13_314 ?_
  first | (refine wp_landN (pc := 7) dJ13_bitCount_95d88_7 (by first | with_reducible assumption | omega) (by first | with_reducible assumption | omega) ?_) | (refine wp_land (pc := 7) dJ13_bitCount_95d88_7 ?_)
  rw [h1]
  first | (refine wp_lsubN (pc := 8) dJ13_bitCount_95d88_8 (by first | with_reducible assumption | omega) ?_) | (refine wp_lsub (pc := 8) dJ13_bitCount_95d88_8 ?_)
  rw [Nat.sub_zero]
  refine wp_lstore_n (pc := 9) (i := 0) dJ13_bitCount_95d88_9 rfl (by decide) ?_
  refine wp_lload_n (pc := 10) (i := 0) dJ13_bitCount_95d88_10 rfl rfl ?_
  refine wp_ldc2_w (pc := 11) (v := lN 3689348814741910323) dJ13_bitCount_95d88_11 kl_J13_316 ?_
  first | (refine wp_landN (pc := 14) dJ13_bitCount_95d88_14 (by first | with_reducible assumption | omega) (by first | with_reducible assumption | omega) ?_) | (refine wp_land (pc := 14) dJ13_bitCount_95d88_14 ?_)
  rw [h2]
  refine wp_lload_n (pc := 15) (i := 0) dJ13_bitCount_95d88_15 rfl rfl ?_
  refine wp_iconst (pc := 16) (v := nI 2) dJ13_bitCount_95d88_16 (by decide +kernel) ?_
  first | (refine wp_lushrN (pc := 17) dJ13_bitCount_95d88_17 (by first | with_reducible assumption | omega) (by first | with_reducible assumption | omega) ?_) | (refine wp_lushr (pc := 17) dJ13_bitCount_95d88_17 ?_)
  refine wp_ldc2_w (pc := 18) (v := lN 3689348814741910323) dJ13_bitCount_95d88_18 kl_J13_316 ?_
  first | (refine wp_landN (pc := 21) dJ13_bitCount_95d88_21 (by first | with_reducible assumption | omega) (by first | with_reducible assumption | omega) ?_) | (refine wp_land (pc := 21) dJ13_bitCount_95d88_21 ?_)
  rw [h3]
  first | (refine wp_laddN (pc := 22) dJ13_bitCount_95d88_22 ?_) | (refine wp_ladd (pc := 22) dJ13_bitCount_95d88_22 ?_)
  rw [show x + 0 = x from rfl]
  refine wp_lstore_n (pc := 23) (i := 0) dJ13_bitCount_95d88_23 rfl (by decide) ?_
  refine wp_lload_n (pc := 24) (i := 0) dJ13_bitCount_95d88_24 rfl rfl ?_
  refine wp_lload_n (pc := 25) (i := 0) dJ13_bitCount_95d88_25 rfl rfl ?_
  refine wp_iconst (pc := 26) (v := nI 4) dJ13_bitCount_95d88_26 (by decide +kernel) ?_
  first | (refine wp_lushrN (pc := 27) dJ13_bitCount_95d88_27 (by first | with_reducible assumption | omega) (by first | with_reducible assumption | omega) ?_) | (refine wp_lushr (pc := 27) dJ13_bitCount_95d88_27 ?_)
  first | (refine wp_laddN (pc := 28) dJ13_bitCount_95d88_28 ?_) | (refine wp_ladd (pc := 28) dJ13_bitCount_95d88_28 ?_)
  refine wp_ldc2_w (pc := 29) (v := lN 1085102592571150095) dJ13_bitCount_95d88_29 kl_J13_318 ?_
  first | (refine wp_landN (pc := 32) dJ13_bitCount_95d88_32 (by first | with_reducible assumption | omega) (by first | with_reducible assumption | omega) ?_) | (refine wp_land (pc := 32) dJ13_bitCount_95d88_32 ?_)
  rw [h4]
  refine wp_lstore_n (pc := 33) (i := 0) dJ13_bitCount_95d88_33 rfl (by decide) ?_
  refine wp_lload_n (pc := 34) (i := 0) dJ13_bitCount_95d88_34 rfl rfl ?_
  refine wp_lload_n (pc := 35) (i := 0) dJ13_bitCount_95d88_35 rfl rfl ?_
  refine wp_bipush (pc := 36) (v := nI 8) dJ13_bitCount_95d88_36 (by decide +kernel) ?_
  first | (refine wp_lushrN (pc := 38) dJ13_bitCount_95d88_38 (by first | with_reducible assumption | omega) (by first | with_reducible assumption | omega) ?_) | (refine wp_lushr (pc := 38) dJ13_bitCount_95d88_38 ?_)
  first | (refine wp_laddN (pc := 39) dJ13_bitCount_95d88_39 ?_) | (refine wp_ladd (pc := 39) dJ13_bitCount_95d88_39 ?_)
  rw [← he]
  refine wp_lstore_n (pc := 40) (i := 0) dJ13_bitCount_95d88_40 rfl (by decide) ?_
  refine wp_lload_n (pc := 41) (i := 0) dJ13_bitCount_95d88_41 rfl rfl ?_
  refine wp_lload_n (pc := 42) (i := 0) dJ13_bitCount_95d88_42 rfl rfl ?_
  refine wp_bipush (pc := 43) (v := nI 16) dJ13_bitCount_95d88_43 (by decide +kernel) ?_
  first | (refine wp_lushrN (pc := 45) dJ13_bitCount_95d88_45 (by first | with_reducible assumption | omega) (by first | with_reducible assumption | omega) ?_) | (refine wp_lushr (pc := 45) dJ13_bitCount_95d88_45 ?_)
  first | (refine wp_laddN (pc := 46) dJ13_bitCount_95d88_46 ?_) | (refine wp_ladd (pc := 46) dJ13_bitCount_95d88_46 ?_)
  rw [← hf]
  refine wp_lstore_n (pc := 47) (i := 0) dJ13_bitCount_95d88_47 rfl (by decide) ?_
  refine wp_lload_n (pc := 48) (i := 0) dJ13_bitCount_95d88_48 rfl rfl ?_
  refine wp_lload_n (pc := 49) (i := 0) dJ13_bitCount_95d88_49 rfl rfl ?_
  refine wp_bipush (pc := 50) (v := nI 32) dJ13_bitCount_95d88_50 (by decide +kernel) ?_
  first | (refine wp_lushrN (pc := 52) dJ13_bitCount_95d88_52 (by first | with_reducible assumption | omega) (by first | with_reducible assumption | omega) ?_) | (refine wp_lushr (pc := 52) dJ13_bitCount_95d88_52 ?_)
  first | (refine wp_laddN (pc := 53) dJ13_bitCount_95d88_53 ?_) | (refine wp_ladd (pc := 53) dJ13_bitCount_95d88_53 ?_)
  rw [← hg]
  refine wp_lstore_n (pc := 54) (i := 0) dJ13_bitCount_95d88_54 rfl (by decide) ?_
  refine wp_lload_n (pc := 55) (i := 0) dJ13_bitCount_95d88_55 rfl rfl ?_
  first | (refine wp_l2iN (pc := 56) dJ13_bitCount_95d88_56 ?_) | (refine wp_l2i (pc := 56) dJ13_bitCount_95d88_56 ?_)
  refine wp_bipush (pc := 57) (v := nI 127) dJ13_bitCount_95d88_57 (by decide +kernel) ?_
  first | (refine wp_iandN (pc := 59) dJ13_bitCount_95d88_59 ?_) | (refine wp_iand (pc := 59) dJ13_bitCount_95d88_59 ?_)
  refine wp_ireturn (pc := 60) dJ13_bitCount_95d88_60 rfl ?_
  exact pq_i (by rw [← h7]; exact congrArg nI (Nat.and_two_pow_sub_one_eq_mod _ 7))
set_option maxHeartbeats 16000000 in
theorem sp_X2_differing {p q : Nat} {b b2 : Bd} (hp : isP p) (hq : isP q) (hb : PL p b I J) (hb2 : PL q b2 I J) (hs : ∀ c, c < 16 → b.1 c < 12) (hs2 : ∀ c, c < 16 → b2.1 c < 12) : CALL ΩC (d + 1) kX2_differing [.ref p, .ref q] I J (PQ (.int (nI (cnt (dif b.1 b2.1)))) I J) := by
  have hs' : ∀ c, c < 16 → b.1 c < 16 := fun c h => Nat.lt_trans (hs c h) (by decide)
  have hs2' : ∀ c, c < 16 → b2.1 c < 16 := fun c h => Nat.lt_trans (hs2 c h) (by decide)
  have e3 : J p 3 = lN (pk b.1) := hb.2 3 (by omega) (by omega)
  have g3 : J q 3 = lN (pk b2.1) := hb2.2 3 (by omega) (by omega)
  obtain ⟨x, hx⟩ : ∃ x, x = pk b.1 ^^^ pk b2.1 := ⟨_, rfl⟩
  obtain ⟨y, hy⟩ : ∃ y, y = x ||| x / 2 ^ 1 := ⟨_, rfl⟩
  have hxl : x < 18446744073709551616 := by rw [hx]; exact Nat.xor_lt_two_pow (n := 64) (pn_lt hs') (pn_lt hs2')
  have hyl : y < 18446744073709551616 := by rw [hy]; exact Nat.or_lt_two_pow (n := 64) hxl (Nat.lt_of_le_of_lt (Nat.div_le_self _ _) hxl)
  have hzl : (y ||| y / 2 ^ 2) < 18446744073709551616 := Nat.or_lt_two_pow (n := 64) hyl (Nat.lt_of_le_of_lt (Nat.div_le_self _ _) hyl)
  have hsp := spread hs' hs2' x y hx hy
  obtain ⟨q1, q2, q3, q4, q5⟩ := isP_sh hp
  obtain ⟨r1, r2, r3, r4, r5⟩ := isP_sh hq
  refine call_of_wp (by decide) (Nat.le_of_ble_eq_true rfl) ?_
  refine wp_aload_n (pc := 0) (i := 0) dX2_differing_0 rfl rfl (by first | with_reducible assumption | rfl) ?_
  refine wp_getJ (pc := 1) dX2_differing_1 lf_X2_19 (by first | with_reducible assumption | rfl) (by first | with_reducible assumption | rfl) rfl ?_
  rw [e3]
  refine wp_aload_n (pc := 4) (i := 1) dX2_differing_4 rfl rfl (by first | with_reducible assumption | rfl) ?_
  refine wp_getJ (pc := 5) dX2_differing_5 lf_X2_19 (by first | with_reducible assumption | rfl) (by first | with_reducible assumption | rfl) rfl ?_
  rw [g3]
  first | (refine wp_lxorN (pc := 8) dX2_differing_8 ?_) | (refine wp_lxor (pc := 8) dX2_differing_8 ?_)
  rw [← hx]
  refine wp_lstore_n (pc := 9) (i := 2) dX2_differing_9 rfl (by decide) ?_
  refine wp_lload_n (pc := 10) (i := 2) dX2_differing_10 rfl rfl ?_
  refine wp_lload_n (pc := 11) (i := 2) dX2_differing_11 rfl rfl ?_
  refine wp_iconst (pc := 12) (v := nI 1) dX2_differing_12 (by decide +kernel) ?_
  first | (refine wp_lushrN (pc := 13) dX2_differing_13 (by first | with_reducible assumption | omega) (by first | with_reducible assumption | omega) ?_) | (refine wp_lushr (pc := 13) dX2_differing_13 ?_)
  first | (refine wp_lorN (pc := 14) dX2_differing_14 (by first | with_reducible assumption | omega) (by first | with_reducible assumption | omega) ?_) | (refine wp_lor (pc := 14) dX2_differing_14 ?_)
  rw [← hy]
  refine wp_lstore_n (pc := 15) (i := 2) dX2_differing_15 rfl (by decide) ?_
  refine wp_lload_n (pc := 16) (i := 2) dX2_differing_16 rfl rfl ?_
  refine wp_lload_n (pc := 17) (i := 2) dX2_differing_17 rfl rfl ?_
  refine wp_iconst (pc := 18) (v := nI 2) dX2_differing_18 (by decide +kernel) ?_
  first | (refine wp_lushrN (pc := 19) dX2_differing_19 (by first | with_reducible assumption | omega) (by first | with_reducible assumption | omega) ?_) | (refine wp_lushr (pc := 19) dX2_differing_19 ?_)
  first | (refine wp_lorN (pc := 20) dX2_differing_20 (by first | with_reducible assumption | omega) (by first | with_reducible assumption | omega) ?_) | (refine wp_lor (pc := 20) dX2_differing_20 ?_)
  refine wp_lstore_n (pc := 21) (i := 2) dX2_differing_21 rfl (by decide) ?_
  refine wp_lload_n (pc := 22) (i := 2) dX2_differing_22 rfl rfl ?_
  refine wp_ldc2_w (pc := 23) (v := lN 1229782938247303441) dX2_differing_23 kl_X2_138 ?_
  first | (refine wp_landN (pc := 26) dX2_differing_26 (by first | with_reducible assumption | omega) (by first | with_reducible assumption | omega) ?_) | (refine wp_land (pc := 26) dX2_differing_26 ?_)
  rw [hsp]
  refine wp_cSP1 (pc := 27) dX2_differing_27 lm_X2_140 m_J13_bitCount_95d88 (Nat.le_of_ble_eq_true rfl) (sp_J13_bitCount) ?_
  refine wp_ireturn (pc := 30) dX2_differing_30 rfl ?_
  exact pq_i rfl
set_option maxHeartbeats 16000000 in
theorem sp_X2_isAs {p q : Nat} {b b2 : Bd} (hp : isP p) (hq : isP q) (hb : PL p b I J) (hb2 : PL q b2 I J) (hs : ∀ c, c < 16 → b.1 c < 12) (hs2 : ∀ c, c < 16 → b2.1 c < 12) (ht : ∀ c, c < 16 → b.2.1 c < 10) (ht2 : ∀ c, c < 16 → b2.2.1 c < 10) (ho : b.2.2.1 < 2) (ho2 : b2.2.2.1 < 2) : CALL ΩC d kX2_isAs [.ref p, .ref q] I J (PQ (.int (bI (samB b b2))) I J) := by
  have l1 := pn_lt (f := b.1) (fun c h => Nat.lt_trans (hs c h) (by decide))
  have l2 := pn_lt (f := b2.1) (fun c h => Nat.lt_trans (hs2 c h) (by decide))
  have l3 := pn_lt (f := b.2.1) (fun c h => Nat.lt_trans (ht c h) (by decide))
  have l4 := pn_lt (f := b2.2.1) (fun c h => Nat.lt_trans (ht2 c h) (by decide))
  have e3 : J p 3 = lN (pk b.1) := hb.2 3 (by omega) (by omega)
  have g3 : J q 3 = lN (pk b2.1) := hb2.2 3 (by omega) (by omega)
  have e4 : J p 4 = lN (pk b.2.1) := hb.2 4 (by omega) (by omega)
  have g4 : J q 4 = lN (pk b2.2.1) := hb2.2 4 (by omega) (by omega)
  have e9 : I p 9 = nI b.2.2.1 := hb.1 9 (by omega) (by omega)
  have g9 : I q 9 = nI b2.2.2.1 := hb2.1 9 (by omega) (by omega)
  have k1 : ∀ z : lg_cmp (lN (pk b.1)) (lN (pk b2.1)) = 0, pk b.1 = pk b2.1 := fun z => (lN_inj64 l1 l2).mp (lcmp_0.mp z)
  have k2 : ∀ z : lg_cmp (lN (pk b.2.1)) (lN (pk b2.2.1)) = 0, pk b.2.1 = pk b2.2.1 := fun z => (lN_inj64 l3 l4).mp (lcmp_0.mp z)
  have n1 : ¬ lg_cmp (lN (pk b.1)) (lN (pk b2.1)) = 0 → samB b b2 = false := fun z => decide_eq_false (fun y => z (lcmp_0.mpr (by rw [y.1])))
  have n2 : ¬ lg_cmp (lN (pk b.2.1)) (lN (pk b2.2.1)) = 0 → samB b b2 = false := fun z => decide_eq_false (fun y => z (lcmp_0.mpr (by rw [y.2.1])))
  obtain ⟨q1, q2, q3, q4, q5⟩ := isP_sh hp
  obtain ⟨r1, r2, r3, r4, r5⟩ := isP_sh hq
  refine call_of_wp (by decide) (Nat.le_of_ble_eq_true rfl) ?_
  refine wp_aload_n (pc := 0) (i := 0) dX2_isAs_0 rfl rfl (by first | with_reducible assumption | rfl) ?_
  refine wp_getJ (pc := 1) dX2_isAs_1 lf_X2_19 (by first | with_reducible assumption | rfl) (by first | with_reducible assumption | rfl) rfl ?_
  rw [e3]
  refine wp_aload_n (pc := 4) (i := 1) dX2_isAs_4 rfl rfl (by first | with_reducible assumption | rfl) ?_
  refine wp_getJ (pc := 5) dX2_isAs_5 lf_X2_19 (by first | with_reducible assumption | rfl) (by first | with_reducible assumption | rfl) rfl ?_
  rw [g3]
  refine wp_lcmp (pc := 8) dX2_isAs_8 ?_
  refine wp_if_ne (pc := 9) (tgt := 39) dX2_isAs_9 (by decide) (fun c_9 => ?_) (fun c_9 => ?_)
  · refine wp_iconst (pc := 39) (v := nI 0) dX2_isAs_39 (by decide +kernel) ?_
    refine wp_zreturn (pc := 40) dX2_isAs_40 rfl (by first | exact bI_narrow _ | exact nI_narrow01 (by omega) | decide +kernel | assumption) ?_
    first
      | (have g : ¬ b.2.2.1 = b2.2.2.1 := c_32; exact pq_i (by rw [show samB b b2 = false from decide_eq_false (fun y => g y.2.2)]; exact bI_f.symm))
      | (have g : b.2.2.1 = b2.2.2.1 := c_32; exact pq_i (by rw [show samB b b2 = true from decide_eq_true ⟨k1 c_9, k2 c_21, g⟩]; exact bI_t.symm))
      | (have g := n2 c_21; exact pq_i (by rw [g]; exact bI_f.symm))
      | (have g := n1 c_9; exact pq_i (by rw [g]; exact bI_f.symm))
  · refine wp_aload_n (pc := 12) (i := 0) dX2_isAs_12 rfl rfl (by first | with_reducible assumption | rfl) ?_
    refine wp_getJ (pc := 13) dX2_isAs_13 lf_X2_23 (by first | with_reducible assumption | rfl) (by first | with_reducible assumption | rfl) rfl ?_
    rw [e4]
    refine wp_aload_n (pc := 16) (i := 1) dX2_isAs_16 rfl rfl (by first | with_reducible assumption | rfl) ?_
    refine wp_getJ (pc := 17) dX2_isAs_17 lf_X2_23 (by first | with_reducible assumption | rfl) (by first | with_reducible assumption | rfl) rfl ?_
    rw [g4]
    refine wp_lcmp (pc := 20) dX2_isAs_20 ?_
    refine wp_if_ne (pc := 21) (tgt := 39) dX2_isAs_21 (by decide) (fun c_21 => ?_) (fun c_21 => ?_)
    · refine wp_iconst (pc := 39) (v := nI 0) dX2_isAs_39 (by decide +kernel) ?_
      refine wp_zreturn (pc := 40) dX2_isAs_40 rfl (by first | exact bI_narrow _ | exact nI_narrow01 (by omega) | decide +kernel | assumption) ?_
      first
        | (have g : ¬ b.2.2.1 = b2.2.2.1 := c_32; exact pq_i (by rw [show samB b b2 = false from decide_eq_false (fun y => g y.2.2)]; exact bI_f.symm))
        | (have g : b.2.2.1 = b2.2.2.1 := c_32; exact pq_i (by rw [show samB b b2 = true from decide_eq_true ⟨k1 c_9, k2 c_21, g⟩]; exact bI_t.symm))
        | (have g := n2 c_21; exact pq_i (by rw [g]; exact bI_f.symm))
        | (have g := n1 c_9; exact pq_i (by rw [g]; exact bI_f.symm))
    · refine wp_aload_n (pc := 24) (i := 0) dX2_isAs_24 rfl rfl (by first | with_reducible assumption | rfl) ?_
      refine wp_getI (pc := 25) dX2_isAs_25 lf_X2_38 (by first | with_reducible assumption | rfl) (by first | with_reducible assumption | rfl) rfl ?_
      rw [e9]
      refine wp_aload_n (pc := 28) (i := 1) dX2_isAs_28 rfl rfl (by first | with_reducible assumption | rfl) ?_
      refine wp_getI (pc := 29) dX2_isAs_29 lf_X2_38 (by first | with_reducible assumption | rfl) (by first | with_reducible assumption | rfl) rfl ?_
      rw [g9]
      first | (refine wp_icmp_neN (pc := 32) (tgt := 39) dX2_isAs_32 (by decide) (by first | with_reducible assumption | omega) (by first | with_reducible assumption | omega) (fun c_32 => ?_) (fun c_32 => ?_)) | (refine wp_icmp_ne (pc := 32) (tgt := 39) dX2_isAs_32 (by decide) (fun c_32 => ?_) (fun c_32 => ?_))
      · refine wp_iconst (pc := 39) (v := nI 0) dX2_isAs_39 (by decide +kernel) ?_
        refine wp_zreturn (pc := 40) dX2_isAs_40 rfl (by first | exact bI_narrow _ | exact nI_narrow01 (by omega) | decide +kernel | assumption) ?_
        first
          | (have g : ¬ b.2.2.1 = b2.2.2.1 := c_32; exact pq_i (by rw [show samB b b2 = false from decide_eq_false (fun y => g y.2.2)]; exact bI_f.symm))
          | (have g : b.2.2.1 = b2.2.2.1 := c_32; exact pq_i (by rw [show samB b b2 = true from decide_eq_true ⟨k1 c_9, k2 c_21, g⟩]; exact bI_t.symm))
          | (have g := n2 c_21; exact pq_i (by rw [g]; exact bI_f.symm))
          | (have g := n1 c_9; exact pq_i (by rw [g]; exact bI_f.symm))
      · refine wp_iconst (pc := 35) (v := nI 1) dX2_isAs_35 (by decide +kernel) ?_
        refine wp_goto (pc := 36) (tgt := 40) dX2_isAs_36 (by decide) ?_
        refine wp_zreturn (pc := 40) dX2_isAs_40 rfl (by first | exact bI_narrow _ | exact nI_narrow01 (by omega) | decide +kernel | assumption) ?_
        first
          | (have g : ¬ b.2.2.1 = b2.2.2.1 := c_32; exact pq_i (by rw [show samB b b2 = false from decide_eq_false (fun y => g y.2.2)]; exact bI_f.symm))
          | (have g : b.2.2.1 = b2.2.2.1 := c_32; exact pq_i (by rw [show samB b b2 = true from decide_eq_true ⟨k1 c_9, k2 c_21, g⟩]; exact bI_t.symm))
          | (have g := n2 c_21; exact pq_i (by rw [g]; exact bI_f.symm))
          | (have g := n1 c_9; exact pq_i (by rw [g]; exact bI_f.symm))
end SAM
