/-! SETS OF CELLS AS BITS; PACKS OF SIXTEEN NIBBLES; COUNTS OF BITS -/
/-- the set of those i < n with P -/
def msN (P : Nat → Bool) : Nat → Nat
  | 0 => 0
  | n + 1 => 2 ^ n * (P n).toNat + msN P n
def mset (P : Nat → Bool) : Nat := msN P 16
theorem lt_bit {m n i : Nat} (h : m < 2 ^ n) (hi : n ≤ i) : m.testBit i = false :=
  Nat.testBit_lt_two_pow (Nat.lt_of_lt_of_le h (Nat.pow_le_pow_right (by decide) hi))
theorem msN_lt (P : Nat → Bool) : ∀ n, msN P n < 2 ^ n
  | 0 => by simp [msN]
  | n + 1 => by
    have h := msN_lt P n
    unfold msN
    rw [Nat.pow_succ]
    cases P n <;> simp <;> omega
theorem msN_bit (P : Nat → Bool) : ∀ n i, (msN P n).testBit i = (decide (i < n) && P i)
  | 0, i => by simp [msN]
  | n + 1, i => by
    unfold msN
    rw [Nat.testBit_two_pow_mul_add _ (msN_lt P n)]
    rw [msN_bit P n i]
    by_cases h : i < n
    · rw [if_pos h]
      simp [h, Nat.lt_succ_of_lt h]
    · rw [if_neg h]
      by_cases he : i = n
      · subst he
        rw [Nat.sub_self]
        cases P i <;> simp
      · have h2 : ¬ i < n + 1 := by omega
        have h3 : i - n ≠ 0 := by omega
        cases P n
        · simp [h2]
        · rw [Bool.toNat_true, lt_bit (m := 1) (n := 1) (by decide) (by omega)]; simp [h2]
theorem mset_lt (P : Nat → Bool) : mset P < 65536 := msN_lt P 16
theorem mset_bit (P : Nat → Bool) (i : Nat) : (mset P).testBit i = (decide (i < 16) && P i) := msN_bit P 16 i
theorem mset_bit' (P : Nat → Bool) {i : Nat} (h : i < 16) : (mset P).testBit i = P i := by rw [mset_bit]; simp [h]
theorem mset_eq {P R : Nat → Bool} (h : ∀ i, i < 16 → P i = R i) : mset P = mset R := by
  apply Nat.eq_of_testBit_eq
  intro i
  rw [mset_bit, mset_bit]
  by_cases hi : i < 16
  · rw [h i hi]
  · simp [hi]
/-- any number of sixteen bits is a set -/
theorem of_bits {m : Nat} {P : Nat → Bool} (hm : m < 65536) (h : ∀ i, i < 16 → m.testBit i = P i) : m = mset P := by
  apply Nat.eq_of_testBit_eq
  intro i
  rw [mset_bit]
  by_cases hi : i < 16
  · rw [h i hi]; simp [hi]
  · rw [lt_bit (n := 16) hm (by omega)]; simp [hi]
theorem mset_or (P R : Nat → Bool) : mset P ||| mset R = mset (fun i => P i || R i) := by
  apply Nat.eq_of_testBit_eq; intro i
  rw [Nat.testBit_or, mset_bit, mset_bit, mset_bit]
  cases decide (i < 16) <;> simp
theorem mset_and (P R : Nat → Bool) : mset P &&& mset R = mset (fun i => P i && R i) := by
  apply Nat.eq_of_testBit_eq; intro i
  rw [Nat.testBit_and, mset_bit, mset_bit, mset_bit]
  cases decide (i < 16) <;> simp
theorem mset_one {c : Nat} (h : c < 16) : 2 ^ c = mset (fun i => decide (i = c)) := by
  refine of_bits (Nat.pow_lt_pow_right (by decide) h) (fun i hi => ?_)
  rw [Nat.testBit_two_pow]
  exact decide_eq_decide.mpr eq_comm
theorem mset_none : mset (fun _ => false) = 0 := by
  apply Nat.eq_of_testBit_eq; intro i
  rw [mset_bit]; simp
theorem mset_zero {P : Nat → Bool} : mset P = 0 ↔ ∀ i, i < 16 → P i = false := by
  constructor
  · intro h i hi
    have := mset_bit' P hi
    rw [h] at this
    simpa using this.symm
  · intro h
    rw [← mset_none]
    exact mset_eq h
/-- the complement, as the code takes it: n ^ -1 under an and -/
theorem ni_m1 : (-1 : Int32) = nI 4294967295 := by decide +kernel
theorem bit_m1 {i : Nat} (h : i < 32) : (4294967295 : Nat).testBit i = true := by
  have : ∀ i, i < 32 → (4294967295 : Nat).testBit i = true := by decide +kernel
  exact this i h
theorem mset_minus (P R : Nat → Bool) : nI (mset P) &&& (nI (mset R) ^^^ (-1)) = nI (mset (fun i => P i && !R i)) := by
  rw [ni_m1, nx_xor, fa_and]
  congr 1
  apply Nat.eq_of_testBit_eq; intro i
  rw [Nat.testBit_and, Nat.testBit_xor, mset_bit, mset_bit, mset_bit]
  by_cases hi : i < 16
  · rw [bit_m1 (by omega)]; simp [hi]
  · simp [hi]
/-! packs -/
def pkN (f : Nat → Nat) : Nat → Nat
  | 0 => 0
  | n + 1 => 2 ^ (4 * n) * f n + pkN f n
def pk (f : Nat → Nat) : Nat := pkN f 16
theorem pkN_lt {f : Nat → Nat} (hf : ∀ c, c < 16 → f c < 16) : ∀ n, n ≤ 16 → pkN f n < 2 ^ (4 * n)
  | 0, _ => by simp [pkN]
  | n + 1, h => by
    have h1 := pkN_lt hf n (by omega)
    have h2 := hf n (by omega)
    unfold pkN
    have e : 2 ^ (4 * (n + 1)) = 2 ^ (4 * n) * 16 := by rw [Nat.mul_add, Nat.pow_add]
    rw [e]
    have h3 : 2 ^ (4 * n) * f n ≤ 2 ^ (4 * n) * 15 := Nat.mul_le_mul_left _ (by omega)
    omega
theorem pkN_bit {f : Nat → Nat} (hf : ∀ c, c < 16 → f c < 16) : ∀ n, n ≤ 16 → ∀ i, (pkN f n).testBit i = (decide (i < 4 * n) && (f (i / 4)).testBit (i % 4))
  | 0, _, i => by simp [pkN]
  | n + 1, h, i => by
    have h1 := pkN_lt hf n (by omega)
    have h2 := hf n (by omega)
    unfold pkN
    rw [Nat.testBit_two_pow_mul_add _ h1, pkN_bit hf n (by omega) i]
    by_cases hi : i < 4 * n
    · rw [if_pos hi]
      simp [hi, show i < 4 * (n + 1) by omega]
    · rw [if_neg hi]
      by_cases hj : i < 4 * (n + 1)
      · have e1 : i / 4 = n := by omega
        have e2 : i % 4 = i - 4 * n := by omega
        rw [e1, e2]; simp [hj]
      · rw [lt_bit (n := 4) h2 (by omega)]
        simp [hj]
theorem pn_lt {f : Nat → Nat} (hf : ∀ c, c < 16 → f c < 16) : pk f < 18446744073709551616 := pkN_lt hf 16 (Nat.le_refl _)
theorem pn_bit {f : Nat → Nat} (hf : ∀ c, c < 16 → f c < 16) (i : Nat) : (pk f).testBit i = (decide (i < 64) && (f (i / 4)).testBit (i % 4)) := pkN_bit hf 16 (Nat.le_refl _) i
theorem pkN_cong {f g : Nat → Nat} : ∀ n, (∀ c, c < n → f c = g c) → pkN f n = pkN g n
  | 0, _ => rfl
  | n + 1, h => by
    unfold pkN
    rw [h n (by omega), pkN_cong n (fun c hc => h c (by omega))]
theorem pn_cong {f g : Nat → Nat} (h : ∀ c, c < 16 → f c = g c) : pk f = pk g := pkN_cong 16 h
/-- the c-th nibble -/
theorem pn_dig {f : Nat → Nat} (hf : ∀ c, c < 16 → f c < 16) {c : Nat} (hc : c < 16) : pk f / 2 ^ (4 * c) % 16 = f c := by
  apply Nat.eq_of_testBit_eq; intro i
  rw [show (16 : Nat) = 2 ^ 4 from rfl, Nat.testBit_mod_two_pow, Nat.testBit_div_two_pow, pn_bit hf]
  by_cases hi : i < 4
  · have e1 : (i + 4 * c) / 4 = c := by omega
    have e2 : (i + 4 * c) % 4 = i := by omega
    rw [e1, e2]
    simp [hi, show i + 4 * c < 64 by omega]
  · rw [lt_bit (n := 4) (hf c hc) (by omega)]
    simp [hi]
theorem pn_inj {f g : Nat → Nat} (hf : ∀ c, c < 16 → f c < 16) (hg : ∀ c, c < 16 → g c < 16) (h : pk f = pk g) : ∀ c, c < 16 → f c = g c := by
  intro c hc
  rw [← pn_dig hf hc, ← pn_dig hg hc, h]
/-- one nibble changed -/
def up (f : Nat → Nat) (c v : Nat) : Nat → Nat := fun k => if k = c then v else f k
theorem up_s {f : Nat → Nat} {c v : Nat} : up f c v c = v := by simp [up]
theorem up_n {f : Nat → Nat} {c v k : Nat} (h : k ≠ c) : up f c v k = f k := by simp [up, h]
theorem up_lt {f : Nat → Nat} (hf : ∀ c, c < 16 → f c < 16) {c v : Nat} (hv : v < 16) : ∀ k, k < 16 → up f c v k < 16 := by
  intro k hk
  unfold up
  split
  · exact hv
  · exact hf k hk
theorem shl_bit (a c i : Nat) : (a * 2 ^ (4 * c)).testBit i = (decide (4 * c ≤ i) && a.testBit (i - 4 * c)) := by
  rw [Nat.mul_comm, Nat.testBit_two_pow_mul]
theorem m64_bit {i : Nat} (h : i < 64) : (18446744073709551615 : Nat).testBit i = true := by
  have : ∀ i, i < 64 → (18446744073709551615 : Nat).testBit i = true := by decide +kernel
  exact this i h
theorem fif_bit (i : Nat) : (15 : Nat).testBit i = decide (i < 4) := by
  by_cases h : i < 4
  · have : ∀ i, i < 4 → (15 : Nat).testBit i = true := by decide +kernel
    rw [this i h]; simp [h]
  · rw [lt_bit (n := 4) (by decide) (by omega)]; simp [h]
theorem pn_put {f : Nat → Nat} (hf : ∀ c, c < 16 → f c < 16) {c s : Nat} (hc : c < 16) (hs : s < 16) : (pk f &&& (15 * 2 ^ (4 * c) ^^^ 18446744073709551615)) ||| s * 2 ^ (4 * c) = pk (up f c s) := by
  apply Nat.eq_of_testBit_eq; intro i
  rw [Nat.testBit_or, Nat.testBit_and, Nat.testBit_xor, pn_bit hf, pn_bit (up_lt hf hs), shl_bit, shl_bit, fif_bit]
  by_cases hi : i < 64
  · rw [m64_bit hi]
    by_cases he : i / 4 = c
    · have e1 : i - 4 * c = i % 4 := by omega
      have e2 : 4 * c ≤ i := by omega
      have e3 : i % 4 < 4 := by omega
      rw [he, up_s, e1]
      simp [hi, e2, e3]
    · rw [up_n he]
      by_cases h1 : 4 * c ≤ i
      · have h2 : ¬ i - 4 * c < 4 := by omega
        rw [lt_bit (n := 4) (m := s) hs (by omega)]
        simp [hi, h1, h2]
      · simp [hi, h1]
  · have h1 : 4 ≤ i - 4 * c := by omega
    rw [lt_bit (n := 4) (m := s) hs h1]
    simp [hi]
theorem pn_or0 {f : Nat → Nat} (hf : ∀ c, c < 16 → f c < 16) {c s : Nat} (hc : c < 16) (hs : s < 16) (h0 : f c = 0) : pk f ||| s * 2 ^ (4 * c) = pk (up f c s) := by
  apply Nat.eq_of_testBit_eq; intro i
  rw [Nat.testBit_or, pn_bit hf, pn_bit (up_lt hf hs), shl_bit]
  by_cases he : i / 4 = c
  · have e1 : i - 4 * c = i % 4 := by omega
    have e2 : 4 * c ≤ i := by omega
    rw [he, up_s, e1, h0]
    simp [e2, show i < 64 by omega]
  · rw [up_n he]
    by_cases h1 : 4 * c ≤ i
    · rw [lt_bit (n := 4) (m := s) hs (by omega)]
      simp
    · simp [h1]
theorem pkN_up {f : Nat → Nat} {c v : Nat} : ∀ n, c < n → pkN (up f c v) n + 2 ^ (4 * c) * f c = pkN f n + 2 ^ (4 * c) * v
  | 0, h => by omega
  | n + 1, h => by
    unfold pkN
    by_cases he : c = n
    · subst he
      rw [up_s, pkN_cong (f := up f c v) (g := f) c (fun k hk => up_n (by omega))]
      omega
    · have h1 := pkN_up (f := f) (c := c) (v := v) n (by omega)
      rw [up_n (Ne.symm he)]
      omega
theorem pn_dec {f : Nat → Nat} {c : Nat} (hc : c < 16) (h0 : 0 < f c) : 1 * 2 ^ (4 * c) ≤ pk f ∧ pk f - 1 * 2 ^ (4 * c) = pk (up f c (f c - 1)) := by
  have h := pkN_up (f := f) (c := c) (v := f c - 1) 16 hc
  have e : 2 ^ (4 * c) * f c = 2 ^ (4 * c) * (f c - 1) + 2 ^ (4 * c) := by
    have : f c = (f c - 1) + 1 := by omega
    calc 2 ^ (4 * c) * f c = 2 ^ (4 * c) * ((f c - 1) + 1) := by rw [← this]
      _ = _ := by rw [Nat.mul_add, Nat.mul_one]
  have h2 : pkN (up f c (f c - 1)) 16 + 2 ^ (4 * c) = pkN f 16 := by omega
  unfold pk
  omega
theorem pn_zero {f : Nat → Nat} (hf : ∀ c, c < 16 → f c < 16) : pk f = 0 ↔ ∀ c, c < 16 → f c = 0 := by
  constructor
  · intro h c hc
    rw [← pn_dig hf hc, h]
    simp
  · intro h
    rw [pn_cong (g := fun _ => 0) h]
    rfl
