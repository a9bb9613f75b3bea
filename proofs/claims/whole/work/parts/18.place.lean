/-! A PLACE: how a board lies -/
/-- signs, times, who is on, who has lost (2: nobody) -/
abbrev Bd : Type := (Nat → Nat) × (Nat → Nat) × Nat × Nat
def wht (g : Nat → Nat) (c : Nat) : Bool := decide (2 ≤ g c ∧ g c < 7)
def blk (g : Nat → Nat) (c : Nat) : Bool := decide (7 ≤ g c)
def ded (g : Nat → Nat) (c : Nat) : Bool := decide (g c = 1)
def kng (g : Nat → Nat) (c : Nat) : Bool := decide (g c = 2 ∨ g c = 7)
def menP (g : Nat → Nat) (s c : Nat) : Bool := if s = 0 then wht g c else blk g c
def ful (g : Nat → Nat) (c : Nat) : Bool := (wht g c || blk g c) || ded g c
def lsI (l : Nat) : Int32 := if l = 2 then -9 else nI l
def fI (b : Bd) (i : Nat) : Int32 := match i with
  | 5 => nI (mset (wht b.1))
  | 6 => nI (mset (blk b.1))
  | 7 => nI (mset (ded b.1))
  | 8 => nI (mset (kng b.1))
  | 9 => nI b.2.2.1
  | _ => lsI b.2.2.2
def fJ (b : Bd) (i : Nat) : Int64 := match i with
  | 3 => lN (pk b.1)
  | _ => lN (pk b.2.1)
/-- the place p holds the board b -/
def PL (p : Nat) (b : Bd) (I : MemI) (J : MemJ) : Prop := (∀ i, 5 ≤ i → i ≤ 10 → I p i = fI b i) ∧ ∀ i, 3 ≤ i → i ≤ 4 → J p i = fJ b i
/-- the board b written into the place p -/
def wI (p : Nat) (b : Bd) (I : MemI) : MemI := fun a i => if a = p ∧ 5 ≤ i ∧ i ≤ 10 then fI b i else I a i
def wJ (p : Nat) (b : Bd) (J : MemJ) : MemJ := fun a i => if a = p ∧ 3 ≤ i ∧ i ≤ 4 then fJ b i else J a i
theorem PL_w {p : Nat} {b : Bd} {I : MemI} {J : MemJ} : PL p b (wI p b I) (wJ p b J) := ⟨fun i h1 h2 => by simp [wI, h1, h2], fun i h1 h2 => by simp [wJ, h1, h2]⟩
theorem wI_w {p : Nat} {b b2 : Bd} {I : MemI} : wI p b (wI p b2 I) = wI p b I := by
  funext a i
  unfold wI
  split <;> rfl
theorem wJ_w {p : Nat} {b b2 : Bd} {J : MemJ} : wJ p b (wJ p b2 J) = wJ p b J := by
  funext a i
  unfold wJ
  split <;> rfl
theorem wI_n {p a i : Nat} {b : Bd} {I : MemI} (h : a ≠ p) : wI p b I a i = I a i := by simp [wI, h]
theorem wJ_n {p a i : Nat} {b : Bd} {J : MemJ} (h : a ≠ p) : wJ p b J a i = J a i := by simp [wJ, h]
theorem wI_f {p a i : Nat} {b : Bd} {I : MemI} (h : i < 5 ∨ 10 < i) : wI p b I a i = I a i := by
  have : ¬ (5 ≤ i ∧ i ≤ 10) := by omega
  simp [wI, this]
theorem PL_n {p q : Nat} {b b2 : Bd} {I : MemI} {J : MemJ} (h : q ≠ p) (hq : PL q b I J) : PL q b (wI p b2 I) (wJ p b2 J) := ⟨fun i h1 h2 => by rw [wI_n h]; exact hq.1 i h1 h2, fun i h1 h2 => by rw [wJ_n h]; exact hq.2 i h1 h2⟩
/-- what holds of a board of n cells -/
def Bok (n : Nat) (b : Bd) : Prop := (∀ c, c < 16 → b.1 c < 12) ∧ (∀ c, c < 16 → b.2.1 c < 10) ∧ (∀ c, c < 16 → 0 < b.2.1 c → b.1 c = 1) ∧ b.2.2.1 < 2 ∧ b.2.2.2 < 3 ∧ ∀ c, n ≤ c → b.1 c = 0
def isP (p : Nat) : Prop := 9 ≤ p ∧ p ≤ 13
theorem isP_sh {p : Nat} (h : isP p) : ΩC.1[p]? = some (0, 2, 0) ∧ Nat.beq p 1010 = false ∧ ΩC.2 p 1 = some (p + 5) ∧ ΩC.1[p + 5]? = some (1, 0, 64) ∧ Nat.beq (p + 5) 1010 = false := by
  obtain ⟨h1, h2⟩ := h
  rcases (show p = 9 ∨ p = 10 ∨ p = 11 ∨ p = 12 ∨ p = 13 by omega) with rfl | rfl | rfl | rfl | rfl <;> exact ⟨rfl, rfl, rfl, rfl, rfl⟩
theorem menP_lt {g : Nat → Nat} {s : Nat} : mset (menP g s) = if s = 0 then mset (wht g) else mset (blk g) := by
  split <;> rename_i h <;> exact mset_eq fun i _ => by simp [menP, h]
theorem sd_w : ∀ s, s < 12 → decide (sdI s = 0) = decide (2 ≤ s ∧ s < 7) := by decide +kernel
theorem sd_b : ∀ s, s < 12 → decide (sdI s = nI 1) = decide (7 ≤ s) := by decide +kernel
theorem kd_k : ∀ s, s < 12 → decide (kdI s = 0) = decide (s = 2 ∨ s = 7) := by decide +kernel
theorem put_mem {p c s : Nat} {b : Bd} {I : MemI} {J : MemJ} (h : PL p b I J) :
    uI (uI (uI (uI I p 5 (nI (mset (wht (up b.1 c s))))) p 6 (nI (mset (blk (up b.1 c s))))) p 7 (nI (mset (ded (up b.1 c s))))) p 8 (nI (mset (kng (up b.1 c s)))) = wI p (up b.1 c s, b.2) I := by
  funext a i
  unfold wI uI
  by_cases ha : a = p
  · subst ha
    by_cases hr : 5 ≤ i ∧ i ≤ 10
    · rcases (show i = 5 ∨ i = 6 ∨ i = 7 ∨ i = 8 ∨ i = 9 ∨ i = 10 by omega) with rfl | rfl | rfl | rfl | rfl | rfl
      · simp [fI]
      · simp [fI]
      · simp [fI]
      · simp [fI]
      · simpa [fI] using h.1 9 (by omega) (by omega)
      · simpa [fI] using h.1 10 (by omega) (by omega)
    · have e5 : ¬ i = 5 := by omega
      have e6 : ¬ i = 6 := by omega
      have e7 : ¬ i = 7 := by omega
      have e8 : ¬ i = 8 := by omega
      simp [e5, e6, e7, e8, hr]
  · simp [ha]
theorem putJ_mem {p c s : Nat} {b : Bd} {I : MemI} {J : MemJ} (h : PL p b I J) : uJ J p 3 (lN (pk (up b.1 c s))) = wJ p (up b.1 c s, b.2) J := by
  funext a i
  unfold wJ uJ
  by_cases ha : a = p
  · subst ha
    by_cases hr : 3 ≤ i ∧ i ≤ 4
    · rcases (show i = 3 ∨ i = 4 by omega) with rfl | rfl
      · simp [fJ]
      · simpa [fJ] using h.2 4 (by omega) (by omega)
    · have e3 : ¬ i = 3 := by omega
      simp [e3, hr]
  · simp [ha]
theorem up_set {g : Nat → Nat} {c s : Nat} {f : (Nat → Nat) → Nat → Bool} {t : Bool} (hf : ∀ i, i ≠ c → f (up g c s) i = f g i) (hc : f (up g c s) c = t) : mset (upB (f g) c t) = mset (f (up g c s)) := mset_eq fun i _ => by
  by_cases hi : i = c
  · subst hi; simp [upB, hc]
  · simp [upB, hi, hf i hi]
section PLC
variable {d : Nat} {I : MemI} {J : MemJ}
set_option maxHeartbeats 16000000 in
theorem sp_X2_sign {p c : Nat} {b : Bd} (hp : isP p) (hb : PL p b I J) (hs : ∀ c, c < 16 → b.1 c < 12) (hc : c < 16) : CALL ΩC (d + 1) kX2_sign [.ref p, .int (nI c)] I J (PQ (.int (nI (b.1 c))) I J) := by
  obtain ⟨q1, q2, q3, q4, q5⟩ := isP_sh hp
  have hs' : ∀ c, c < 16 → b.1 c < 16 := fun c h => Nat.lt_trans (hs c h) (by decide)
  have hN := pn_lt hs'
  have e3 : J p 3 = lN (pk b.1) := hb.2 3 (by omega) (by omega)
  refine call_of_wp (by decide) (Nat.le_of_ble_eq_true rfl) ?_
  refine wp_aload_n (pc := 0) (i := 0) dX2_sign_0 rfl rfl (by first | with_reducible assumption | rfl) ?_
  refine wp_getJ (pc := 1) dX2_sign_1 lf_X2_19 (by first | with_reducible assumption | rfl) (by first | with_reducible assumption | rfl) rfl ?_
  rw [e3]
  refine wp_iload_n (pc := 4) (i := 1) dX2_sign_4 rfl rfl ?_
  refine wp_cSP2 (pc := 5) dX2_sign_5 lm_X2_52 m_X2_nibble (Nat.le_of_ble_eq_true rfl) (sp_X2_nibble (by first | with_reducible assumption | omega) (by first | with_reducible assumption | omega)) ?_
  refine wp_ireturn (pc := 8) dX2_sign_8 rfl ?_
  exact pq_i (congrArg nI (pn_dig hs' hc))
set_option maxHeartbeats 16000000 in
theorem sp_X2_lying {p c : Nat} {b : Bd} (hp : isP p) (hb : PL p b I J) (hs : ∀ c, c < 16 → b.2.1 c < 10) (hc : c < 16) : CALL ΩC (d + 1) kX2_lying [.ref p, .int (nI c)] I J (PQ (.int (nI (b.2.1 c))) I J) := by
  obtain ⟨q1, q2, q3, q4, q5⟩ := isP_sh hp
  have hs' : ∀ c, c < 16 → b.2.1 c < 16 := fun c h => Nat.lt_trans (hs c h) (by decide)
  have hN := pn_lt hs'
  have e3 : J p 4 = lN (pk b.2.1) := hb.2 4 (by omega) (by omega)
  refine call_of_wp (by decide) (Nat.le_of_ble_eq_true rfl) ?_
  refine wp_aload_n (pc := 0) (i := 0) dX2_lying_0 rfl rfl (by first | with_reducible assumption | rfl) ?_
  refine wp_getJ (pc := 1) dX2_lying_1 lf_X2_23 (by first | with_reducible assumption | rfl) (by first | with_reducible assumption | rfl) rfl ?_
  rw [e3]
  refine wp_iload_n (pc := 4) (i := 1) dX2_lying_4 rfl rfl ?_
  refine wp_cSP2 (pc := 5) dX2_lying_5 lm_X2_52 m_X2_nibble (Nat.le_of_ble_eq_true rfl) (sp_X2_nibble (by first | with_reducible assumption | omega) (by first | with_reducible assumption | omega)) ?_
  refine wp_ireturn (pc := 8) dX2_lying_8 rfl ?_
  exact pq_i (congrArg nI (pn_dig hs' hc))
set_option maxHeartbeats 16000000 in
theorem sp_X2_men {p s : Nat} {b : Bd} (hp : isP p) (hb : PL p b I J) (hs : s < 2) : CALL ΩC d kX2_men [.ref p, .int (nI s)] I J (PQ (.int (nI (mset (menP b.1 s)))) I J) := by
  obtain ⟨q1, q2, q3, q4, q5⟩ := isP_sh hp
  have e5 : I p 5 = nI (mset (wht b.1)) := hb.1 5 (by omega) (by omega)
  have e6 : I p 6 = nI (mset (blk b.1)) := hb.1 6 (by omega) (by omega)
  refine call_of_wp (by decide) (Nat.le_of_ble_eq_true rfl) ?_
  refine wp_iload_n (pc := 0) (i := 1) dX2_men_0 rfl rfl ?_
  refine wp_if_neN (pc := 1) (tgt := 11) dX2_men_1 (by decide) (by first | with_reducible assumption | omega) (fun c_1 => ?_) (fun c_1 => ?_)
  · refine wp_aload_n (pc := 11) (i := 0) dX2_men_11 rfl rfl (by first | with_reducible assumption | rfl) ?_
    refine wp_getI (pc := 12) dX2_men_12 lf_X2_29 (by first | with_reducible assumption | rfl) (by first | with_reducible assumption | rfl) rfl ?_
    refine wp_ireturn (pc := 15) dX2_men_15 rfl ?_
    first | exact pq_i (by rw [e5, menP_lt, if_pos c_1]) | exact pq_i (by rw [e6, menP_lt, if_neg c_1])
  · refine wp_aload_n (pc := 4) (i := 0) dX2_men_4 rfl rfl (by first | with_reducible assumption | rfl) ?_
    refine wp_getI (pc := 5) dX2_men_5 lf_X2_26 (by first | with_reducible assumption | rfl) (by first | with_reducible assumption | rfl) rfl ?_
    refine wp_goto (pc := 8) (tgt := 15) dX2_men_8 (by decide) ?_
    refine wp_ireturn (pc := 15) dX2_men_15 rfl ?_
    first | exact pq_i (by rw [e5, menP_lt, if_pos c_1]) | exact pq_i (by rw [e6, menP_lt, if_neg c_1])
set_option maxHeartbeats 16000000 in
theorem sp_X2_menCount {p : Nat} {b : Bd} (hp : isP p) (hb : PL p b I J) : CALL ΩC (d + 1) kX2_menCount [.ref p] I J (PQ (.int (nI (cnt (fun c => wht b.1 c || blk b.1 c)))) I J) := by
  obtain ⟨q1, q2, q3, q4, q5⟩ := isP_sh hp
  have e5 : I p 5 = nI (mset (wht b.1)) := hb.1 5 (by omega) (by omega)
  have e6 : I p 6 = nI (mset (blk b.1)) := hb.1 6 (by omega) (by omega)
  have hm := mset_lt (fun c => wht b.1 c || blk b.1 c)
  refine call_of_wp (by decide) (Nat.le_of_ble_eq_true rfl) ?_
  refine wp_aload_n (pc := 0) (i := 0) dX2_menCount_0 rfl rfl (by first | with_reducible assumption | rfl) ?_
  refine wp_getI (pc := 1) dX2_menCount_1 lf_X2_26 (by first | with_reducible assumption | rfl) (by first | with_reducible assumption | rfl) rfl ?_
  rw [e5]
  refine wp_aload_n (pc := 4) (i := 0) dX2_menCount_4 rfl rfl (by first | with_reducible assumption | rfl) ?_
  refine wp_getI (pc := 5) dX2_menCount_5 lf_X2_29 (by first | with_reducible assumption | rfl) (by first | with_reducible assumption | rfl) rfl ?_
  rw [e6]
  first | (refine wp_iorN (pc := 8) dX2_menCount_8 ?_) | (refine wp_ior (pc := 8) dX2_menCount_8 ?_)
  rw [mset_or]
  refine wp_cSP1 (pc := 9) dX2_menCount_9 lm_X2_75 m_J6_bitCount_0f7a4 (Nat.le_of_ble_eq_true rfl) (sp_J6_bitCount (by first | with_reducible assumption | omega)) ?_
  refine wp_ireturn (pc := 12) dX2_menCount_12 rfl ?_
  exact pq_i (congrArg nI (sw_mset _))
set_option maxHeartbeats 16000000 in
theorem sp_X2_full {p : Nat} {b : Bd} (hp : isP p) (hb : PL p b I J) : CALL ΩC d kX2_full [.ref p] I J (PQ (.int (nI (mset (ful b.1)))) I J) := by
  obtain ⟨q1, q2, q3, q4, q5⟩ := isP_sh hp
  have e5 : I p 5 = nI (mset (wht b.1)) := hb.1 5 (by omega) (by omega)
  have e6 : I p 6 = nI (mset (blk b.1)) := hb.1 6 (by omega) (by omega)
  have e7 : I p 7 = nI (mset (ded b.1)) := hb.1 7 (by omega) (by omega)
  refine call_of_wp (by decide) (Nat.le_of_ble_eq_true rfl) ?_
  refine wp_aload_n (pc := 0) (i := 0) dX2_full_0 rfl rfl (by first | with_reducible assumption | rfl) ?_
  refine wp_getI (pc := 1) dX2_full_1 lf_X2_26 (by first | with_reducible assumption | rfl) (by first | with_reducible assumption | rfl) rfl ?_
  rw [e5]
  refine wp_aload_n (pc := 4) (i := 0) dX2_full_4 rfl rfl (by first | with_reducible assumption | rfl) ?_
  refine wp_getI (pc := 5) dX2_full_5 lf_X2_29 (by first | with_reducible assumption | rfl) (by first | with_reducible assumption | rfl) rfl ?_
  rw [e6]
  first | (refine wp_iorN (pc := 8) dX2_full_8 ?_) | (refine wp_ior (pc := 8) dX2_full_8 ?_)
  rw [mset_or]
  refine wp_aload_n (pc := 9) (i := 0) dX2_full_9 rfl rfl (by first | with_reducible assumption | rfl) ?_
  refine wp_getI (pc := 10) dX2_full_10 lf_X2_32 (by first | with_reducible assumption | rfl) (by first | with_reducible assumption | rfl) rfl ?_
  rw [e7]
  first | (refine wp_iorN (pc := 13) dX2_full_13 ?_) | (refine wp_ior (pc := 13) dX2_full_13 ?_)
  rw [mset_or]
  refine wp_ireturn (pc := 14) dX2_full_14 rfl ?_
  exact pq_i rfl
set_option maxHeartbeats 16000000 in
/-- put(c, s) -/
theorem sp_X2_put {p c s : Nat} {b : Bd} (hp : isP p) (hb : PL p b I J) (hs : ∀ c, c < 16 → b.1 c < 12) (hc : c < 16) (hs2 : s < 12) : CALL ΩC (d + 1) kX2_put [.ref p, .int (nI c), .int (nI s)] I J (VQ (fun I' J' => I' = wI p (up b.1 c s, b.2) I ∧ J' = wJ p (up b.1 c s, b.2) J)) := by
  have hs' : ∀ c, c < 16 → b.1 c < 16 := fun c h => Nat.lt_trans (hs c h) (by decide)
  have hN := pn_lt hs'
  have hk : 4 * c < 64 := by omega
  have e3 : J p 3 = lN (pk b.1) := hb.2 3 (by omega) (by omega)
  have e5 : I p 5 = nI (mset (wht b.1)) := hb.1 5 (by omega) (by omega)
  have e6 : I p 6 = nI (mset (blk b.1)) := hb.1 6 (by omega) (by omega)
  have e7 : I p 7 = nI (mset (ded b.1)) := hb.1 7 (by omega) (by omega)
  have e8 : I p 8 = nI (mset (kng b.1)) := hb.1 8 (by omega) (by omega)
  have x1 : (15 * 2 ^ (4 * c) ^^^ 18446744073709551615) < 18446744073709551616 := by
    have h15 : 15 * 2 ^ (4 * c) < 2 ^ 64 := by
      have h1 : 2 ^ (4 * c) ≤ 2 ^ 60 := Nat.pow_le_pow_right (by decide) (by omega)
      omega
    exact Nat.xor_lt_two_pow (n := 64) h15 (by decide)
  have x2 : (pk b.1 &&& (15 * 2 ^ (4 * c) ^^^ 18446744073709551615)) < 18446744073709551616 := Nat.lt_of_le_of_lt Nat.and_le_left hN
  have x3 : s * 2 ^ (4 * c) < 18446744073709551616 := by
    have h1 : 2 ^ (4 * c) ≤ 2 ^ 60 := Nat.pow_le_pow_right (by decide) (by omega)
    have h2 : s * 2 ^ (4 * c) ≤ 15 * 2 ^ 60 := Nat.mul_le_mul (by omega) h1
    omega
  have em : (-1 : Int64) = lN 18446744073709551615 := by decide +kernel
  have g1 : mset (upB (wht b.1) c (decide (2 ≤ s ∧ s < 7))) = mset (wht (up b.1 c s)) := up_set (f := wht) (fun i hi => by simp [wht, up_n hi]) (by simp [wht, up_s])
  have g2 : mset (upB (blk b.1) c (decide (7 ≤ s))) = mset (blk (up b.1 c s)) := up_set (f := blk) (fun i hi => by simp [blk, up_n hi]) (by simp [blk, up_s])
  have g3 : mset (upB (ded b.1) c (decide (s = 1))) = mset (ded (up b.1 c s)) := up_set (f := ded) (fun i hi => by simp [ded, up_n hi]) (by simp [ded, up_s])
  have g4 : mset (upB (kng b.1) c (decide (s = 2 ∨ s = 7))) = mset (kng (up b.1 c s)) := up_set (f := kng) (fun i hi => by simp [kng, up_n hi]) (by simp [kng, up_s])
  refine call_of_wp (by decide) (Nat.le_of_ble_eq_true rfl) ?_
  obtain ⟨q1, q2, q3, q4, q5⟩ := isP_sh hp
  refine wp_iconst (pc := 0) (v := nI 1) dX2_put_0 (by decide +kernel) ?_
  refine wp_iload_n (pc := 1) (i := 1) dX2_put_1 rfl rfl ?_
  first | (refine wp_ishl1 (pc := 2) dX2_put_2 (by first | with_reducible assumption | omega) ?_) | (refine wp_ishlN (pc := 2) dX2_put_2 (by first | with_reducible assumption | omega) (by first | with_reducible assumption | omega) ?_) | (refine wp_ishl (pc := 2) dX2_put_2 ?_)
  refine wp_istore_n (pc := 3) (i := 3) dX2_put_3 rfl (by decide) ?_
  refine wp_iload_n (pc := 4) (i := 2) dX2_put_4 rfl rfl ?_
  refine wp_cSP1 (pc := 5) dX2_put_5 lm_X2_60 m_X5_sideOf (Nat.le_of_ble_eq_true rfl) (sp_X5_sideOf (by first | with_reducible assumption | omega)) ?_
  refine wp_istore (pc := 8) dX2_put_8 (by decide) ?_
  refine wp_aload_n (pc := 10) (i := 0) dX2_put_10 rfl rfl (by first | with_reducible assumption | rfl) ?_
  refine wp_aload_n (pc := 11) (i := 0) dX2_put_11 rfl rfl (by first | with_reducible assumption | rfl) ?_
  refine wp_getJ (pc := 12) dX2_put_12 lf_X2_19 (by first | with_reducible assumption | rfl) (by first | with_reducible assumption | rfl) rfl ?_
  rw [e3]
  refine wp_ldc2_w (pc := 15) (v := lN 15) dX2_put_15 kl_X2_64 ?_
  refine wp_iconst (pc := 18) (v := nI 4) dX2_put_18 (by decide +kernel) ?_
  refine wp_iload_n (pc := 19) (i := 1) dX2_put_19 rfl rfl ?_
  first | (refine wp_imulN (pc := 20) dX2_put_20 ?_) | (refine wp_imul (pc := 20) dX2_put_20 ?_)
  first | (refine wp_lshlN (pc := 21) dX2_put_21 (by first | with_reducible assumption | omega) ?_) | (refine wp_lshl (pc := 21) dX2_put_21 ?_)
  refine wp_ldc2_w (pc := 22) (v := lN 18446744073709551615) dX2_put_22 (by rw [← em]; exact kl_X2_66) ?_
  first | (refine wp_lxorN (pc := 25) dX2_put_25 ?_) | (refine wp_lxor (pc := 25) dX2_put_25 ?_)
  first | (refine wp_landN (pc := 26) dX2_put_26 (by first | with_reducible assumption | omega) (by first | with_reducible assumption | omega) ?_) | (refine wp_land (pc := 26) dX2_put_26 ?_)
  refine wp_iload_n (pc := 27) (i := 2) dX2_put_27 rfl rfl ?_
  first | (refine wp_i2lN (pc := 28) dX2_put_28 (by first | with_reducible assumption | omega) ?_) | (refine wp_i2l (pc := 28) dX2_put_28 ?_)
  refine wp_iconst (pc := 29) (v := nI 4) dX2_put_29 (by decide +kernel) ?_
  refine wp_iload_n (pc := 30) (i := 1) dX2_put_30 rfl rfl ?_
  first | (refine wp_imulN (pc := 31) dX2_put_31 ?_) | (refine wp_imul (pc := 31) dX2_put_31 ?_)
  first | (refine wp_lshlN (pc := 32) dX2_put_32 (by first | with_reducible assumption | omega) ?_) | (refine wp_lshl (pc := 32) dX2_put_32 ?_)
  first | (refine wp_lorN (pc := 33) dX2_put_33 (by first | with_reducible assumption | omega) (by first | with_reducible assumption | omega) ?_) | (refine wp_lor (pc := 33) dX2_put_33 ?_)
  rw [pn_put hs' hc (by omega)]
  refine wp_putJ (pc := 34) dX2_put_34 lf_X2_19 (by first | with_reducible assumption | rfl) (by first | with_reducible assumption | rfl) rfl rfl ?_
  refine wp_aload_n (pc := 37) (i := 0) dX2_put_37 rfl rfl (by first | with_reducible assumption | rfl) ?_
  refine wp_aload_n (pc := 38) (i := 0) dX2_put_38 rfl rfl (by first | with_reducible assumption | rfl) ?_
  refine wp_getI (pc := 39) dX2_put_39 lf_X2_26 (by first | with_reducible assumption | rfl) (by first | with_reducible assumption | rfl) rfl ?_
  rw [e5]
  refine wp_iload_n (pc := 42) (i := 3) dX2_put_42 rfl rfl ?_
  refine wp_iload (pc := 43) dX2_put_43 rfl ?_
  refine wp_dia_if_ne (pc := 45) dX2_put_45 dX2_put_48 dX2_put_49 dX2_put_52 ?_
  rw [sd_w s hs2]
  refine wp_cSP3 (pc := 53) dX2_put_53 lm_X2_68 m_X2_with (Nat.le_of_ble_eq_true rfl) (sp_X2_with (by first | with_reducible assumption | omega)) ?_
  rw [g1]
  refine wp_putI (pc := 56) dX2_put_56 lf_X2_26 (by first | with_reducible assumption | rfl) (by first | with_reducible assumption | rfl) rfl rfl ?_
  refine wp_aload_n (pc := 59) (i := 0) dX2_put_59 rfl rfl (by first | with_reducible assumption | rfl) ?_
  refine wp_aload_n (pc := 60) (i := 0) dX2_put_60 rfl rfl (by first | with_reducible assumption | rfl) ?_
  refine wp_getI (pc := 61) dX2_put_61 lf_X2_29 (by first | with_reducible assumption | rfl) (by first | with_reducible assumption | rfl) rfl ?_
  rw [show (uI I p 5 (nI (mset (wht (up b.1 c s))))) p 6 = nI (mset (blk b.1)) by simp [uI, e6]]
  refine wp_iload_n (pc := 64) (i := 3) dX2_put_64 rfl rfl ?_
  refine wp_iload (pc := 65) dX2_put_65 rfl ?_
  refine wp_iconst (pc := 67) (v := nI 1) dX2_put_67 (by decide +kernel) ?_
  refine wp_dia_icmp_ne (pc := 68) dX2_put_68 dX2_put_71 dX2_put_72 dX2_put_75 ?_
  rw [sd_b s hs2]
  refine wp_cSP3 (pc := 76) dX2_put_76 lm_X2_68 m_X2_with (Nat.le_of_ble_eq_true rfl) (sp_X2_with (by first | with_reducible assumption | omega)) ?_
  rw [g2]
  refine wp_putI (pc := 79) dX2_put_79 lf_X2_29 (by first | with_reducible assumption | rfl) (by first | with_reducible assumption | rfl) rfl rfl ?_
  refine wp_aload_n (pc := 82) (i := 0) dX2_put_82 rfl rfl (by first | with_reducible assumption | rfl) ?_
  refine wp_aload_n (pc := 83) (i := 0) dX2_put_83 rfl rfl (by first | with_reducible assumption | rfl) ?_
  refine wp_getI (pc := 84) dX2_put_84 lf_X2_32 (by first | with_reducible assumption | rfl) (by first | with_reducible assumption | rfl) rfl ?_
  rw [show (uI (uI I p 5 (nI (mset (wht (up b.1 c s))))) p 6 (nI (mset (blk (up b.1 c s))))) p 7 = nI (mset (ded b.1)) by simp [uI, e7]]
  refine wp_iload_n (pc := 87) (i := 3) dX2_put_87 rfl rfl ?_
  refine wp_iload_n (pc := 88) (i := 2) dX2_put_88 rfl rfl ?_
  refine wp_iconst (pc := 89) (v := nI 1) dX2_put_89 (by decide +kernel) ?_
  first | (refine wp_dia_icmp_neN (pc := 90) dX2_put_90 dX2_put_93 dX2_put_94 dX2_put_97 (by first | with_reducible assumption | omega) (by first | with_reducible assumption | omega) ?_) | (refine wp_dia_icmp_ne (pc := 90) dX2_put_90 dX2_put_93 dX2_put_94 dX2_put_97 ?_)
  refine wp_cSP3 (pc := 98) dX2_put_98 lm_X2_68 m_X2_with (Nat.le_of_ble_eq_true rfl) (sp_X2_with (by first | with_reducible assumption | omega)) ?_
  rw [g3]
  refine wp_putI (pc := 101) dX2_put_101 lf_X2_32 (by first | with_reducible assumption | rfl) (by first | with_reducible assumption | rfl) rfl rfl ?_
  refine wp_aload_n (pc := 104) (i := 0) dX2_put_104 rfl rfl (by first | with_reducible assumption | rfl) ?_
  refine wp_aload_n (pc := 105) (i := 0) dX2_put_105 rfl rfl (by first | with_reducible assumption | rfl) ?_
  refine wp_getI (pc := 106) dX2_put_106 lf_X2_35 (by first | with_reducible assumption | rfl) (by first | with_reducible assumption | rfl) rfl ?_
  rw [show (uI (uI (uI I p 5 (nI (mset (wht (up b.1 c s))))) p 6 (nI (mset (blk (up b.1 c s))))) p 7 (nI (mset (ded (up b.1 c s))))) p 8 = nI (mset (kng b.1)) by simp [uI, e8]]
  refine wp_iload_n (pc := 109) (i := 3) dX2_put_109 rfl rfl ?_
  refine wp_iload_n (pc := 110) (i := 2) dX2_put_110 rfl rfl ?_
  refine wp_cSP1 (pc := 111) dX2_put_111 lm_X2_72 m_X5_kindOf (Nat.le_of_ble_eq_true rfl) (sp_X5_kindOf (by first | with_reducible assumption | omega)) ?_
  refine wp_dia_if_ne (pc := 114) dX2_put_114 dX2_put_117 dX2_put_118 dX2_put_121 ?_
  rw [kd_k s hs2]
  refine wp_cSP3 (pc := 122) dX2_put_122 lm_X2_68 m_X2_with (Nat.le_of_ble_eq_true rfl) (sp_X2_with (by first | with_reducible assumption | omega)) ?_
  rw [g4]
  refine wp_putI (pc := 125) dX2_put_125 lf_X2_35 (by first | with_reducible assumption | rfl) (by first | with_reducible assumption | rfl) rfl rfl ?_
  refine wp_return (pc := 128) dX2_put_128 rfl ?_
  exact vq_i ⟨put_mem hb, putJ_mem hb⟩
end PLC
