/-! A PLACE, 2: set, copy, age, fall, make -/
theorem fI_cong {b b2 : Bd} (h : ∀ c, c < 16 → b.1 c = b2.1 c) (h3 : b.2.2 = b2.2.2) (i : Nat) : fI b i = fI b2 i := by
  have e1 : mset (wht b.1) = mset (wht b2.1) := mset_eq fun c hc => by simp [wht, h c hc]
  have e2 : mset (blk b.1) = mset (blk b2.1) := mset_eq fun c hc => by simp [blk, h c hc]
  have e3 : mset (ded b.1) = mset (ded b2.1) := mset_eq fun c hc => by simp [ded, h c hc]
  have e4 : mset (kng b.1) = mset (kng b2.1) := mset_eq fun c hc => by simp [kng, h c hc]
  unfold fI
  rw [e1, e2, e3, e4, h3]
theorem wI_cong {p : Nat} {b b2 : Bd} {I : MemI} (h : ∀ c, c < 16 → b.1 c = b2.1 c) (h3 : b.2.2 = b2.2.2) : wI p b I = wI p b2 I := by
  funext a i
  unfold wI
  rw [fI_cong h h3]
theorem wJ_cong {p : Nat} {b b2 : Bd} {J : MemJ} (h : ∀ c, c < 16 → b.1 c = b2.1 c) (h2 : ∀ c, c < 16 → b.2.1 c = b2.2.1 c) : wJ p b J = wJ p b2 J := by
  funext a i
  unfold wJ fJ
  rw [pn_cong h, pn_cong h2]
theorem wI_id {p : Nat} {b : Bd} {I : MemI} {J : MemJ} (h : PL p b I J) : wI p b I = I := by
  funext a i
  unfold wI
  split
  · rename_i hr
    rw [hr.1]; exact (h.1 i hr.2.1 hr.2.2).symm
  · rfl
theorem wJ_id {p : Nat} {b : Bd} {I : MemI} {J : MemJ} (h : PL p b I J) : wJ p b J = J := by
  funext a i
  unfold wJ
  split
  · rename_i hr
    rw [hr.1]; exact (h.2 i hr.2.1 hr.2.2).symm
  · rfl
theorem wI_9 {p o : Nat} {b : Bd} {I : MemI} : uI (wI p b I) p 9 (nI o) = wI p (b.1, b.2.1, o, b.2.2.2) I := by
  funext a i
  unfold wI uI
  by_cases ha : a = p
  · by_cases hr : 5 ≤ i ∧ i ≤ 10
    · rcases (show i = 5 ∨ i = 6 ∨ i = 7 ∨ i = 8 ∨ i = 9 ∨ i = 10 by omega) with rfl | rfl | rfl | rfl | rfl | rfl <;> simp [ha, fI]
    · have e9 : ¬ i = 9 := by omega
      simp [ha, hr, e9]
  · simp [ha]
theorem wI_10 {p o : Nat} {b : Bd} {I : MemI} : uI (wI p b I) p 10 (lsI o) = wI p (b.1, b.2.1, b.2.2.1, o) I := by
  funext a i
  unfold wI uI
  by_cases ha : a = p
  · by_cases hr : 5 ≤ i ∧ i ≤ 10
    · rcases (show i = 5 ∨ i = 6 ∨ i = 7 ∨ i = 8 ∨ i = 9 ∨ i = 10 by omega) with rfl | rfl | rfl | rfl | rfl | rfl <;> simp [ha, fI]
    · have e9 : ¬ i = 10 := by omega
      simp [ha, hr, e9]
  · simp [ha]
theorem wJ_4 {p : Nat} {b : Bd} {J : MemJ} {t : Nat → Nat} : uJ (wJ p b J) p 4 (lN (pk t)) = wJ p (b.1, t, b.2.2) J := by
  funext a i
  unfold wJ uJ
  by_cases ha : a = p
  · by_cases hr : 3 ≤ i ∧ i ≤ 4
    · rcases (show i = 3 ∨ i = 4 by omega) with rfl | rfl <;> simp [ha, fJ]
    · have e9 : ¬ i = 4 := by omega
      simp [ha, hr, e9]
  · simp [ha]
theorem wI_t {p : Nat} {b : Bd} {I : MemI} {t : Nat → Nat} : wI p (b.1, t, b.2.2) I = wI p b I := wI_cong (fun _ _ => rfl) rfl
/-- from one row of nibbles to another, the first c -/
def mix (f g : Nat → Nat) (c : Nat) : Nat → Nat := fun k => if k < c then f k else g k
theorem mix_0 {f g : Nat → Nat} : mix f g 0 = g := by funext k; simp [mix]
theorem mix_up {f g : Nat → Nat} {c : Nat} : up (mix f g c) c (f c) = mix f g (c + 1) := by
  funext k
  unfold up mix
  by_cases h : k = c
  · subst h; simp
  · by_cases h2 : k < c
    · simp [h, h2, Nat.lt_succ_of_lt h2]
    · simp [h, h2, show ¬ k < c + 1 by omega]
theorem mix_lt {f g : Nat → Nat} {n c : Nat} (hf : ∀ k, k < 16 → f k < n) (hg : ∀ k, k < 16 → g k < n) : ∀ k, k < 16 → mix f g c k < n := by
  intro k hk
  unfold mix
  split
  · exact hf k hk
  · exact hg k hk
theorem mix_at {f g : Nat → Nat} {c : Nat} : mix f g c c = g c := by simp [mix]
theorem mix_16 {f g : Nat → Nat} : ∀ k, k < 16 → mix f g 16 k = f k := fun k hk => by simp [mix, hk]
/-- the DEAD grow older by one PLY -/
def ageG (b : Bd) : Nat → Nat := fun c => if b.2.1 c = 1 then 0 else b.1 c
def ageT (b : Bd) : Nat → Nat := fun c => b.2.1 c - 1
def hasK (g : Nat → Nat) (s : Nat) : Bool := decide (¬ mset (fun c => kng g c && menP g s c) = 0)
/-- one falls -/
def fal (last : Nat) (b : Bd) (c : Nat) : Bd := (up b.1 c 1, up b.2.1 c last, b.2.2.1, if kng b.1 c = true ∧ hasK (up b.1 c 1) (sd (b.1 c)) = false then sd (b.1 c) else b.2.2.2)
/-- a PLY: 16 from + to; 256 a PASS -/
def mkB (last : Nat) (b : Bd) (x : Nat) : Bd :=
  let a : Bd := (ageG b, ageT b, 1 - b.2.2.1, b.2.2.2)
  if x = 256 then a else if a.1 (x % 16) = 0 then (up (up a.1 (x % 16) (a.1 (x / 16))) (x / 16) 0, a.2) else fal last a (x % 16)
def encC (x : Nat) : Int32 := if x = 256 then -9 else nI (x / 16 * 100 + x % 16)
theorem lcmp_0 {x y : Int64} : lg_cmp x y = 0 ↔ x = y := by
  unfold lg_cmp
  constructor
  · intro h
    split at h
    · exact absurd h (by decide)
    · split at h
      · assumption
      · exact absurd h (by decide)
  · intro h
    subst h
    rw [if_neg (fun z => by rw [gt_iff_lt, Int64.lt_iff_toInt_lt] at z; omega), if_pos rfl]
theorem lN_inj64 {a b : Nat} (ha : a < 18446744073709551616) (hb : b < 18446744073709551616) : lN a = lN b ↔ a = b := by
  constructor
  · intro h
    have h1 := congrArg (fun z => z.toBitVec.toNat) h
    simp only [lN_nat ha, lN_nat hb] at h1
    exact h1
  · intro h; rw [h]
section PL2
variable {d : Nat} {I : MemI} {J : MemJ}
set_option maxHeartbeats 16000000 in
theorem sp_X2_set {p o l : Nat} {b : Bd} {g t : Nat → Nat} (hp : isP p) (hb : PL p b I J) (hs : ∀ c, c < 16 → b.1 c < 12) (hg : ∀ c, c < 16 → g c < 12) (hl : l < 3) : CALL ΩC (d + 2) kX2_set [.ref p, .long (lN (pk g)), .long (lN (pk t)), .int (nI o), .int (lsI l)] I J (VQ (fun I' J' => I' = wI p (g, t, o, l) I ∧ J' = wJ p (g, t, o, l) J)) := by
  have hg' : ∀ c, c < 16 → g c < 16 := fun c h => Nat.lt_trans (hg c h) (by decide)
  have hN := pn_lt hg'
  have loop : ∀ n c, n + c = 16 → WP ΩC (d + 2) kX2_set 3 [(0, .ref p), (1, .long (lN (pk g))), (3, .long (lN (pk t))), (5, .int (nI o)), (6, .int (lsI l)), (7, .int (nI c))] [] (wI p (mix g b.1 c, b.2) I) (wJ p (mix g b.1 c, b.2) J) (VQ (fun I' J' => I' = wI p (g, t, o, l) I ∧ J' = wJ p (g, t, o, l) J)) := by
    obtain ⟨q1, q2, q3, q4, q5⟩ := isP_sh hp
    intro n
    induction n with
    | zero =>
      intro c hc
      have hc' : c = 16 := (Nat.zero_add c).symm.trans hc
      subst hc'
      refine wp_iload (pc := 3) dX2_set_3 rfl ?_
      refine wp_bipush (pc := 5) (v := nI 16) dX2_set_5 (by decide +kernel) ?_
      first | (refine wp_icmp_geN (pc := 7) (tgt := 28) dX2_set_7 (by decide) (by first | with_reducible assumption | omega) (by first | with_reducible assumption | omega) (fun c_7 => ?_) (fun c_7 => ?_)) | (refine wp_icmp_ge (pc := 7) (tgt := 28) dX2_set_7 (by decide) (fun c_7 => ?_) (fun c_7 => ?_))
      · refine wp_aload_n (pc := 28) (i := 0) dX2_set_28 rfl rfl (by first | with_reducible assumption | rfl) ?_
        refine wp_lload_n (pc := 29) (i := 3) dX2_set_29 rfl rfl ?_
        refine wp_putJ (pc := 30) dX2_set_30 lf_X2_23 (by first | with_reducible assumption | rfl) (by first | with_reducible assumption | rfl) rfl rfl ?_
        refine wp_aload_n (pc := 33) (i := 0) dX2_set_33 rfl rfl (by first | with_reducible assumption | rfl) ?_
        refine wp_iload (pc := 34) dX2_set_34 rfl ?_
        refine wp_putI (pc := 36) dX2_set_36 lf_X2_38 (by first | with_reducible assumption | rfl) (by first | with_reducible assumption | rfl) rfl rfl ?_
        refine wp_aload_n (pc := 39) (i := 0) dX2_set_39 rfl rfl (by first | with_reducible assumption | rfl) ?_
        refine wp_iload (pc := 40) dX2_set_40 rfl ?_
        refine wp_putI (pc := 42) dX2_set_42 lf_X2_41 (by first | with_reducible assumption | rfl) (by first | with_reducible assumption | rfl) rfl rfl ?_
        refine wp_return (pc := 45) dX2_set_45 rfl ?_
        refine vq_i ⟨?_, ?_⟩
        · rw [wI_9, wI_10]; exact wI_cong (fun c hc => mix_16 c hc) rfl
        · rw [wJ_4]; exact wJ_cong (fun c hc => mix_16 c hc) (fun _ _ => rfl)
      · exact absurd (show 16 ≤ 16 by omega) c_7
    | succ n ih =>
      intro c hc
      have hc16 : c < 16 := by omega
      refine wp_iload (pc := 3) dX2_set_3 rfl ?_
      refine wp_bipush (pc := 5) (v := nI 16) dX2_set_5 (by decide +kernel) ?_
      first | (refine wp_icmp_geN (pc := 7) (tgt := 28) dX2_set_7 (by decide) (by first | with_reducible assumption | omega) (by first | with_reducible assumption | omega) (fun c_7 => ?_) (fun c_7 => ?_)) | (refine wp_icmp_ge (pc := 7) (tgt := 28) dX2_set_7 (by decide) (fun c_7 => ?_) (fun c_7 => ?_))
      · exact absurd c_7 (by omega)
      · refine wp_aload_n (pc := 10) (i := 0) dX2_set_10 rfl rfl (by first | with_reducible assumption | rfl) ?_
        refine wp_iload (pc := 11) dX2_set_11 rfl ?_
        refine wp_lload_n (pc := 13) (i := 1) dX2_set_13 rfl rfl ?_
        refine wp_iload (pc := 14) dX2_set_14 rfl ?_
        refine wp_cSP2 (pc := 16) dX2_set_16 lm_X2_52 m_X2_nibble (Nat.le_of_ble_eq_true rfl) (sp_X2_nibble (by first | with_reducible assumption | omega) (by first | with_reducible assumption | omega)) ?_
        rw [pn_dig hg' hc16]
        refine wp_cVV2 (pc := 19) (ci := 2) dX2_set_19 lm_X2_56 m_X2_put (by first | with_reducible assumption | rfl) (by first | with_reducible assumption | rfl) (by decide) rfl (Nat.le_of_ble_eq_true rfl) (sp_X2_put hp PL_w (mix_lt hg hs) hc16 (hg c hc16)) (fun I_19 J_19 h_19 => ?_)
        obtain ⟨rfl, rfl⟩ := h_19
        rw [wI_w, wJ_w]
        show WP ΩC _ _ _ _ _ (wI p (up (mix g b.1 c) c (g c), b.2) I) (wJ p (up (mix g b.1 c) c (g c), b.2) J) _
        rw [mix_up]
        first | (refine wp_iincN (pc := 22) (m := 1) dX2_set_22 rfl rfl (by decide) ?_) | (refine wp_iinc (pc := 22) dX2_set_22 rfl rfl (by decide) ?_)
        refine wp_goto (pc := 25) (tgt := 3) dX2_set_25 (by decide) ?_
        exact ih (c + 1) (by omega)
  refine call_of_wp (by decide) (Nat.le_of_ble_eq_true rfl) ?_
  refine wp_iconst (pc := 0) (v := nI 0) dX2_set_0 (by decide +kernel) ?_
  refine wp_istore (pc := 1) dX2_set_1 (by decide) ?_
  have h := loop 16 0 rfl
  rw [mix_0] at h
  have e1 : wI p (b.1, b.2) I = I := wI_id hb
  have e2 : wJ p (b.1, b.2) J = J := wJ_id hb
  rw [e1, e2] at h
  exact h
theorem pk_0 : pk (fun _ => 0) = 0 := by decide +kernel
set_option maxHeartbeats 16000000 in
theorem sp_X2_clear {p : Nat} {b : Bd} (hp : isP p) (hb : PL p b I J) (hs : ∀ c, c < 16 → b.1 c < 12) : CALL ΩC (d + 3) kX2_clear [.ref p] I J (VQ (fun I' J' => I' = wI p (fun _ => 0, fun _ => 0, 0, 2) I ∧ J' = wJ p (fun _ => 0, fun _ => 0, 0, 2) J)) := by
  refine call_of_wp (by decide) (Nat.le_of_ble_eq_true rfl) ?_
  obtain ⟨q1, q2, q3, q4, q5⟩ := isP_sh hp
  refine wp_aload_n (pc := 0) (i := 0) dX2_clear_0 rfl rfl (by first | with_reducible assumption | rfl) ?_
  refine wp_lconst (pc := 1) (v := lN 0) dX2_clear_1 (by decide +kernel) ?_
  refine wp_lconst (pc := 2) (v := lN 0) dX2_clear_2 (by decide +kernel) ?_
  refine wp_iconst (pc := 3) (v := nI 0) dX2_clear_3 (by decide +kernel) ?_
  refine wp_bipush (pc := 4) (v := (-9)) dX2_clear_4 (by decide +kernel) ?_
  refine wp_cVV4 (pc := 6) (ci := 2) dX2_clear_6 lm_X2_48 m_X2_set (by first | with_reducible assumption | rfl) (by first | with_reducible assumption | rfl) (by decide) rfl (Nat.le_of_ble_eq_true rfl) (by have h := sp_X2_set (d := d) (o := 0) (l := 2) (g := fun _ => 0) (t := fun _ => 0) hp hb hs (fun _ _ => by decide) (by decide); rw [pk_0] at h; exact h) (fun I_6 J_6 h_6 => ?_)
  refine wp_return (pc := 9) dX2_clear_9 rfl ?_
  exact vq_i h_6
theorem copy_mem {p : Nat} {b : Bd} {I : MemI} : uI (uI (uI (uI (uI (uI I p 5 (fI b 5)) p 6 (fI b 6)) p 7 (fI b 7)) p 8 (fI b 8)) p 9 (fI b 9)) p 10 (fI b 10) = wI p b I := by
  funext a i
  unfold wI uI
  by_cases ha : a = p
  · by_cases hr : 5 ≤ i ∧ i ≤ 10
    · rcases (show i = 5 ∨ i = 6 ∨ i = 7 ∨ i = 8 ∨ i = 9 ∨ i = 10 by omega) with rfl | rfl | rfl | rfl | rfl | rfl <;> simp [ha]
    · have e5 : ¬ i = 5 := by omega
      have e6 : ¬ i = 6 := by omega
      have e7 : ¬ i = 7 := by omega
      have e8 : ¬ i = 8 := by omega
      have e9 : ¬ i = 9 := by omega
      have e10 : ¬ i = 10 := by omega
      simp [hr, e5, e6, e7, e8, e9, e10]
  · simp [ha]
theorem copyJ_mem {p : Nat} {b : Bd} {J : MemJ} : uJ (uJ J p 3 (fJ b 3)) p 4 (fJ b 4) = wJ p b J := by
  funext a i
  unfold wJ uJ
  by_cases ha : a = p
  · by_cases hr : 3 ≤ i ∧ i ≤ 4
    · rcases (show i = 3 ∨ i = 4 by omega) with rfl | rfl <;> simp [ha]
    · have e3 : ¬ i = 3 := by omega
      have e4 : ¬ i = 4 := by omega
      simp [hr, e3, e4]
  · simp [ha]
set_option maxHeartbeats 16000000 in
theorem sp_X2_copy {p q : Nat} {b : Bd} (hp : isP p) (hq : isP q) (hne : ¬ q = p) (hb : PL q b I J) : CALL ΩC d kX2_copy [.ref p, .ref q] I J (VQ (fun I' J' => I' = wI p b I ∧ J' = wJ p b J)) := by
  have n3 : J q 3 = fJ b 3 := hb.2 3 (by omega) (by omega)
  have n4 : J q 4 = fJ b 4 := hb.2 4 (by omega) (by omega)
  have n5 : I q 5 = fI b 5 := hb.1 5 (by omega) (by omega)
  have n6 : I q 6 = fI b 6 := hb.1 6 (by omega) (by omega)
  have n7 : I q 7 = fI b 7 := hb.1 7 (by omega) (by omega)
  have n8 : I q 8 = fI b 8 := hb.1 8 (by omega) (by omega)
  have n9 : I q 9 = fI b 9 := hb.1 9 (by omega) (by omega)
  have n10 : I q 10 = fI b 10 := hb.1 10 (by omega) (by omega)
  have nI' : ∀ (M : MemI) (k : Nat) (x : Int32) (j : Nat), uI M p k x q j = M q j := fun M k x j => by simp [uI, hne]
  have nJ' : ∀ (M : MemJ) (k : Nat) (x : Int64) (j : Nat), uJ M p k x q j = M q j := fun M k x j => by simp [uJ, hne]
  refine call_of_wp (by decide) (Nat.le_of_ble_eq_true rfl) ?_
  obtain ⟨p1, p2, p3, p4, p5⟩ := isP_sh hp
  obtain ⟨q1, q2, q3, q4, q5⟩ := isP_sh hq
  refine wp_aload_n (pc := 0) (i := 0) dX2_copy_0 rfl rfl (by first | with_reducible assumption | rfl) ?_
  refine wp_aload_n (pc := 1) (i := 1) dX2_copy_1 rfl rfl (by first | with_reducible assumption | rfl) ?_
  refine wp_getJ (pc := 2) dX2_copy_2 lf_X2_19 (by first | with_reducible assumption | rfl) (by first | with_reducible assumption | rfl) rfl ?_
  rw [n3]
  refine wp_putJ (pc := 5) dX2_copy_5 lf_X2_19 (by first | with_reducible assumption | rfl) (by first | with_reducible assumption | rfl) rfl rfl ?_
  refine wp_aload_n (pc := 8) (i := 0) dX2_copy_8 rfl rfl (by first | with_reducible assumption | rfl) ?_
  refine wp_aload_n (pc := 9) (i := 1) dX2_copy_9 rfl rfl (by first | with_reducible assumption | rfl) ?_
  refine wp_getJ (pc := 10) dX2_copy_10 lf_X2_23 (by first | with_reducible assumption | rfl) (by first | with_reducible assumption | rfl) rfl ?_
  rw [nJ', n4]
  refine wp_putJ (pc := 13) dX2_copy_13 lf_X2_23 (by first | with_reducible assumption | rfl) (by first | with_reducible assumption | rfl) rfl rfl ?_
  refine wp_aload_n (pc := 16) (i := 0) dX2_copy_16 rfl rfl (by first | with_reducible assumption | rfl) ?_
  refine wp_aload_n (pc := 17) (i := 1) dX2_copy_17 rfl rfl (by first | with_reducible assumption | rfl) ?_
  refine wp_getI (pc := 18) dX2_copy_18 lf_X2_26 (by first | with_reducible assumption | rfl) (by first | with_reducible assumption | rfl) rfl ?_
  rw [n5]
  refine wp_putI (pc := 21) dX2_copy_21 lf_X2_26 (by first | with_reducible assumption | rfl) (by first | with_reducible assumption | rfl) rfl rfl ?_
  refine wp_aload_n (pc := 24) (i := 0) dX2_copy_24 rfl rfl (by first | with_reducible assumption | rfl) ?_
  refine wp_aload_n (pc := 25) (i := 1) dX2_copy_25 rfl rfl (by first | with_reducible assumption | rfl) ?_
  refine wp_getI (pc := 26) dX2_copy_26 lf_X2_29 (by first | with_reducible assumption | rfl) (by first | with_reducible assumption | rfl) rfl ?_
  rw [nI', n6]
  refine wp_putI (pc := 29) dX2_copy_29 lf_X2_29 (by first | with_reducible assumption | rfl) (by first | with_reducible assumption | rfl) rfl rfl ?_
  refine wp_aload_n (pc := 32) (i := 0) dX2_copy_32 rfl rfl (by first | with_reducible assumption | rfl) ?_
  refine wp_aload_n (pc := 33) (i := 1) dX2_copy_33 rfl rfl (by first | with_reducible assumption | rfl) ?_
  refine wp_getI (pc := 34) dX2_copy_34 lf_X2_32 (by first | with_reducible assumption | rfl) (by first | with_reducible assumption | rfl) rfl ?_
  rw [nI', nI', n7]
  refine wp_putI (pc := 37) dX2_copy_37 lf_X2_32 (by first | with_reducible assumption | rfl) (by first | with_reducible assumption | rfl) rfl rfl ?_
  refine wp_aload_n (pc := 40) (i := 0) dX2_copy_40 rfl rfl (by first | with_reducible assumption | rfl) ?_
  refine wp_aload_n (pc := 41) (i := 1) dX2_copy_41 rfl rfl (by first | with_reducible assumption | rfl) ?_
  refine wp_getI (pc := 42) dX2_copy_42 lf_X2_35 (by first | with_reducible assumption | rfl) (by first | with_reducible assumption | rfl) rfl ?_
  rw [nI', nI', nI', n8]
  refine wp_putI (pc := 45) dX2_copy_45 lf_X2_35 (by first | with_reducible assumption | rfl) (by first | with_reducible assumption | rfl) rfl rfl ?_
  refine wp_aload_n (pc := 48) (i := 0) dX2_copy_48 rfl rfl (by first | with_reducible assumption | rfl) ?_
  refine wp_aload_n (pc := 49) (i := 1) dX2_copy_49 rfl rfl (by first | with_reducible assumption | rfl) ?_
  refine wp_getI (pc := 50) dX2_copy_50 lf_X2_38 (by first | with_reducible assumption | rfl) (by first | with_reducible assumption | rfl) rfl ?_
  rw [nI', nI', nI', nI', n9]
  refine wp_putI (pc := 53) dX2_copy_53 lf_X2_38 (by first | with_reducible assumption | rfl) (by first | with_reducible assumption | rfl) rfl rfl ?_
  refine wp_aload_n (pc := 56) (i := 0) dX2_copy_56 rfl rfl (by first | with_reducible assumption | rfl) ?_
  refine wp_aload_n (pc := 57) (i := 1) dX2_copy_57 rfl rfl (by first | with_reducible assumption | rfl) ?_
  refine wp_getI (pc := 58) dX2_copy_58 lf_X2_41 (by first | with_reducible assumption | rfl) (by first | with_reducible assumption | rfl) rfl ?_
  rw [nI', nI', nI', nI', nI', n10]
  refine wp_putI (pc := 61) dX2_copy_61 lf_X2_41 (by first | with_reducible assumption | rfl) (by first | with_reducible assumption | rfl) rfl rfl ?_
  refine wp_return (pc := 64) dX2_copy_64 rfl ?_
  exact vq_i ⟨copy_mem, copyJ_mem⟩
set_option maxHeartbeats 16000000 in
theorem sp_X2_age {p : Nat} {b : Bd} (hp : isP p) (hb : PL p b I J) (hs : ∀ c, c < 16 → b.1 c < 12) (ht : ∀ c, c < 16 → b.2.1 c < 10) : CALL ΩC (d + 2) kX2_age [.ref p] I J (VQ (fun I' J' => I' = wI p (ageG b, ageT b, b.2.2) I ∧ J' = wJ p (ageG b, ageT b, b.2.2) J)) := by
  have ht' : ∀ c, c < 16 → b.2.1 c < 16 := fun c h => Nat.lt_trans (ht c h) (by decide)
  have hN := pn_lt ht'
  have e4 : J p 4 = lN (pk b.2.1) := hb.2 4 (by omega) (by omega)
  have hgG : ∀ c, c < 16 → ageG b c < 12 := fun c hc => by unfold ageG; split; exact (by decide); exact hs c hc
  have hgT : ∀ c, c < 16 → ageT b c < 10 := fun c hc => by have := ht c hc; unfold ageT; omega
  have loop : ∀ n c, n + c = 16 → WP ΩC (d + 2) kX2_age 12 [(0, .ref p), (1, .int (nI c))] [] (wI p (mix (ageG b) b.1 c, mix (ageT b) b.2.1 c, b.2.2) I) (wJ p (mix (ageG b) b.1 c, mix (ageT b) b.2.1 c, b.2.2) J) (VQ (fun I' J' => I' = wI p (ageG b, ageT b, b.2.2) I ∧ J' = wJ p (ageG b, ageT b, b.2.2) J)) := by
    obtain ⟨q1, q2, q3, q4, q5⟩ := isP_sh hp
    intro n
    induction n with
    | zero =>
      intro c hc
      have hc' : c = 16 := (Nat.zero_add c).symm.trans hc
      subst hc'
      refine wp_iload_n (pc := 12) (i := 1) dX2_age_12 rfl rfl ?_
      refine wp_bipush (pc := 13) (v := nI 16) dX2_age_13 (by decide +kernel) ?_
      first | (refine wp_icmp_geN (pc := 15) (tgt := 59) dX2_age_15 (by decide) (by first | with_reducible assumption | omega) (by first | with_reducible assumption | omega) (fun c_15 => ?_) (fun c_15 => ?_)) | (refine wp_icmp_ge (pc := 15) (tgt := 59) dX2_age_15 (by decide) (fun c_15 => ?_) (fun c_15 => ?_))
      · refine wp_return (pc := 59) dX2_age_59 rfl ?_
        exact vq_i ⟨wI_cong (fun c hc => mix_16 c hc) rfl, wJ_cong (fun c hc => mix_16 c hc) (fun c hc => mix_16 c hc)⟩
      · exact absurd (show 16 ≤ 16 by omega) c_15
    | succ n ih =>
      intro c hc
      have hc16 : c < 16 := by omega
      have h4 : wJ p (mix (ageG b) b.1 c, mix (ageT b) b.2.1 c, b.2.2) J p 4 = lN (pk (mix (ageT b) b.2.1 c)) := by simp [wJ, fJ]
      have hm1 : ∀ k, k < 16 → mix (ageG b) b.1 c k < 12 := mix_lt hgG hs
      have hm2 : ∀ k, k < 16 → mix (ageT b) b.2.1 c k < 10 := mix_lt hgT ht
      have htc : b.2.1 c < 10 := ht c hc16
      have hI : wI p (mix (ageG b) b.1 c, mix (ageT b) b.2.1 c, b.2.2) I = wI p (mix (ageG b) b.1 c, mix (ageT b) b.2.1 (c + 1), b.2.2) I := wI_cong (fun _ _ => rfl) rfl
      have same : b.2.1 c ≠ 1 → mix (ageG b) b.1 c = mix (ageG b) b.1 (c + 1) := fun h => by
        rw [← mix_up]; funext k
        unfold up
        split
        · rename_i e; rw [e, mix_at, ageG, if_neg h]
        · rfl
      refine wp_iload_n (pc := 12) (i := 1) dX2_age_12 rfl rfl ?_
      refine wp_bipush (pc := 13) (v := nI 16) dX2_age_13 (by decide +kernel) ?_
      first | (refine wp_icmp_geN (pc := 15) (tgt := 59) dX2_age_15 (by decide) (by first | with_reducible assumption | omega) (by first | with_reducible assumption | omega) (fun c_15 => ?_) (fun c_15 => ?_)) | (refine wp_icmp_ge (pc := 15) (tgt := 59) dX2_age_15 (by decide) (fun c_15 => ?_) (fun c_15 => ?_))
      · exact absurd c_15 (by omega)
      · refine wp_aload_n (pc := 18) (i := 0) dX2_age_18 rfl rfl (by first | with_reducible assumption | rfl) ?_
        refine wp_iload_n (pc := 19) (i := 1) dX2_age_19 rfl rfl ?_
        refine wp_cVP1 (pc := 20) (ci := 2) dX2_age_20 lm_X2_145 m_X2_lying (by first | with_reducible assumption | rfl) (by first | with_reducible assumption | rfl) (by decide) rfl (Nat.le_of_ble_eq_true rfl) (sp_X2_lying hp PL_w hm2 hc16) ?_
        rw [show (mix (ageG b) b.1 c, mix (ageT b) b.2.1 c, b.2.2).2.1 c = b.2.1 c from mix_at]
        refine wp_istore_n (pc := 23) (i := 2) dX2_age_23 rfl (by decide) ?_
        refine wp_iload_n (pc := 24) (i := 2) dX2_age_24 rfl rfl ?_
        first | (refine wp_if_leN (pc := 25) (tgt := 42) dX2_age_25 (by decide) (by first | with_reducible assumption | omega) (fun c_25 => ?_) (fun c_25 => ?_)) | (refine wp_if_le (pc := 25) (tgt := 42) dX2_age_25 (by decide) (fun c_25 => ?_) (fun c_25 => ?_))
        · refine wp_iload_n (pc := 42) (i := 2) dX2_age_42 rfl rfl ?_
          refine wp_iconst (pc := 43) (v := nI 1) dX2_age_43 (by decide +kernel) ?_
          refine wp_icmp_neN (pc := 44) (tgt := 53) dX2_age_44 (by decide) (by omega) (by omega) (fun c_44 => ?_) (fun c_44 => absurd c_44 (by omega))
          refine wp_iincN (pc := 53) (m := 1) dX2_age_53 rfl rfl (by decide) ?_
          refine wp_goto (pc := 56) (tgt := 12) dX2_age_56 (by decide) ?_
          refine wp_drop 2 ?_
          have e1 := same c_44
          have e2 : mix (ageT b) b.2.1 c = mix (ageT b) b.2.1 (c + 1) := by
            rw [← mix_up]; funext k
            unfold up
            split
            · rename_i e; rw [e, mix_at, ageT, c_25]
            · rfl
          have h := ih (c + 1) (by omega)
          rw [← e1, ← e2] at h
          exact h
        · obtain ⟨w1, w2⟩ := pn_dec (f := mix (ageT b) b.2.1 c) hc16 (by rw [mix_at]; exact c_25)
          refine wp_aload_n (pc := 28) (i := 0) dX2_age_28 rfl rfl (by first | with_reducible assumption | rfl) ?_
          refine wp_dup (pc := 29) dX2_age_29 rfl ?_
          refine wp_getJ (pc := 30) dX2_age_30 lf_X2_23 (by first | with_reducible assumption | rfl) (by first | with_reducible assumption | rfl) rfl ?_
          rw [h4]
          refine wp_lconst (pc := 33) (v := lN 1) dX2_age_33 (by decide +kernel) ?_
          skip
          refine wp_iconst (pc := 34) (v := nI 4) dX2_age_34 (by decide +kernel) ?_
          refine wp_iload_n (pc := 35) (i := 1) dX2_age_35 rfl rfl ?_
          first | (refine wp_imulN (pc := 36) dX2_age_36 ?_) | (refine wp_imul (pc := 36) dX2_age_36 ?_)
          first | (refine wp_lshlN (pc := 37) dX2_age_37 (by first | with_reducible assumption | omega) ?_) | (refine wp_lshl (pc := 37) dX2_age_37 ?_)
          first | (refine wp_lsubN (pc := 38) dX2_age_38 (by first | with_reducible assumption | omega) ?_) | (refine wp_lsub (pc := 38) dX2_age_38 ?_)
          rw [w2, mix_at, show b.2.1 c - 1 = ageT b c from rfl, mix_up]
          refine wp_putJ (pc := 39) dX2_age_39 lf_X2_23 (by first | with_reducible assumption | rfl) (by first | with_reducible assumption | rfl) rfl rfl ?_
          rw [wJ_4, hI]
          refine wp_iload_n (pc := 42) (i := 2) dX2_age_42 rfl rfl ?_
          refine wp_iconst (pc := 43) (v := nI 1) dX2_age_43 (by decide +kernel) ?_
          first | (refine wp_icmp_neN (pc := 44) (tgt := 53) dX2_age_44 (by decide) (by first | with_reducible assumption | omega) (by first | with_reducible assumption | omega) (fun c_44 => ?_) (fun c_44 => ?_)) | (refine wp_icmp_ne (pc := 44) (tgt := 53) dX2_age_44 (by decide) (fun c_44 => ?_) (fun c_44 => ?_))
          all_goals (skip)
          · first | (refine wp_iincN (pc := 53) (m := 1) dX2_age_53 rfl rfl (by decide) ?_) | (refine wp_iinc (pc := 53) dX2_age_53 rfl rfl (by decide) ?_)
            refine wp_goto (pc := 56) (tgt := 12) dX2_age_56 (by decide) ?_
            refine wp_drop 2 ?_
            first
              | (have g1 : b.2.1 c = 1 := c_44
                 exact ih (c + 1) (by omega))
              | (have e1 := same c_44
                 have h := ih (c + 1) (by omega)
                 rw [← e1] at h
                 exact h)
          · refine wp_aload_n (pc := 47) (i := 0) dX2_age_47 rfl rfl (by first | with_reducible assumption | rfl) ?_
            refine wp_iload_n (pc := 48) (i := 1) dX2_age_48 rfl rfl ?_
            refine wp_iconst (pc := 49) (v := nI 0) dX2_age_49 (by decide +kernel) ?_
            refine wp_cVV2 (pc := 50) (ci := 2) dX2_age_50 lm_X2_56 m_X2_put (by first | with_reducible assumption | rfl) (by first | with_reducible assumption | rfl) (by decide) rfl (Nat.le_of_ble_eq_true rfl) (sp_X2_put (s := 0) hp PL_w hm1 hc16 (by decide)) (fun I_50 J_50 h_50 => ?_)
            obtain ⟨rfl, rfl⟩ := h_50
            rw [wI_w, wJ_w]
            show WP ΩC _ _ _ _ _ (wI p (up (mix (ageG b) b.1 c) c 0, mix (ageT b) b.2.1 (c + 1), b.2.2) I) (wJ p (up (mix (ageG b) b.1 c) c 0, mix (ageT b) b.2.1 (c + 1), b.2.2) J) _
            have e0 : (0 : Nat) = ageG b c := by rw [ageG, if_pos c_44]
            rw [(congrArg (up (mix (ageG b) b.1 c) c) e0).trans mix_up]
            first | (refine wp_iincN (pc := 53) (m := 1) dX2_age_53 rfl rfl (by decide) ?_) | (refine wp_iinc (pc := 53) dX2_age_53 rfl rfl (by decide) ?_)
            refine wp_goto (pc := 56) (tgt := 12) dX2_age_56 (by decide) ?_
            refine wp_drop 2 ?_
            first
              | (have g1 : b.2.1 c = 1 := c_44
                 exact ih (c + 1) (by omega))
              | (have e1 := same c_44
                 have h := ih (c + 1) (by omega)
                 rw [← e1] at h
                 exact h)
  refine call_of_wp (by decide) (Nat.le_of_ble_eq_true rfl) ?_
  obtain ⟨q1, q2, q3, q4, q5⟩ := isP_sh hp
  refine wp_aload_n (pc := 0) (i := 0) dX2_age_0 rfl rfl (by first | with_reducible assumption | rfl) ?_
  refine wp_getJ (pc := 1) dX2_age_1 lf_X2_23 (by first | with_reducible assumption | rfl) (by first | with_reducible assumption | rfl) rfl ?_
  rw [e4]
  refine wp_lconst (pc := 4) (v := lN 0) dX2_age_4 (by decide +kernel) ?_
  refine wp_lcmp (pc := 5) dX2_age_5 ?_
  refine wp_if_ne (pc := 6) (tgt := 10) dX2_age_6 (by decide) (fun c_6 => ?_) (fun c_6 => ?_)
  · refine wp_iconst (pc := 10) (v := nI 0) dX2_age_10 (by decide +kernel) ?_
    refine wp_istore_n (pc := 11) (i := 1) dX2_age_11 rfl (by decide) ?_
    have h := loop 16 0 rfl
    rw [mix_0, mix_0] at h
    have e1 : wI p (b.1, b.2.1, b.2.2) I = I := wI_id hb
    have e2 : wJ p (b.1, b.2.1, b.2.2) J = J := wJ_id hb
    rw [e1, e2] at h
    exact h
  · have hz : ∀ c, c < 16 → b.2.1 c = 0 := (pn_zero ht').mp ((lN_inj64 hN (by decide)).mp (lcmp_0.mp c_6))
    refine wp_return (pc := 9) dX2_age_9 rfl ?_
    refine vq_i ⟨?_, ?_⟩
    · have h1 : wI p (b.1, b.2.1, b.2.2) I = I := wI_id hb
      exact (h1.symm.trans (wI_cong (fun c hc => by simp [ageG, hz c hc]) rfl))
    · have h1 : wJ p (b.1, b.2.1, b.2.2) J = J := wJ_id hb
      exact (h1.symm.trans (wJ_cong (fun c hc => by simp [ageG, hz c hc]) (fun c hc => by simp [ageT, hz c hc])))
end PL2
