/-! THE ROW OF PLIES THAT THERE ARE -/
def plP (w h : Nat) (b : Bd) (x : Nat) : Bool := menP b.1 b.2.2.1 (x / 16) && reaP w h b.1 (x / 16) (x % 16)
def plL (w h : Nat) (b : Bd) (n : Nat) : List Nat := (List.range n).filter (plP w h b)
/-- 16 from + to, in their order; 256: a PASS -/
def PLY (w h : Nat) (b : Bd) : List Nat := if ¬ b.2.2.2 = 2 then [] else if plL w h b 256 = [] then [256] else plL w h b 256
theorem flt_ct (P : Nat → Bool) : ∀ n, ((List.range n).filter P).length = fb_ct P n
  | 0 => rfl
  | n + 1 => by
    rw [List.range_succ, List.filter_append, List.length_append, flt_ct P n, fb_ct_succ]
    cases h : P n <;> simp [h]
theorem ct_rows (P : Nat → Bool) : ∀ m, fb_ct P (16 * m) = fb_sm (fun f => fb_ct (fun t => P (16 * f + t)) 16) m
  | 0 => rfl
  | m + 1 => by
    rw [Nat.mul_add, fb_ct_split, ct_rows P m, fb_sm_succ]
theorem sm_if (M : Nat → Bool) (k : Nat) : ∀ n, fb_sm (fun f => if M f then k else 0) n = fb_ct M n * k
  | 0 => by simp [fb_sm, fb_ct]
  | n + 1 => by
    rw [fb_sm_succ, sm_if M k n, fb_ct_succ, Nat.add_mul]
    cases M n <;> simp
theorem m64 : ∀ m, m < 17 → m * (16 - m) ≤ 64 := by decide +kernel
theorem men_not {g : Nat → Nat} {s t : Nat} (hs : s < 2) (h : menP g (1 - s) t = true) : menP g s t = false := by
  rcases (show s = 0 ∨ s = 1 by omega) with rfl | rfl
  · simp [menP, wht, blk] at h ⊢; omega
  · simp [menP, wht, blk] at h ⊢; omega
theorem men_sd {g : Nat → Nat} {s c : Nat} (hs : s < 2) (h : menP g s c = true) : sd (g c) = s ∧ 2 ≤ g c := by
  rcases (show s = 0 ∨ s = 1 by omega) with rfl | rfl
  · simp [menP, wht] at h
    exact ⟨by unfold sd; rw [if_pos h.2], h.1⟩
  · simp [menP, blk] at h
    exact ⟨by unfold sd; rw [if_neg (by omega)], by omega⟩
theorem men_ful {g : Nat → Nat} {s t : Nat} (h : ful g t = false) : menP g s t = false := by
  unfold ful at h
  unfold menP
  cases h1 : wht g t <;> cases h2 : blk g t <;> simp_all
theorem rea_not {w h : Nat} {g : Nat → Nat} {s f t : Nat} (hs : s < 2) (hm : menP g s f = true) (hr : reaP w h g f t = true) : menP g s t = false := by
  obtain ⟨e1, e2⟩ := men_sd hs hm
  unfold reaP at hr
  rw [if_neg (by omega), Bool.or_eq_true] at hr
  rcases hr with h1 | h1
  · rw [Bool.and_eq_true] at h1
    exact men_ful (by simpa using h1.2)
  · rw [Bool.and_eq_true, e1] at h1
    exact men_not hs h1.2
theorem pl_64 {w h : Nat} {b : Bd} (ho : b.2.2.1 < 2) : fb_ct (plP w h b) 256 ≤ 64 := by
  rw [show 256 = 16 * 16 from rfl, ct_rows]
  have h1 : fb_sm (fun f => fb_ct (fun t => plP w h b (16 * f + t)) 16) 16 ≤ fb_sm (fun f => if menP b.1 b.2.2.1 f then fb_ct (fun t => !menP b.1 b.2.2.1 t) 16 else 0) 16 := by
    refine fb_sm_le (fun f hf => ?_)
    cases hm : menP b.1 b.2.2.1 f with
    | true =>
      rw [if_pos rfl]
      refine fb_ct_sub (fun t ht hp => ?_)
      unfold plP at hp
      rw [show (16 * f + t) / 16 = f by omega, show (16 * f + t) % 16 = t by omega, Bool.and_eq_true] at hp
      rw [rea_not ho hm hp.2]; rfl
    | false =>
      rw [if_neg (by decide)]
      refine Nat.le_of_eq (fb_ct_zero.mpr (fun t ht => ?_))
      unfold plP
      rw [show (16 * f + t) / 16 = f by omega, hm]; rfl
  rw [sm_if] at h1
  have h2 := fb_ct_not (menP b.1 b.2.2.1) 16
  have h3 := m64 (fb_ct (menP b.1 b.2.2.1) 16) (by have := fb_ct_le (menP b.1 b.2.2.1) 16; omega)
  rw [show fb_ct (fun k => !menP b.1 b.2.2.1 k) 16 = 16 - fb_ct (menP b.1 b.2.2.1) 16 by omega] at h1
  omega
theorem plL_len {w h n : Nat} {b : Bd} (ho : b.2.2.1 < 2) (hn : n ≤ 256) : (plL w h b n).length ≤ 64 := by
  unfold plL
  rw [flt_ct]
  exact Nat.le_trans (fb_ct_mono _ hn) (pl_64 ho)
theorem PLY_len {w h : Nat} {b : Bd} (ho : b.2.2.1 < 2) : (PLY w h b).length ≤ 64 := by
  unfold PLY
  split
  · exact Nat.zero_le _
  · split
    · decide
    · exact plL_len ho (Nat.le_refl _)
/-- the row of a place -/
def lsM (p : Nat) (l : List Nat) (I : MemI) : MemI := fun a i => if a = p ∧ i = 2 then nI l.length else if a = p + 5 ∧ i < l.length then encC (l.getD i 0) else I a i
theorem lsM_0 {p : Nat} {I : MemI} : uI I p 2 (nI 0) = lsM p [] I := by
  funext a i
  unfold uI lsM
  simp
theorem lsM_add {p x : Nat} {l : List Nat} {I : MemI} : uI (uI (lsM p l I) (p + 5) l.length (encC x)) p 2 (nI (l.length + 1)) = lsM p (l ++ [x]) I := by
  funext a i
  unfold uI lsM
  by_cases h1 : a = p ∧ i = 2
  · simp [h1]
  · simp only [if_neg h1]
    by_cases h2 : a = p + 5
    · subst h2
      by_cases h3 : i = l.length
      · subst h3
        simp
      · rw [if_neg (fun z => h3 z.2)]
        by_cases h4 : i < l.length
        · rw [if_pos ⟨rfl, h4⟩, if_pos ⟨rfl, by simp; omega⟩]
          simp [List.getD_eq_getElem?_getD, List.getElem?_append_left h4]
        · rw [if_neg (fun z => h4 z.2), if_neg (fun z => by have := z.2; simp at this; omega)]
    · simp only [h2, false_and, if_false]
theorem lsM_o {p a i : Nat} {l : List Nat} {I : MemI} (h1 : ¬ (a = p ∧ i = 2)) (h2 : ¬ a = p + 5) : lsM p l I a i = I a i := by
  unfold lsM
  rw [if_neg h1, if_neg (fun z => h2 z.1)]
theorem lsM_2 {p : Nat} {l : List Nat} {I : MemI} : lsM p l I p 2 = nI l.length := by simp [lsM]
theorem lsM_w {p : Nat} {l l2 : List Nat} {I : MemI} (h : l2.length ≤ l.length) : lsM p l (lsM p l2 I) = lsM p l I := by
  funext a i
  unfold lsM
  by_cases h1 : a = p ∧ i = 2
  · rw [if_pos h1, if_pos h1]
  · rw [if_neg h1, if_neg h1, if_neg h1]
    by_cases h2 : a = p + 5 ∧ i < l.length
    · rw [if_pos h2, if_pos h2]
    · rw [if_neg h2, if_neg h2, if_neg (fun z => h2 ⟨z.1, by omega⟩)]
theorem PL_ls {p q : Nat} {l : List Nat} {b : Bd} {I : MemI} {J : MemJ} (hp : isP p) (hq : isP q) (h : PL q b I J) : PL q b (lsM p l I) J := by
  refine ⟨fun i h1 h2 => ?_, h.2⟩
  rw [lsM_o (fun z => by omega) (fun z => by have := hp.1; have := hq.2; omega)]
  exact h.1 i h1 h2
theorem Tab_ls {p w h c : Nat} {l : List Nat} {I : MemI} (hp : isP p) (ht : Tab w h I c) : Tab w h (lsM p l I) c := by
  have o : ∀ a i, a < 9 → lsM p l I a i = I a i := fun a i ha => lsM_o (fun z => by have := hp.1; omega) (fun z => by have := hp.1; omega)
  obtain ⟨h1, h2, h3, h4⟩ := ht
  exact ⟨fun k hk => by rw [o _ _ (by decide)]; exact h1 k hk, by rw [o _ _ (by decide)]; exact h2, by rw [o _ _ (by decide)]; exact h3, fun s hs => ⟨by rw [o _ _ (by decide)]; exact (h4 s hs).1, by rw [o _ _ (by decide)]; exact (h4 s hs).2⟩⟩
theorem Fld_of {w h last : Nat} {I I' : MemI} (hF : Fld w h last I) (o : ∀ a i, 3 ≤ a → a < 9 → I' a i = I a i) : Fld w h last I' := by
  obtain ⟨h0, h1, h2, h3, h4, h5⟩ := hF
  refine ⟨h0, by rw [o 3 _ (by decide) (by decide)]; exact h1, by rw [o 3 _ (by decide) (by decide)]; exact h2, by rw [o 3 _ (by decide) (by decide)]; exact h3, by rw [o 3 _ (by decide) (by decide)]; exact h4, fun c hc => ?_⟩
  obtain ⟨t1, t2, t3, t4⟩ := h5 c hc
  exact ⟨fun k hk => by rw [o 4 _ (by decide) (by decide)]; exact t1 k hk, by rw [o 5 _ (by decide) (by decide)]; exact t2, by rw [o 6 _ (by decide) (by decide)]; exact t3, fun s hs => ⟨by rw [o 7 _ (by decide) (by decide)]; exact (t4 s hs).1, by rw [o 8 _ (by decide) (by decide)]; exact (t4 s hs).2⟩⟩
theorem Fld_ls {p w h last : Nat} {l : List Nat} {I : MemI} (hp : isP p) (hF : Fld w h last I) : Fld w h last (lsM p l I) :=
  Fld_of hF (fun a i h1 h2 => lsM_o (fun z => by have := hp.1; omega) (fun z => by have := hp.1; omega))
theorem enc_ft {f t : Nat} (hf : f < 16) (ht : t < 16) : encC (16 * f + t) = nI (f * 100 + t) := by
  rw [enc_ne (by omega), show (16 * f + t) / 16 = f by omega, show (16 * f + t) % 16 = t by omega]
section LST
variable {d : Nat} {I : MemI} {J : MemJ}
set_option maxHeartbeats 16000000 in
theorem sp_X2_setPly {p j : Nat} {x : Int32} (hp : isP p) (hj : j < 64) : CALL ΩC (d + 1) kX2_setPly [.ref p, .int (nI j), .int x] I J (VQ (fun I' J' => I' = uI I (p + 5) j x ∧ J' = J)) := by
  refine call_of_wp (by decide) (Nat.le_of_ble_eq_true rfl) ?_
  obtain ⟨q1, q2, q3, q4, q5⟩ := isP_sh hp
  refine wp_aload_n (pc := 0) (i := 0) dX2_setPly_0 rfl rfl (by first | with_reducible assumption | rfl) ?_
  refine wp_getR (pc := 1) dX2_setPly_1 lf_X2_9 (by first | with_reducible assumption | rfl) (by first | with_reducible assumption | rfl) rfl (by first | with_reducible assumption | rfl) (by first | with_reducible assumption | rfl) ?_
  refine wp_iload_n (pc := 4) (i := 1) dX2_setPly_4 rfl rfl ?_
  refine wp_iload_n (pc := 5) (i := 2) dX2_setPly_5 rfl rfl ?_
  refine wp_cSV3 (pc := 6) dX2_setPly_6 lm_X2_121 m_X5_lay (Nat.le_of_ble_eq_true rfl) (sp_X5_lay (by first | with_reducible assumption | rfl) (by first | with_reducible assumption | rfl) (by first | with_reducible assumption | omega) (by decide)) (fun I_6 J_6 h_6 => ?_)
  refine wp_return (pc := 9) dX2_setPly_9 rfl ?_
  exact vq_i h_6
set_option maxHeartbeats 16000000 in
theorem sp_X2_ply {p k : Nat} (l : List Nat) (hp : isP p) (h2 : I p 2 = nI l.length) (hl : l.length ≤ 64) (hI : ∀ k, k < l.length → I (p + 5) k = encC (l.getD k 0)) (hk : k < l.length) : CALL ΩC (d + 1) kX2_ply [.ref p, .int (nI k)] I J (PQ (.int (encC (l.getD k 0))) I J) := by
  refine call_of_wp (by decide) (Nat.le_of_ble_eq_true rfl) ?_
  obtain ⟨q1, q2, q3, q4, q5⟩ := isP_sh hp
  refine wp_iload_n (pc := 0) (i := 1) dX2_ply_0 rfl rfl ?_
  refine wp_if_ltN (pc := 1) (tgt := 23) dX2_ply_1 (by decide) (by first | with_reducible assumption | omega) ?_
  refine wp_iload_n (pc := 4) (i := 1) dX2_ply_4 rfl rfl ?_
  refine wp_aload_n (pc := 5) (i := 0) dX2_ply_5 rfl rfl (by first | with_reducible assumption | rfl) ?_
  refine wp_getI (pc := 6) dX2_ply_6 lf_X2_15 (by first | with_reducible assumption | rfl) (by first | with_reducible assumption | rfl) rfl ?_
  rw [h2]
  first | (refine wp_icmp_geN (pc := 9) (tgt := 23) dX2_ply_9 (by decide) (by first | with_reducible assumption | omega) (by first | with_reducible assumption | omega) (fun c_9 => ?_) (fun c_9 => ?_)) | (refine wp_icmp_ge (pc := 9) (tgt := 23) dX2_ply_9 (by decide) (fun c_9 => ?_) (fun c_9 => ?_))
  · exact absurd hk (by omega)
  · refine wp_aload_n (pc := 12) (i := 0) dX2_ply_12 rfl rfl (by first | with_reducible assumption | rfl) ?_
    refine wp_getR (pc := 13) dX2_ply_13 lf_X2_9 (by first | with_reducible assumption | rfl) (by first | with_reducible assumption | rfl) rfl (by first | with_reducible assumption | rfl) (by first | with_reducible assumption | rfl) ?_
    refine wp_iload_n (pc := 16) (i := 1) dX2_ply_16 rfl rfl ?_
    refine wp_cSP2 (pc := 17) dX2_ply_17 lm_X2_117 m_X5_at (Nat.le_of_ble_eq_true rfl) (sp_X5_at (by first | with_reducible assumption | rfl) (by first | with_reducible assumption | rfl) (by first | with_reducible assumption | omega) (by decide)) ?_
    refine wp_goto (pc := 20) (tgt := 25) dX2_ply_20 (by decide) ?_
    refine wp_ireturn (pc := 25) dX2_ply_25 rfl ?_
    exact pq_i (hI k hk)
set_option maxHeartbeats 16000000 in
/-- listFrom: the cells reached from one are added to the row -/
theorem sp_X2_listFrom {p f n : Nat} {l : List Nat} {R : Nat → Bool} (hp : isP p) (hf : f < 16) (hn : n ≤ 16) (hl : l.length + ((List.range n).filter R).length ≤ 64) : CALL ΩC (d + 2) kX2_listFrom [.ref p, .int (nI f), .int (nI (mset R)), .int (nI n)] (lsM p l I) J (VQ (fun I' J' => I' = lsM p (l ++ ((List.range n).filter R).map (fun t => 16 * f + t)) I ∧ J' = J)) := by
  have hm := mset_lt R
  have loop : ∀ m t, m + t = n → WP ΩC (d + 2) kX2_listFrom 3 [(0, .ref p), (1, .int (nI f)), (2, .int (nI (mset R))), (3, .int (nI n)), (4, .int (nI t))] [] (lsM p (l ++ ((List.range t).filter R).map (fun t => 16 * f + t)) I) J (VQ (fun I' J' => I' = lsM p (l ++ ((List.range n).filter R).map (fun t => 16 * f + t)) I ∧ J' = J)) := by
    intro m
    induction m with
    | zero =>
      intro t ht
      have ht' : t = n := (Nat.zero_add t).symm.trans ht
      subst ht'
      refine wp_iload (pc := 3) dX2_listFrom_3 rfl ?_
      refine wp_iload_n (pc := 5) (i := 3) dX2_listFrom_5 rfl rfl ?_
      first | (refine wp_icmp_geN (pc := 6) (tgt := 49) dX2_listFrom_6 (by decide) (by first | with_reducible assumption | omega) (by first | with_reducible assumption | omega) (fun c_6 => ?_) (fun c_6 => ?_)) | (refine wp_icmp_ge (pc := 6) (tgt := 49) dX2_listFrom_6 (by decide) (fun c_6 => ?_) (fun c_6 => ?_))
      · refine wp_return (pc := 49) dX2_listFrom_49 rfl ?_
        exact vq_i ⟨rfl, rfl⟩
      · exact absurd (Nat.le_refl t) c_6
    | succ m ih =>
      intro t ht
      have htn : t < n := by omega
      have ht16 : t < 16 := by omega
      have hbit := mset_bit' R ht16
      have hs : R t = false → ((List.range (t + 1)).filter R) = ((List.range t).filter R) := fun h => by rw [List.range_succ, List.filter_append]; simp [h]
      have ha : R t = true → ((List.range (t + 1)).filter R) = ((List.range t).filter R) ++ [t] := fun h => by rw [List.range_succ, List.filter_append]; simp [h]
      have hlen : R t = true → l.length + ((List.range t).filter R).length < 64 := fun h => by
        have h1 := flt_ct R t
        have h2 := flt_ct R n
        have h3 := fb_ct_mono R (show t + 1 ≤ n from htn)
        rw [fb_ct_succ, h] at h3
        simp at h3
        omega
      have hh := ih (t + 1) (by omega)
      clear ht ih
      obtain ⟨q1, q2, q3, q4, q5⟩ := isP_sh hp
      generalize hLd : l ++ ((List.range t).filter R).map (fun t => 16 * f + t) = Ld
      have hLl : Ld.length = l.length + ((List.range t).filter R).length := by rw [← hLd]; simp
      refine wp_iload (pc := 3) dX2_listFrom_3 rfl ?_
      refine wp_iload_n (pc := 5) (i := 3) dX2_listFrom_5 rfl rfl ?_
      first | (refine wp_icmp_geN (pc := 6) (tgt := 49) dX2_listFrom_6 (by decide) (by first | with_reducible assumption | omega) (by first | with_reducible assumption | omega) (fun c_6 => ?_) (fun c_6 => ?_)) | (refine wp_icmp_ge (pc := 6) (tgt := 49) dX2_listFrom_6 (by decide) (fun c_6 => ?_) (fun c_6 => ?_))
      · exact absurd c_6 (by omega)
      · refine wp_iload_n (pc := 9) (i := 2) dX2_listFrom_9 rfl rfl ?_
        refine wp_iload (pc := 10) dX2_listFrom_10 rfl ?_
        refine wp_cSP2 (pc := 12) dX2_listFrom_12 lm_X2_102 m_X5_has (Nat.le_of_ble_eq_true rfl) (sp_X5_has (by first | with_reducible assumption | omega) (by first | with_reducible assumption | omega)) ?_
        rw [hbit]
        refine wp_if_eqB (pc := 15) (tgt := 43) dX2_listFrom_15 (by decide) (fun c_15 => ?_) (fun c_15 => ?_)
        · first | (refine wp_iincN (pc := 43) (m := 1) dX2_listFrom_43 rfl rfl (by decide) ?_) | (refine wp_iinc (pc := 43) dX2_listFrom_43 rfl rfl (by decide) ?_)
          refine wp_goto (pc := 46) (tgt := 3) dX2_listFrom_46 (by decide) ?_
          first
            | (have g1 : R t = true := c_15
               rw [ha g1, List.map_append, ← List.append_assoc, hLd] at hh
               exact hh)
            | (have g2 : R t = false := c_15
               rw [hs g2, hLd] at hh
               exact hh)
        · have h64 := hlen c_15
          refine wp_aload_n (pc := 18) (i := 0) dX2_listFrom_18 rfl rfl (by first | with_reducible assumption | rfl) ?_
          refine wp_aload_n (pc := 19) (i := 0) dX2_listFrom_19 rfl rfl (by first | with_reducible assumption | rfl) ?_
          refine wp_getI (pc := 20) dX2_listFrom_20 lf_X2_15 (by first | with_reducible assumption | rfl) (by first | with_reducible assumption | rfl) rfl ?_
          rw [lsM_2]
          refine wp_iload_n (pc := 23) (i := 1) dX2_listFrom_23 rfl rfl ?_
          refine wp_bipush (pc := 24) (v := nI 100) dX2_listFrom_24 (by decide +kernel) ?_
          first | (refine wp_imulN (pc := 26) dX2_listFrom_26 ?_) | (refine wp_imul (pc := 26) dX2_listFrom_26 ?_)
          refine wp_iload (pc := 27) dX2_listFrom_27 rfl ?_
          first | (refine wp_iaddN (pc := 29) dX2_listFrom_29 ?_) | (refine wp_iadd (pc := 29) dX2_listFrom_29 ?_)
          rw [← enc_ft hf ht16]
          refine wp_cVV2 (pc := 30) (ci := 2) dX2_listFrom_30 lm_X2_114 m_X2_setPly (by first | with_reducible assumption | rfl) (by first | with_reducible assumption | rfl) (by decide) rfl (Nat.le_of_ble_eq_true rfl) (sp_X2_setPly hp (by rw [hLl]; exact h64)) (fun I_30 J_30 h_30 => ?_)
          obtain ⟨rfl, rfl⟩ := h_30
          refine wp_aload_n (pc := 33) (i := 0) dX2_listFrom_33 rfl rfl (by first | with_reducible assumption | rfl) ?_
          refine wp_dup (pc := 34) dX2_listFrom_34 rfl ?_
          refine wp_getI (pc := 35) dX2_listFrom_35 lf_X2_15 (by first | with_reducible assumption | rfl) (by first | with_reducible assumption | rfl) rfl ?_
          rw [show uI (lsM p Ld I) (p + 5) Ld.length (encC (16 * f + t)) p 2 = nI Ld.length by simp [uI, lsM]]
          refine wp_iconst (pc := 38) (v := nI 1) dX2_listFrom_38 (by decide +kernel) ?_
          first | (refine wp_iaddN (pc := 39) dX2_listFrom_39 ?_) | (refine wp_iadd (pc := 39) dX2_listFrom_39 ?_)
          refine wp_putI (pc := 40) dX2_listFrom_40 lf_X2_15 (by first | with_reducible assumption | rfl) (by first | with_reducible assumption | rfl) rfl rfl ?_
          rw [lsM_add]
          first | (refine wp_iincN (pc := 43) (m := 1) dX2_listFrom_43 rfl rfl (by decide) ?_) | (refine wp_iinc (pc := 43) dX2_listFrom_43 rfl rfl (by decide) ?_)
          refine wp_goto (pc := 46) (tgt := 3) dX2_listFrom_46 (by decide) ?_
          first
            | (have g1 : R t = true := c_15
               rw [ha g1, List.map_append, ← List.append_assoc, hLd] at hh
               exact hh)
            | (have g2 : R t = false := c_15
               rw [hs g2, hLd] at hh
               exact hh)
  refine call_of_wp (by decide) (Nat.le_of_ble_eq_true rfl) ?_
  refine wp_iconst (pc := 0) (v := nI 0) dX2_listFrom_0 (by decide +kernel) ?_
  refine wp_istore (pc := 1) dX2_listFrom_1 (by decide) ?_
  have h := loop n 0 rfl
  rw [show (l ++ ((List.range 0).filter R).map (fun t => 16 * f + t)) = l by simp] at h
  exact h
end LST
