/-! THE REFERENCE'S PICTURE; ITS CALLS, 1 -/
/-- a board laid into a row at o -/
def RW (n A o : Nat) (b : Bd) (I : MemI) : Prop := (∀ c, c < 16 → I A (o + c) = nI (ccd n b.1 c) ∧ I A (o + 16 + c) = nI (b.2.1 c)) ∧ I A (o + 32) = nI b.2.2.1 ∧ I A (o + 33) = lsI b.2.2.2
theorem RW_n {n A o : Nat} {b : Bd} {I I' : MemI} (h : RW n A o b I) (hI : ∀ i, o ≤ i → i < o + 34 → I' A i = I A i) : RW n A o b I' :=
  ⟨fun c hc => by rw [hI _ (by omega) (by omega), hI _ (by omega) (by omega)]; exact h.1 c hc, by rw [hI _ (by omega) (by omega)]; exact h.2.1, by rw [hI _ (by omega) (by omega)]; exact h.2.2⟩
/-- the text -/
def TM (t : List Nat) (I : MemI) : Prop := I 0 8 = nI t.length ∧ t.length ≤ 24 ∧ ∀ j x, t[j]? = some x → I 5 j = nI x ∧ x < 256
/-- the places behind: the next one goes to nx -/
def PM (n : Nat) (ps : List Bd) (I : MemI) : Prop := ∃ nx, I 0 11 = nI ps.length ∧ I 0 12 = nI nx ∧ nx < 16 ∧ ps.length ≤ 16 ∧ ∀ j c, ps[j]? = some c → RW n 8 (34 * ((nx + 16 - ps.length + j) % 16)) c I
/-- what is kept -/
def KM (n : Nat) (f : Nat → Option Bd) (I : MemI) : Prop := ∀ s, s < 2 → I 11 s = bI (f s).isSome ∧ ∀ c, f s = some c → RW n 12 (34 * s) c I
def RepM (t : List Nat) (w h last : Nat) (b : Bd) (ps : List Bd) (f : Nat → Option Bd) (z : Int64) (I : MemI) (J : MemJ) : Prop :=
  last < 10 ∧ TM t I ∧ (WH w h I ∧ I 0 2 = nI last) ∧ (LX (w * h) 0 b I ∧ Bok (w * h) b) ∧ (PM (w * h) ps I ∧ ∀ c, c ∈ ps → Bok (w * h) c) ∧ (KM (w * h) f I ∧ ∀ i c, f i = some c → Bok (w * h) c) ∧ J 0 16 = z
/-- what looking ahead may leave changed -/
def scrM (a i : Nat) : Prop := ((a = 1 ∨ a = 2) ∧ 16 ≤ i) ∨ ((a = 3 ∨ a = 4) ∧ 1 ≤ i) ∨ a = 6 ∨ a = 7 ∨ a = 9 ∨ a = 10
def FI (P : Nat → Nat → Prop) (I I' : MemI) : Prop := ∀ a i, ¬ P a i → I' a i = I a i
theorem FI.refl {P : Nat → Nat → Prop} {I : MemI} : FI P I I := fun _ _ _ => rfl
theorem FI.trans {P : Nat → Nat → Prop} {I I1 I2 : MemI} (h : FI P I I1) (k : FI P I1 I2) : FI P I I2 := fun a i z => (k a i z).trans (h a i z)
theorem FI.mono {P R : Nat → Nat → Prop} {I I1 : MemI} (h : FI P I I1) (hm : ∀ a i, P a i → R a i) : FI R I I1 := fun a i z => h a i (fun y => z (hm a i y))
theorem TM_n {t : List Nat} {I I' : MemI} (h : TM t I) (h0 : I' 0 8 = I 0 8) (h5 : ∀ i, I' 5 i = I 5 i) : TM t I' := ⟨by rw [h0]; exact h.1, h.2.1, fun j x hj => by rw [h5]; exact h.2.2 j x hj⟩
theorem PM_n {n : Nat} {ps : List Bd} {I I' : MemI} (h : PM n ps I) (h1 : I' 0 11 = I 0 11) (h2 : I' 0 12 = I 0 12) (h8 : ∀ i, I' 8 i = I 8 i) : PM n ps I' := by
  obtain ⟨nx, g1, g2, g3, g4, g5⟩ := h
  exact ⟨nx, by rw [h1]; exact g1, by rw [h2]; exact g2, g3, g4, fun j c hj => RW_n (g5 j c hj) (fun i _ _ => h8 i)⟩
theorem KM_n {n : Nat} {f : Nat → Option Bd} {I I' : MemI} (h : KM n f I) (h1 : ∀ i, I' 11 i = I 11 i) (h2 : ∀ i, I' 12 i = I 12 i) : KM n f I' := fun s hs => ⟨by rw [h1]; exact (h s hs).1, fun c hc => RW_n ((h s hs).2 c hc) (fun i _ _ => h2 i)⟩
theorem RepM_fr {t : List Nat} {w h last : Nat} {b : Bd} {ps : List Bd} {f : Nat → Option Bd} {z : Int64} {I I' : MemI} {J : MemJ} (h0 : RepM t w h last b ps f z I J) (hf : FI scrM I I') : RepM t w h last b ps f z I' J := by
  obtain ⟨h1, h2, ⟨h3, h4⟩, ⟨h5, h6⟩, ⟨h7, h8⟩, ⟨h9, h10⟩, h11⟩ := h0
  have e : ∀ a i, ¬ scrM a i → I' a i = I a i := hf
  exact ⟨h1, TM_n h2 (e 0 8 (by unfold scrM; omega)) (fun i => e 5 i (by unfold scrM; omega)), ⟨WH_fr h3 (fun i => e 0 i (by unfold scrM; omega)), by rw [e 0 2 (by unfold scrM; omega)]; exact h4⟩, ⟨LX_n h5 (by decide) (fun a i z1 z2 z3 => e a i (by unfold scrM; omega)) (e 3 0 (by unfold scrM; omega)) (e 4 0 (by unfold scrM; omega)), h6⟩, ⟨PM_n h7 (e 0 11 (by unfold scrM; omega)) (e 0 12 (by unfold scrM; omega)) (fun i => e 8 i (by unfold scrM; omega)), h8⟩, ⟨KM_n h9 (fun i => e 11 i (by unfold scrM; omega)) (fun i => e 12 i (by unfold scrM; omega)), h10⟩, h11⟩
def RM (s : Sg) (I : MemI) (J : MemJ) : Prop := RepM s.1 s.2.1.1 s.2.1.2.1 s.2.1.2.2 s.2.2.1 s.2.2.2.1 s.2.2.2.2.1 s.2.2.2.2.2 I J
def AM (a : Int32) (s : Sg) : Pst := IQ (fun r I' J' => r = a ∧ RM s I' J')
def AML (a : Int64) (s : Sg) : Pst := fun r I' J' => r = some (.long a) ∧ RM s I' J'
theorem am_i {x a : Int32} {s : Sg} {I : MemI} {J : MemJ} (h : x = a) (hR : RM s I J) : AM a s (some (.int x)) I J := ⟨x, rfl, h, hR⟩
theorem LsT_fr {k : Nat} {l : List Nat} {I I' : MemI} (h : LsT k l I I') : FI scrM I I' := fun a i z => h.2 a i (fun y => z (Or.inr (Or.inr (Or.inl y.1)))) (fun y => z (Or.inr (Or.inr (Or.inr (Or.inl y.1)))))
theorem FM_fr {to : Nat} {I I' : MemI} (h1 : 1 ≤ to) (h : FM to I I') : FI scrM I I' := fun a i z => h a i (fun y => z (Or.inl ⟨y.1, by omega⟩)) (fun y => z (Or.inr (Or.inl ⟨y.1, by omega⟩)))
section MP1
variable {d : Nat} {I : MemI} {J : MemJ} {t : List Nat} {w h last : Nat} {b : Bd} {ps : List Bd} {f : Nat → Option Bd} {z : Int64}
theorem RepM_16 (hR : RepM t w h last b ps f z I J) : 1 ≤ w * h ∧ w * h ≤ 16 := WH_n hR.2.2.1.1
theorem RepM_V (hR : RepM t w h last b ps f z I J) : LV (w * h) 0 b I := LX_V (RepM_16 hR).2 hR.2.2.2.1.1
set_option maxHeartbeats 16000000 in
theorem sp_X6_wipe (hR : RepM t w h last b ps f z I J) : CALL ΩM d kX6_wipe [.ref 0] I J (AM (nI t.length) ([], (w, h, last), b, ps, f, z)) := by
  have hL := hR.2.1.1
  obtain ⟨h1, h2, ⟨h3, h4⟩, ⟨h5, h6⟩, ⟨h7, h8⟩, ⟨h9, h10⟩, h11⟩ := hR
  have e : ∀ a i, ¬ (a = 0 ∧ i = 8) → uI I 0 8 (nI 0) a i = I a i := fun a i y => by
    show (if a = 0 ∧ i = 8 then nI 0 else I a i) = I a i
    rw [if_neg y]
  have hfin : RM ([], (w, h, last), b, ps, f, z) (uI I 0 8 (nI 0)) J := ⟨h1, ⟨by simp [uI], by simp, fun j x hj => by simp at hj⟩, ⟨⟨h3.1, by rw [e 0 0 (by omega)]; exact h3.2.1, by rw [e 0 1 (by omega)]; exact h3.2.2⟩, by rw [e 0 2 (by omega)]; exact h4⟩, ⟨LX_n h5 (by decide) (fun a i z1 z2 z3 => e a i (by omega)) (e 3 0 (by omega)) (e 4 0 (by omega)), h6⟩, ⟨PM_n h7 (e 0 11 (by omega)) (e 0 12 (by omega)) (fun i => e 8 i (by omega)), h8⟩, ⟨KM_n h9 (fun i => e 11 i (by omega)) (fun i => e 12 i (by omega)), h10⟩, h11⟩
  refine call_of_wp (by decide) (Nat.le_of_ble_eq_true rfl) ?_
  refine wp_aload_n (pc := 0) (i := 0) dX6_wipe_0 rfl rfl (by first | with_reducible assumption | rfl) ?_
  refine wp_getI (pc := 1) dX6_wipe_1 lf_X6_60 (by first | with_reducible assumption | rfl) (by first | with_reducible assumption | rfl) rfl ?_
  rw [hL]
  refine wp_istore_n (pc := 4) (i := 1) dX6_wipe_4 rfl (by decide) ?_
  refine wp_aload_n (pc := 5) (i := 0) dX6_wipe_5 rfl rfl (by first | with_reducible assumption | rfl) ?_
  refine wp_iconst (pc := 6) (v := nI 0) dX6_wipe_6 (by decide +kernel) ?_
  refine wp_putI (pc := 7) dX6_wipe_7 lf_X6_60 (by first | with_reducible assumption | rfl) (by first | with_reducible assumption | rfl) rfl rfl ?_
  refine wp_iload_n (pc := 10) (i := 1) dX6_wipe_10 rfl rfl ?_
  refine wp_ireturn (pc := 11) dX6_wipe_11 rfl ?_
  exact am_i rfl hfin
set_option maxHeartbeats 16000000 in
theorem sp_X6_cell {x : Int32} (hR : RepM t w h last b ps f z I J) : CALL ΩM (d + 2) kX6_cell [.ref 0, .int x] I J (AM (aCell (w * h) b x) (t, (w, h, last), b, ps, f, z)) := by
  have hwh := RepM_16 hR
  have hW := hR.2.2.1.1
  have hV := RepM_V hR
  cases hx : inB x (w * h)
  · have e : aCell (w * h) b x = -1 := if_neg (by rw [hx]; exact Bool.false_ne_true)
    rw [e]
    refine call_of_wp (by decide) (Nat.le_of_ble_eq_true rfl) ?_
    refine wp_aload_n (pc := 0) (i := 0) dX6_cell_0 rfl rfl (by first | with_reducible assumption | rfl) ?_
    refine wp_iload_n (pc := 1) (i := 1) dX6_cell_1 rfl rfl ?_
    refine wp_cVP1 (pc := 2) (ci := 6) dX6_cell_2 lm_X6_94 m_X6_isCell (by first | with_reducible assumption | rfl) (by first | with_reducible assumption | rfl) (by decide) rfl (Nat.le_of_ble_eq_true rfl) (sp_X6_isCell (d := d) hW) ?_
    rw [hx]
    refine wp_if_eqB (pc := 5) (tgt := 17) dX6_cell_5 (by decide) (fun c_5 => ?_) (fun c_5 => ?_)
    · refine wp_iconst (pc := 17) (v := (-1)) dX6_cell_17 (by decide +kernel) ?_
      refine wp_ireturn (pc := 18) dX6_cell_18 rfl ?_
      exact am_i rfl hR
    · exact Bool.noConfusion c_5
  · obtain ⟨c, hc, rfl⟩ := inB_t (by omega) hx
    have e : aCell (w * h) b (nI c) = nI (asc (b.1 c)) := by unfold aCell; rw [if_pos hx, cI_n (by omega)]
    have ec := (hV.1 c hc).1
    rw [Nat.mul_zero, Nat.zero_add] at ec
    rw [e]
    refine call_of_wp (by decide) (Nat.le_of_ble_eq_true rfl) ?_
    refine wp_aload_n (pc := 0) (i := 0) dX6_cell_0 rfl rfl (by first | with_reducible assumption | rfl) ?_
    refine wp_iload_n (pc := 1) (i := 1) dX6_cell_1 rfl rfl ?_
    refine wp_cVP1 (pc := 2) (ci := 6) dX6_cell_2 lm_X6_94 m_X6_isCell (by first | with_reducible assumption | rfl) (by first | with_reducible assumption | rfl) (by decide) rfl (Nat.le_of_ble_eq_true rfl) (sp_X6_isCell (d := d) hW) ?_
    rw [hx]
    refine wp_if_eqB (pc := 5) (tgt := 17) dX6_cell_5 (by decide) (fun c_5 => ?_) (fun c_5 => ?_)
    · exact Bool.noConfusion c_5
    · refine wp_aload_n (pc := 8) (i := 0) dX6_cell_8 rfl rfl (by first | with_reducible assumption | rfl) ?_
      refine wp_getR (pc := 9) dX6_cell_9 lf_X6_7 (by first | with_reducible assumption | rfl) (by first | with_reducible assumption | rfl) rfl (by first | with_reducible assumption | rfl) (by first | with_reducible assumption | rfl) ?_
      refine wp_iload_n (pc := 12) (i := 1) dX6_cell_12 rfl rfl ?_
      refine wp_iald (pc := 13) dX6_cell_13 (by first | with_reducible assumption | rfl) (by first | with_reducible assumption | rfl) (by first | with_reducible assumption | omega) (by first | decide | omega) ?_
      rw [ec]
      refine wp_goto (pc := 14) (tgt := 18) dX6_cell_14 (by decide) ?_
      refine wp_ireturn (pc := 18) dX6_cell_18 rfl ?_
      exact am_i rfl hR
set_option maxHeartbeats 16000000 in
theorem sp_X6_gone {x : Int32} (hR : RepM t w h last b ps f z I J) : CALL ΩM (d + 2) kX6_gone [.ref 0, .int x] I J (AM (aGone (w * h) b x) (t, (w, h, last), b, ps, f, z)) := by
  have hwh := RepM_16 hR
  have hW := hR.2.2.1.1
  have hV := RepM_V hR
  have hB := hR.2.2.2.1.2
  cases hx : inB x (w * h)
  · have e : aGone (w * h) b x = -1 := if_neg (by rw [hx]; exact Bool.false_ne_true)
    rw [e]
    refine call_of_wp (by decide) (Nat.le_of_ble_eq_true rfl) ?_
    refine wp_aload_n (pc := 0) (i := 0) dX6_gone_0 rfl rfl (by first | with_reducible assumption | rfl) ?_
    refine wp_iload_n (pc := 1) (i := 1) dX6_gone_1 rfl rfl ?_
    refine wp_cVP1 (pc := 2) (ci := 6) dX6_gone_2 lm_X6_94 m_X6_isCell (by first | with_reducible assumption | rfl) (by first | with_reducible assumption | rfl) (by decide) rfl (Nat.le_of_ble_eq_true rfl) (sp_X6_isCell (d := d) hW) ?_
    rw [hx]
    refine wp_if_neB (pc := 5) (tgt := 10) dX6_gone_5 (by decide) (fun c_5 => ?_) (fun c_5 => ?_)
    · exact Bool.noConfusion c_5
    · refine wp_iconst (pc := 8) (v := (-1)) dX6_gone_8 (by decide +kernel) ?_
      refine wp_ireturn (pc := 9) dX6_gone_9 rfl ?_
      exact am_i rfl hR
  · obtain ⟨c, hc, rfl⟩ := inB_t (by omega) hx
    have e : aGone (w * h) b (nI c) = if ded b.1 c = true then nI (b.2.1 c) else -3 := by unfold aGone; rw [if_pos hx, cI_n (by omega)]
    have ec := (hV.1 c hc).1
    have eg := (hV.1 c hc).2
    rw [Nat.mul_zero, Nat.zero_add] at ec eg
    have hsc := hB.1 c (by omega)
    have hac := asc_lt (b.1 c)
    have a1 := asc_1 _ hsc
    rw [e]
    refine call_of_wp (by decide) (Nat.le_of_ble_eq_true rfl) ?_
    refine wp_aload_n (pc := 0) (i := 0) dX6_gone_0 rfl rfl (by first | with_reducible assumption | rfl) ?_
    refine wp_iload_n (pc := 1) (i := 1) dX6_gone_1 rfl rfl ?_
    refine wp_cVP1 (pc := 2) (ci := 6) dX6_gone_2 lm_X6_94 m_X6_isCell (by first | with_reducible assumption | rfl) (by first | with_reducible assumption | rfl) (by decide) rfl (Nat.le_of_ble_eq_true rfl) (sp_X6_isCell (d := d) hW) ?_
    rw [hx]
    refine wp_if_neB (pc := 5) (tgt := 10) dX6_gone_5 (by decide) (fun c_5 => ?_) (fun c_5 => ?_)
    · refine wp_aload_n (pc := 10) (i := 0) dX6_gone_10 rfl rfl (by first | with_reducible assumption | rfl) ?_
      refine wp_getR (pc := 11) dX6_gone_11 lf_X6_7 (by first | with_reducible assumption | rfl) (by first | with_reducible assumption | rfl) rfl (by first | with_reducible assumption | rfl) (by first | with_reducible assumption | rfl) ?_
      refine wp_iload_n (pc := 14) (i := 1) dX6_gone_14 rfl rfl ?_
      refine wp_iald (pc := 15) dX6_gone_15 (by first | with_reducible assumption | rfl) (by first | with_reducible assumption | rfl) (by first | with_reducible assumption | omega) (by first | decide | omega) ?_
      rw [ec]
      refine wp_bipush (pc := 16) (v := nI 35) dX6_gone_16 (by decide +kernel) ?_
      first | (refine wp_icmp_neN (pc := 18) (tgt := 30) dX6_gone_18 (by decide) (by first | with_reducible assumption | omega) (by first | with_reducible assumption | omega) (fun c_18 => ?_) (fun c_18 => ?_)) | (refine wp_icmp_ne (pc := 18) (tgt := 30) dX6_gone_18 (by decide) (fun c_18 => ?_) (fun c_18 => ?_))
      · refine wp_bipush (pc := 30) (v := (-3)) dX6_gone_30 (by decide +kernel) ?_
        refine wp_ireturn (pc := 32) dX6_gone_32 rfl ?_
        first | (have g : asc (b.1 c) = 35 := c_18; have hd : ded b.1 c = true := decide_eq_true (a1.mp g); exact am_i (by rw [if_pos hd]) hR) | (have g : ¬ asc (b.1 c) = 35 := c_18; have hd : ¬ ded b.1 c = true := fun y => g (a1.mpr (of_decide_eq_true y)); exact am_i (by rw [if_neg hd]) hR)
      · refine wp_aload_n (pc := 21) (i := 0) dX6_gone_21 rfl rfl (by first | with_reducible assumption | rfl) ?_
        refine wp_getR (pc := 22) dX6_gone_22 lf_X6_13 (by first | with_reducible assumption | rfl) (by first | with_reducible assumption | rfl) rfl (by first | with_reducible assumption | rfl) (by first | with_reducible assumption | rfl) ?_
        refine wp_iload_n (pc := 25) (i := 1) dX6_gone_25 rfl rfl ?_
        refine wp_iald (pc := 26) dX6_gone_26 (by first | with_reducible assumption | rfl) (by first | with_reducible assumption | rfl) (by first | with_reducible assumption | omega) (by first | decide | omega) ?_
        rw [eg]
        refine wp_goto (pc := 27) (tgt := 32) dX6_gone_27 (by decide) ?_
        refine wp_ireturn (pc := 32) dX6_gone_32 rfl ?_
        first | (have g : asc (b.1 c) = 35 := c_18; have hd : ded b.1 c = true := decide_eq_true (a1.mp g); exact am_i (by rw [if_pos hd]) hR) | (have g : ¬ asc (b.1 c) = 35 := c_18; have hd : ¬ ded b.1 c = true := fun y => g (a1.mpr (of_decide_eq_true y)); exact am_i (by rw [if_neg hd]) hR)
    · exact Bool.noConfusion c_5
set_option maxHeartbeats 16000000 in
theorem sp_X6_aims {x : Int32} (hR : RepM t w h last b ps f z I J) : CALL ΩM (d + 4) kX6_aims [.ref 0, .int x] I J (AM (aAims w h b x) (t, (w, h, last), b, ps, f, z)) := by
  have hwh := RepM_16 hR
  have hW := hR.2.2.1.1
  have hV := RepM_V hR
  have hB := hR.2.2.2.1.2
  cases hx : inB x (w * h)
  · have e : aAims w h b x = -1 := if_neg (by rw [hx]; exact Bool.false_ne_true)
    rw [e]
    refine call_of_wp (by decide) (Nat.le_of_ble_eq_true rfl) ?_
    refine wp_aload_n (pc := 0) (i := 0) dX6_aims_0 rfl rfl (by first | with_reducible assumption | rfl) ?_
    refine wp_iload_n (pc := 1) (i := 1) dX6_aims_1 rfl rfl ?_
    refine wp_cVP1 (pc := 2) (ci := 6) dX6_aims_2 lm_X6_94 m_X6_isCell (by first | with_reducible assumption | rfl) (by first | with_reducible assumption | rfl) (by decide) rfl (Nat.le_of_ble_eq_true rfl) (sp_X6_isCell (d := d + 2) hW) ?_
    rw [hx]
    refine wp_if_neB (pc := 5) (tgt := 10) dX6_aims_5 (by decide) (fun c_5 => ?_) (fun c_5 => ?_)
    · exact Bool.noConfusion c_5
    · refine wp_iconst (pc := 8) (v := (-1)) dX6_aims_8 (by decide +kernel) ?_
      refine wp_ireturn (pc := 9) dX6_aims_9 rfl ?_
      exact am_i rfl hR
  · obtain ⟨c, hc, rfl⟩ := inB_t (by omega) hx
    have e : aAims w h b (nI c) = nI (mset (aimP w h (b.1 c) (ful b.1) c)) := by unfold aAims; rw [if_pos hx, cI_n (by omega)]
    have ec := (hV.1 c hc).1
    rw [Nat.mul_zero, Nat.zero_add] at ec
    have hsc := hB.1 c (by omega)
    have hac := asc_lt (b.1 c)
    have hsf := sp_X6_sideOf (Ω := ΩM) (d := d + 3) (I := I) (J := J) (b := asc (b.1 c)) (by omega)
    rw [sdB_asc _ hsc] at hsf
    rw [e]
    by_cases h2 : b.1 c < 2
    · have e9 : sdI (b.1 c) = -9 := by unfold sdI; rw [if_pos h2]
      have ez : mset (aimP w h (b.1 c) (ful b.1) c) = 0 := mset_zero.mpr (fun t _ => by unfold aimP; rw [if_pos h2])
      rw [e9] at hsf
      rw [ez]
      refine call_of_wp (by decide) (Nat.le_of_ble_eq_true rfl) ?_
      refine wp_aload_n (pc := 0) (i := 0) dX6_aims_0 rfl rfl (by first | with_reducible assumption | rfl) ?_
      refine wp_iload_n (pc := 1) (i := 1) dX6_aims_1 rfl rfl ?_
      refine wp_cVP1 (pc := 2) (ci := 6) dX6_aims_2 lm_X6_94 m_X6_isCell (by first | with_reducible assumption | rfl) (by first | with_reducible assumption | rfl) (by decide) rfl (Nat.le_of_ble_eq_true rfl) (sp_X6_isCell (d := d + 2) hW) ?_
      rw [hx]
      refine wp_if_neB (pc := 5) (tgt := 10) dX6_aims_5 (by decide) (fun c_5 => ?_) (fun c_5 => ?_)
      · refine wp_aload_n (pc := 10) (i := 0) dX6_aims_10 rfl rfl (by first | with_reducible assumption | rfl) ?_
        refine wp_getR (pc := 11) dX6_aims_11 lf_X6_7 (by first | with_reducible assumption | rfl) (by first | with_reducible assumption | rfl) rfl (by first | with_reducible assumption | rfl) (by first | with_reducible assumption | rfl) ?_
        refine wp_iload_n (pc := 14) (i := 1) dX6_aims_14 rfl rfl ?_
        refine wp_iald (pc := 15) dX6_aims_15 (by first | with_reducible assumption | rfl) (by first | with_reducible assumption | rfl) (by first | with_reducible assumption | omega) (by first | decide | omega) ?_
        rw [ec]
        refine wp_cSP1 (pc := 16) dX6_aims_16 lm_X6_65 m_X6_sideOf (Nat.le_of_ble_eq_true rfl) hsf ?_
        refine wp_bipush (pc := 19) (v := (-9)) dX6_aims_19 (by decide +kernel) ?_
        refine wp_icmp_ne (pc := 21) (tgt := 28) dX6_aims_21 (by decide) (fun c_21 => ?_) (fun c_21 => ?_)
        · exact absurd rfl c_21
        · refine wp_iconst (pc := 24) (v := nI 0) dX6_aims_24 (by decide +kernel) ?_
          refine wp_goto (pc := 25) (tgt := 41) dX6_aims_25 (by decide) ?_
          refine wp_ireturn (pc := 41) dX6_aims_41 rfl ?_
          exact am_i rfl hR
      · exact Bool.noConfusion c_5
    · have e9 : sdI (b.1 c) = nI (sd (b.1 c)) := sd_i _ hsc (by omega)
      have hne : ¬ nI (sd (b.1 c)) = -9 := nine_ne (sd_lt _)
      have hai := sp_X6_aimsOf (d := d) (J := J) (nb := false) hW hV hB.1 (by decide) hc (by omega) hsc
      rw [nfr_f] at hai
      rw [e9] at hsf
      refine call_of_wp (by decide) (Nat.le_of_ble_eq_true rfl) ?_
      refine wp_aload_n (pc := 0) (i := 0) dX6_aims_0 rfl rfl (by first | with_reducible assumption | rfl) ?_
      refine wp_iload_n (pc := 1) (i := 1) dX6_aims_1 rfl rfl ?_
      refine wp_cVP1 (pc := 2) (ci := 6) dX6_aims_2 lm_X6_94 m_X6_isCell (by first | with_reducible assumption | rfl) (by first | with_reducible assumption | rfl) (by decide) rfl (Nat.le_of_ble_eq_true rfl) (sp_X6_isCell (d := d + 2) hW) ?_
      rw [hx]
      refine wp_if_neB (pc := 5) (tgt := 10) dX6_aims_5 (by decide) (fun c_5 => ?_) (fun c_5 => ?_)
      · refine wp_aload_n (pc := 10) (i := 0) dX6_aims_10 rfl rfl (by first | with_reducible assumption | rfl) ?_
        refine wp_getR (pc := 11) dX6_aims_11 lf_X6_7 (by first | with_reducible assumption | rfl) (by first | with_reducible assumption | rfl) rfl (by first | with_reducible assumption | rfl) (by first | with_reducible assumption | rfl) ?_
        refine wp_iload_n (pc := 14) (i := 1) dX6_aims_14 rfl rfl ?_
        refine wp_iald (pc := 15) dX6_aims_15 (by first | with_reducible assumption | rfl) (by first | with_reducible assumption | rfl) (by first | with_reducible assumption | omega) (by first | decide | omega) ?_
        rw [ec]
        refine wp_cSP1 (pc := 16) dX6_aims_16 lm_X6_65 m_X6_sideOf (Nat.le_of_ble_eq_true rfl) hsf ?_
        refine wp_bipush (pc := 19) (v := (-9)) dX6_aims_19 (by decide +kernel) ?_
        refine wp_icmp_ne (pc := 21) (tgt := 28) dX6_aims_21 (by decide) (fun c_21 => ?_) (fun c_21 => ?_)
        · refine wp_aload_n (pc := 28) (i := 0) dX6_aims_28 rfl rfl (by first | with_reducible assumption | rfl) ?_
          refine wp_iconst (pc := 29) (v := nI 0) dX6_aims_29 (by decide +kernel) ?_
          refine wp_aload_n (pc := 30) (i := 0) dX6_aims_30 rfl rfl (by first | with_reducible assumption | rfl) ?_
          refine wp_getR (pc := 31) dX6_aims_31 lf_X6_7 (by first | with_reducible assumption | rfl) (by first | with_reducible assumption | rfl) rfl (by first | with_reducible assumption | rfl) (by first | with_reducible assumption | rfl) ?_
          refine wp_iload_n (pc := 34) (i := 1) dX6_aims_34 rfl rfl ?_
          refine wp_iald (pc := 35) dX6_aims_35 (by first | with_reducible assumption | rfl) (by first | with_reducible assumption | rfl) (by first | with_reducible assumption | omega) (by first | decide | omega) ?_
          rw [ec]
          refine wp_iload_n (pc := 36) (i := 1) dX6_aims_36 rfl rfl ?_
          refine wp_iconst (pc := 37) (v := bI false) dX6_aims_37 (by decide +kernel) ?_
          refine wp_cVP4 (pc := 38) (ci := 6) dX6_aims_38 lm_X6_115 m_X6_aimsOf (by first | with_reducible assumption | rfl) (by first | with_reducible assumption | rfl) (by decide) rfl (Nat.le_of_ble_eq_true rfl) hai ?_
          refine wp_ireturn (pc := 41) dX6_aims_41 rfl ?_
          exact am_i rfl hR
        · exact absurd c_21 hne
      · exact Bool.noConfusion c_5
set_option maxHeartbeats 16000000 in
theorem sp_X6_can {x : Int32} (hR : RepM t w h last b ps f z I J) : CALL ΩM (d + 6) kX6_can [.ref 0, .int x] I J (AM (aCan w h b x) (t, (w, h, last), b, ps, f, z)) := by
  have hwh := RepM_16 hR
  have hW := hR.2.2.1.1
  have hV := RepM_V hR
  have hB := hR.2.2.2.1.2
  cases hx : inB x (w * h)
  · have e : aCan w h b x = -1 := if_neg (by rw [hx]; exact Bool.false_ne_true)
    rw [e]
    refine call_of_wp (by decide) (Nat.le_of_ble_eq_true rfl) ?_
    refine wp_aload_n (pc := 0) (i := 0) dX6_can_0 rfl rfl (by first | with_reducible assumption | rfl) ?_
    refine wp_iload_n (pc := 1) (i := 1) dX6_can_1 rfl rfl ?_
    refine wp_cVP1 (pc := 2) (ci := 6) dX6_can_2 lm_X6_94 m_X6_isCell (by first | with_reducible assumption | rfl) (by first | with_reducible assumption | rfl) (by decide) rfl (Nat.le_of_ble_eq_true rfl) (sp_X6_isCell (d := d + 4) hW) ?_
    rw [hx]
    refine wp_if_eqB (pc := 5) (tgt := 17) dX6_can_5 (by decide) (fun c_5 => ?_) (fun c_5 => ?_)
    · refine wp_iconst (pc := 17) (v := (-1)) dX6_can_17 (by decide +kernel) ?_
      refine wp_ireturn (pc := 18) dX6_can_18 rfl ?_
      exact am_i rfl hR
    · exact Bool.noConfusion c_5
  · obtain ⟨c, hc, rfl⟩ := inB_t (by omega) hx
    have e : aCan w h b (nI c) = nI (mset (reaP w h b.1 c)) := by unfold aCan; rw [if_pos hx, cI_n (by omega)]
    rw [e]
    refine call_of_wp (by decide) (Nat.le_of_ble_eq_true rfl) ?_
    refine wp_aload_n (pc := 0) (i := 0) dX6_can_0 rfl rfl (by first | with_reducible assumption | rfl) ?_
    refine wp_iload_n (pc := 1) (i := 1) dX6_can_1 rfl rfl ?_
    refine wp_cVP1 (pc := 2) (ci := 6) dX6_can_2 lm_X6_94 m_X6_isCell (by first | with_reducible assumption | rfl) (by first | with_reducible assumption | rfl) (by decide) rfl (Nat.le_of_ble_eq_true rfl) (sp_X6_isCell (d := d + 4) hW) ?_
    rw [hx]
    refine wp_if_eqB (pc := 5) (tgt := 17) dX6_can_5 (by decide) (fun c_5 => ?_) (fun c_5 => ?_)
    · exact Bool.noConfusion c_5
    · refine wp_aload_n (pc := 8) (i := 0) dX6_can_8 rfl rfl (by first | with_reducible assumption | rfl) ?_
      refine wp_iconst (pc := 9) (v := nI 0) dX6_can_9 (by decide +kernel) ?_
      refine wp_iload_n (pc := 10) (i := 1) dX6_can_10 rfl rfl ?_
      refine wp_cVP2 (pc := 11) (ci := 6) dX6_can_11 lm_X6_122 m_X6_canOf (by first | with_reducible assumption | rfl) (by first | with_reducible assumption | rfl) (by decide) rfl (Nat.le_of_ble_eq_true rfl) (sp_X6_canOf (d := d) hW hV hB.1 (by decide) hc) ?_
      refine wp_goto (pc := 14) (tgt := 18) dX6_can_14 (by decide) ?_
      refine wp_ireturn (pc := 18) dX6_can_18 rfl ?_
      exact am_i rfl hR
set_option maxHeartbeats 16000000 in
theorem sp_X6_plies (hR : RepM t w h last b ps f z I J) : CALL ΩM (d + 7) kX6_plies [.ref 0] I J (AM (nI (PLY w h b).length) (t, (w, h, last), b, ps, f, z)) := by
  have hli := sp_X6_list (d := d) (J := J) hR.2.2.1.1 hR.2.2.2.1.1 hR.2.2.2.1.2 (k := 0) (by decide)
  refine call_of_wp (by decide) (Nat.le_of_ble_eq_true rfl) ?_
  refine wp_aload_n (pc := 0) (i := 0) dX6_plies_0 rfl rfl (by first | with_reducible assumption | rfl) ?_
  refine wp_iconst (pc := 1) (v := nI 0) dX6_plies_1 (by decide +kernel) ?_
  refine wp_cVI1 (pc := 2) (ci := 6) dX6_plies_2 lm_X6_130 m_X6_list (by first | with_reducible assumption | rfl) (by first | with_reducible assumption | rfl) (by decide) rfl (Nat.le_of_ble_eq_true rfl) hli (fun x_2 I_2 J_2 h_2 => ?_)
  obtain ⟨rfl, g1, g2, rfl⟩ := h_2
  refine wp_ireturn (pc := 5) dX6_plies_5 rfl ?_
  exact am_i rfl (RepM_fr hR (LsT_fr g1))
set_option maxHeartbeats 16000000 in
theorem sp_X6_seed {v : Int64} (hR : RepM t w h last b ps f z I J) : CALL ΩM d kX6_seed [.ref 0, .long v] I J (AML z (t, (w, h, last), b, ps, f, v)) := by
  obtain ⟨h1, h2, h3, h5, h7, h9, h11⟩ := hR
  refine call_of_wp (by decide) (Nat.le_of_ble_eq_true rfl) ?_
  refine wp_aload_n (pc := 0) (i := 0) dX6_seed_0 rfl rfl (by first | with_reducible assumption | rfl) ?_
  refine wp_getJ (pc := 1) dX6_seed_1 lf_X6_195 (by first | with_reducible assumption | rfl) (by first | with_reducible assumption | rfl) rfl ?_
  rw [h11]
  refine wp_lstore_n (pc := 4) (i := 3) dX6_seed_4 rfl (by decide) ?_
  refine wp_aload_n (pc := 5) (i := 0) dX6_seed_5 rfl rfl (by first | with_reducible assumption | rfl) ?_
  refine wp_lload_n (pc := 6) (i := 1) dX6_seed_6 rfl rfl ?_
  refine wp_putJ (pc := 7) dX6_seed_7 lf_X6_195 (by first | with_reducible assumption | rfl) (by first | with_reducible assumption | rfl) rfl rfl ?_
  refine wp_lload_n (pc := 10) (i := 3) dX6_seed_10 rfl rfl ?_
  refine wp_lreturn (pc := 11) dX6_seed_11 rfl ?_
  exact ⟨rfl, h1, h2, h3, h5, h7, h9, by simp [uJ]⟩
set_option maxHeartbeats 16000000 in
theorem sp_X6_men {k : Nat} {c : Bd} (hW : WH w h I) (hL : LV (w * h) k c I) (hB : Bok (w * h) c) (hk : k < 4) : CALL ΩM (d + 1) kX6_men [.ref 0, .int (nI k)] I J (PQ (.int (nI (cnt (fun i => wht c.1 i || blk c.1 i)))) I J) := by
  have n16 := (WH_n hW).2
  have e0 := hW.2.1
  have e1 := hW.2.2
  have eC : fb_ct (fun i => wht c.1 i || blk c.1 i) (w * h) = cnt (fun i => wht c.1 i || blk c.1 i) := by
    have h1 := fb_ct_split (fun i => wht c.1 i || blk c.1 i) (w * h) (16 - w * h)
    have h2 : fb_ct (fun j => wht c.1 (w * h + j) || blk c.1 (w * h + j)) (16 - w * h) = 0 := fb_ct_zero.mpr (fun j _ => by
      have h3 := hB.2.2.2.2.2 (w * h + j) (by omega)
      show (wht c.1 (w * h + j) || blk c.1 (w * h + j)) = false
      unfold wht blk
      rw [h3]; rfl)
    rw [h2, show w * h + (16 - w * h) = 16 by omega] at h1
    exact h1.symm
  have loop : ∀ m j, m + j = w * h → WP ΩM (d + 1) kX6_men 4 [(0, .ref 0), (1, .int (nI k)), (2, .int (nI (fb_ct (fun i => wht c.1 i || blk c.1 i) j))), (3, .int (nI j))] [] I J (PQ (.int (nI (cnt (fun i => wht c.1 i || blk c.1 i)))) I J) := by
    intro m
    induction m with
    | zero =>
      intro j hj
      have hj' : j = w * h := (Nat.zero_add j).symm.trans hj
      rw [hj', eC]
      refine wp_iload_n (pc := 4) (i := 3) dX6_men_4 rfl rfl ?_
      refine wp_aload_n (pc := 5) (i := 0) dX6_men_5 rfl rfl (by first | with_reducible assumption | rfl) ?_
      refine wp_getI (pc := 6) dX6_men_6 lf_X6_47 (by first | with_reducible assumption | rfl) (by first | with_reducible assumption | rfl) rfl ?_
      rw [e0]
      refine wp_aload_n (pc := 9) (i := 0) dX6_men_9 rfl rfl (by first | with_reducible assumption | rfl) ?_
      refine wp_getI (pc := 10) dX6_men_10 lf_X6_51 (by first | with_reducible assumption | rfl) (by first | with_reducible assumption | rfl) rfl ?_
      rw [e1]
      first | (refine wp_imulN (pc := 13) dX6_men_13 ?_) | (refine wp_imul (pc := 13) dX6_men_13 ?_)
      first | (refine wp_icmp_geN (pc := 14) (tgt := 50) dX6_men_14 (by decide) (by first | with_reducible assumption | omega) (by first | with_reducible assumption | omega) (fun c_14 => ?_) (fun c_14 => ?_)) | (refine wp_icmp_ge (pc := 14) (tgt := 50) dX6_men_14 (by decide) (fun c_14 => ?_) (fun c_14 => ?_))
      · refine wp_iload_n (pc := 50) (i := 2) dX6_men_50 rfl rfl ?_
        refine wp_ireturn (pc := 51) dX6_men_51 rfl ?_
        exact pq_i rfl
      · exact absurd (Nat.le_refl _) c_14
    | succ m ih =>
      intro j hj
      have hjn : j < w * h := by omega
      have ec := (hL.1 j hjn).1
      have hsc := hB.1 j (by omega)
      have hac := asc_lt (c.1 j)
      have hsf := sp_X6_sideOf (Ω := ΩM) (d := d) (I := I) (J := J) (b := asc (c.1 j)) (by omega)
      rw [sdB_asc _ hsc] at hsf
      have h0 := ih (j + 1) (by omega)
      clear ih
      by_cases h2 : c.1 j < 2
      · have e9 : sdI (c.1 j) = -9 := by unfold sdI; rw [if_pos h2]
        have ev : (fun i => wht c.1 i || blk c.1 i) j = false := by
          show (wht c.1 j || blk c.1 j) = false
          unfold wht blk
          rw [decide_eq_false (by omega), decide_eq_false (by omega)]; rfl
        rw [ct_s _ _ _ ev] at h0
        rw [e9] at hsf
        refine wp_iload_n (pc := 4) (i := 3) dX6_men_4 rfl rfl ?_
        refine wp_aload_n (pc := 5) (i := 0) dX6_men_5 rfl rfl (by first | with_reducible assumption | rfl) ?_
        refine wp_getI (pc := 6) dX6_men_6 lf_X6_47 (by first | with_reducible assumption | rfl) (by first | with_reducible assumption | rfl) rfl ?_
        rw [e0]
        refine wp_aload_n (pc := 9) (i := 0) dX6_men_9 rfl rfl (by first | with_reducible assumption | rfl) ?_
        refine wp_getI (pc := 10) dX6_men_10 lf_X6_51 (by first | with_reducible assumption | rfl) (by first | with_reducible assumption | rfl) rfl ?_
        rw [e1]
        first | (refine wp_imulN (pc := 13) dX6_men_13 ?_) | (refine wp_imul (pc := 13) dX6_men_13 ?_)
        first | (refine wp_icmp_geN (pc := 14) (tgt := 50) dX6_men_14 (by decide) (by first | with_reducible assumption | omega) (by first | with_reducible assumption | omega) (fun c_14 => ?_) (fun c_14 => ?_)) | (refine wp_icmp_ge (pc := 14) (tgt := 50) dX6_men_14 (by decide) (fun c_14 => ?_) (fun c_14 => ?_))
        · exact absurd c_14 (by omega)
        · refine wp_iload_n (pc := 17) (i := 2) dX6_men_17 rfl rfl ?_
          refine wp_aload_n (pc := 18) (i := 0) dX6_men_18 rfl rfl (by first | with_reducible assumption | rfl) ?_
          refine wp_getR (pc := 19) dX6_men_19 lf_X6_7 (by first | with_reducible assumption | rfl) (by first | with_reducible assumption | rfl) rfl (by first | with_reducible assumption | rfl) (by first | with_reducible assumption | rfl) ?_
          refine wp_bipush (pc := 22) (v := nI 16) dX6_men_22 (by decide +kernel) ?_
          refine wp_iload_n (pc := 24) (i := 1) dX6_men_24 rfl rfl ?_
          first | (refine wp_imulN (pc := 25) dX6_men_25 ?_) | (refine wp_imul (pc := 25) dX6_men_25 ?_)
          refine wp_iload_n (pc := 26) (i := 3) dX6_men_26 rfl rfl ?_
          first | (refine wp_iaddN (pc := 27) dX6_men_27 ?_) | (refine wp_iadd (pc := 27) dX6_men_27 ?_)
          refine wp_iald (pc := 28) dX6_men_28 (by first | with_reducible assumption | rfl) (by first | with_reducible assumption | rfl) (by first | with_reducible assumption | omega) (by first | decide | omega) ?_
          rw [ec]
          refine wp_cSP1 (pc := 29) dX6_men_29 lm_X6_65 m_X6_sideOf (Nat.le_of_ble_eq_true rfl) hsf ?_
          refine wp_bipush (pc := 32) (v := (-9)) dX6_men_32 (by decide +kernel) ?_
          refine wp_icmp_eq (pc := 34) (tgt := 41) dX6_men_34 (by decide) (fun c_34 => ?_) (fun c_34 => ?_)
          · refine wp_iconst (pc := 41) (v := nI 0) dX6_men_41 (by decide +kernel) ?_
            first | (refine wp_iaddN (pc := 42) dX6_men_42 ?_) | (refine wp_iadd (pc := 42) dX6_men_42 ?_)
            refine wp_istore_n (pc := 43) (i := 2) dX6_men_43 rfl (by decide) ?_
            first | (refine wp_iincN (pc := 44) (m := 1) dX6_men_44 rfl rfl (by decide) ?_) | (refine wp_iinc (pc := 44) dX6_men_44 rfl rfl (by decide) ?_)
            refine wp_goto (pc := 47) (tgt := 4) dX6_men_47 (by decide) ?_
            exact h0
          · exact absurd rfl c_34
      · have e9 : sdI (c.1 j) = nI (sd (c.1 j)) := sd_i _ hsc (by omega)
        have hne : ¬ nI (sd (c.1 j)) = -9 := nine_ne (sd_lt _)
        have ev : (fun i => wht c.1 i || blk c.1 i) j = true := by
          show (wht c.1 j || blk c.1 j) = true
          unfold wht blk
          rw [← Bool.decide_or]
          exact decide_eq_true (by omega)
        rw [ct_s _ _ _ ev] at h0
        rw [e9] at hsf
        refine wp_iload_n (pc := 4) (i := 3) dX6_men_4 rfl rfl ?_
        refine wp_aload_n (pc := 5) (i := 0) dX6_men_5 rfl rfl (by first | with_reducible assumption | rfl) ?_
        refine wp_getI (pc := 6) dX6_men_6 lf_X6_47 (by first | with_reducible assumption | rfl) (by first | with_reducible assumption | rfl) rfl ?_
        rw [e0]
        refine wp_aload_n (pc := 9) (i := 0) dX6_men_9 rfl rfl (by first | with_reducible assumption | rfl) ?_
        refine wp_getI (pc := 10) dX6_men_10 lf_X6_51 (by first | with_reducible assumption | rfl) (by first | with_reducible assumption | rfl) rfl ?_
        rw [e1]
        first | (refine wp_imulN (pc := 13) dX6_men_13 ?_) | (refine wp_imul (pc := 13) dX6_men_13 ?_)
        first | (refine wp_icmp_geN (pc := 14) (tgt := 50) dX6_men_14 (by decide) (by first | with_reducible assumption | omega) (by first | with_reducible assumption | omega) (fun c_14 => ?_) (fun c_14 => ?_)) | (refine wp_icmp_ge (pc := 14) (tgt := 50) dX6_men_14 (by decide) (fun c_14 => ?_) (fun c_14 => ?_))
        · exact absurd c_14 (by omega)
        · refine wp_iload_n (pc := 17) (i := 2) dX6_men_17 rfl rfl ?_
          refine wp_aload_n (pc := 18) (i := 0) dX6_men_18 rfl rfl (by first | with_reducible assumption | rfl) ?_
          refine wp_getR (pc := 19) dX6_men_19 lf_X6_7 (by first | with_reducible assumption | rfl) (by first | with_reducible assumption | rfl) rfl (by first | with_reducible assumption | rfl) (by first | with_reducible assumption | rfl) ?_
          refine wp_bipush (pc := 22) (v := nI 16) dX6_men_22 (by decide +kernel) ?_
          refine wp_iload_n (pc := 24) (i := 1) dX6_men_24 rfl rfl ?_
          first | (refine wp_imulN (pc := 25) dX6_men_25 ?_) | (refine wp_imul (pc := 25) dX6_men_25 ?_)
          refine wp_iload_n (pc := 26) (i := 3) dX6_men_26 rfl rfl ?_
          first | (refine wp_iaddN (pc := 27) dX6_men_27 ?_) | (refine wp_iadd (pc := 27) dX6_men_27 ?_)
          refine wp_iald (pc := 28) dX6_men_28 (by first | with_reducible assumption | rfl) (by first | with_reducible assumption | rfl) (by first | with_reducible assumption | omega) (by first | decide | omega) ?_
          rw [ec]
          refine wp_cSP1 (pc := 29) dX6_men_29 lm_X6_65 m_X6_sideOf (Nat.le_of_ble_eq_true rfl) hsf ?_
          refine wp_bipush (pc := 32) (v := (-9)) dX6_men_32 (by decide +kernel) ?_
          refine wp_icmp_eq (pc := 34) (tgt := 41) dX6_men_34 (by decide) (fun c_34 => ?_) (fun c_34 => ?_)
          · exact absurd c_34 hne
          · refine wp_iconst (pc := 37) (v := nI 1) dX6_men_37 (by decide +kernel) ?_
            refine wp_goto (pc := 38) (tgt := 42) dX6_men_38 (by decide) ?_
            first | (refine wp_iaddN (pc := 42) dX6_men_42 ?_) | (refine wp_iadd (pc := 42) dX6_men_42 ?_)
            refine wp_istore_n (pc := 43) (i := 2) dX6_men_43 rfl (by decide) ?_
            first | (refine wp_iincN (pc := 44) (m := 1) dX6_men_44 rfl rfl (by decide) ?_) | (refine wp_iinc (pc := 44) dX6_men_44 rfl rfl (by decide) ?_)
            refine wp_goto (pc := 47) (tgt := 4) dX6_men_47 (by decide) ?_
            exact h0
  have h00 := loop (w * h) 0 rfl
  refine call_of_wp (by decide) (Nat.le_of_ble_eq_true rfl) ?_
  refine wp_iconst (pc := 0) (v := nI 0) dX6_men_0 (by decide +kernel) ?_
  refine wp_istore_n (pc := 1) (i := 2) dX6_men_1 rfl (by decide) ?_
  refine wp_iconst (pc := 2) (v := nI 0) dX6_men_2 (by decide +kernel) ?_
  refine wp_istore_n (pc := 3) (i := 3) dX6_men_3 rfl (by decide) ?_
  exact h00
theorem cut_all {P : Nat → Bool} {n : Nat} (h : ∀ t, P t = true → t < n) : mset (fun t => decide (t < n) && P t) = mset P := mset_eq fun t _ => by
  cases hp : P t
  · rw [Bool.and_false]
  · rw [decide_eq_true (h t hp)]; rfl
theorem men_cut {n s : Nat} {c : Bd} (hB : Bok n c) : ∀ t, menP c.1 s t = true → t < n := fun t ht => by
  rcases Nat.lt_or_ge t n with k | k
  · exact k
  · have := menP_2 ht
    have := hB.2.2.2.2.2 t k
    omega
set_option maxHeartbeats 16000000 in
theorem sp_X6_setOf {s : Nat} (hR : RepM t w h last b ps f z I J) (hs : s < 2) : CALL ΩM (d + 1) kX6_setOf [.ref 0, .int (nI s)] I J (PQ (.int (nI (mset (menP b.1 s)))) I J) := by
  have hW := hR.2.2.1.1
  have hV := RepM_V hR
  have hB := hR.2.2.2.1.2
  have n16 := (WH_n hW).2
  have e0 := hW.2.1
  have e1 := hW.2.2
  rw [← cut_all (men_cut (s := s) hB)]
  have loop : ∀ m j, m + j = w * h → WP ΩM (d + 1) kX6_setOf 4 [(0, .ref 0), (1, .int (nI s)), (2, .int (nI (mset (fun i => decide (i < j) && menP b.1 s i)))), (3, .int (nI j))] [] I J (PQ (.int (nI (mset (fun i => decide (i < w * h) && menP b.1 s i)))) I J) := by
    intro m
    induction m with
    | zero =>
      intro j hj
      have hj' : j = w * h := (Nat.zero_add j).symm.trans hj
      rw [hj']
      refine wp_iload_n (pc := 4) (i := 3) dX6_setOf_4 rfl rfl ?_
      refine wp_aload_n (pc := 5) (i := 0) dX6_setOf_5 rfl rfl (by first | with_reducible assumption | rfl) ?_
      refine wp_getI (pc := 6) dX6_setOf_6 lf_X6_47 (by first | with_reducible assumption | rfl) (by first | with_reducible assumption | rfl) rfl ?_
      rw [e0]
      refine wp_aload_n (pc := 9) (i := 0) dX6_setOf_9 rfl rfl (by first | with_reducible assumption | rfl) ?_
      refine wp_getI (pc := 10) dX6_setOf_10 lf_X6_51 (by first | with_reducible assumption | rfl) (by first | with_reducible assumption | rfl) rfl ?_
      rw [e1]
      first | (refine wp_imulN (pc := 13) dX6_setOf_13 ?_) | (refine wp_imul (pc := 13) dX6_setOf_13 ?_)
      first | (refine wp_icmp_geN (pc := 14) (tgt := 46) dX6_setOf_14 (by decide) (by first | with_reducible assumption | omega) (by first | with_reducible assumption | omega) (fun c_14 => ?_) (fun c_14 => ?_)) | (refine wp_icmp_ge (pc := 14) (tgt := 46) dX6_setOf_14 (by decide) (fun c_14 => ?_) (fun c_14 => ?_))
      · refine wp_iload_n (pc := 46) (i := 2) dX6_setOf_46 rfl rfl ?_
        refine wp_ireturn (pc := 47) dX6_setOf_47 rfl ?_
        exact pq_i rfl
      · exact absurd (Nat.le_refl _) c_14
    | succ m ih =>
      intro j hj
      have hjn : j < w * h := by omega
      have ec := (hV.1 j hjn).1
      rw [Nat.mul_zero, Nat.zero_add] at ec
      have hsc := hB.1 j (by omega)
      have hac := asc_lt (b.1 j)
      have hsf := sp_X6_sideOf (Ω := ΩM) (d := d) (I := I) (J := J) (b := asc (b.1 j)) (by omega)
      rw [sdB_asc _ hsc] at hsf
      have hms := menP_sd (g := b.1) (s := s) (t := j) hs hsc
      have h0 := ih (j + 1) (by omega)
      have hcut := set_cut (P := fun _ => false) (R := menP b.1 s) (k := j) (by omega) _ rfl rfl
      clear ih
      cases hv : menP b.1 s j
      · rw [hv] at hcut hms
        have hne : ¬ sdI (b.1 j) = nI s := fun y => Bool.false_ne_true (hms.mp y)
        rw [← hcut] at h0
        refine wp_iload_n (pc := 4) (i := 3) dX6_setOf_4 rfl rfl ?_
        refine wp_aload_n (pc := 5) (i := 0) dX6_setOf_5 rfl rfl (by first | with_reducible assumption | rfl) ?_
        refine wp_getI (pc := 6) dX6_setOf_6 lf_X6_47 (by first | with_reducible assumption | rfl) (by first | with_reducible assumption | rfl) rfl ?_
        rw [e0]
        refine wp_aload_n (pc := 9) (i := 0) dX6_setOf_9 rfl rfl (by first | with_reducible assumption | rfl) ?_
        refine wp_getI (pc := 10) dX6_setOf_10 lf_X6_51 (by first | with_reducible assumption | rfl) (by first | with_reducible assumption | rfl) rfl ?_
        rw [e1]
        first | (refine wp_imulN (pc := 13) dX6_setOf_13 ?_) | (refine wp_imul (pc := 13) dX6_setOf_13 ?_)
        first | (refine wp_icmp_geN (pc := 14) (tgt := 46) dX6_setOf_14 (by decide) (by first | with_reducible assumption | omega) (by first | with_reducible assumption | omega) (fun c_14 => ?_) (fun c_14 => ?_)) | (refine wp_icmp_ge (pc := 14) (tgt := 46) dX6_setOf_14 (by decide) (fun c_14 => ?_) (fun c_14 => ?_))
        · exact absurd c_14 (by omega)
        · refine wp_iload_n (pc := 17) (i := 2) dX6_setOf_17 rfl rfl ?_
          refine wp_aload_n (pc := 18) (i := 0) dX6_setOf_18 rfl rfl (by first | with_reducible assumption | rfl) ?_
          refine wp_getR (pc := 19) dX6_setOf_19 lf_X6_7 (by first | with_reducible assumption | rfl) (by first | with_reducible assumption | rfl) rfl (by first | with_reducible assumption | rfl) (by first | with_reducible assumption | rfl) ?_
          refine wp_iload_n (pc := 22) (i := 3) dX6_setOf_22 rfl rfl ?_
          refine wp_iald (pc := 23) dX6_setOf_23 (by first | with_reducible assumption | rfl) (by first | with_reducible assumption | rfl) (by first | with_reducible assumption | omega) (by first | decide | omega) ?_
          rw [ec]
          refine wp_cSP1 (pc := 24) dX6_setOf_24 lm_X6_65 m_X6_sideOf (Nat.le_of_ble_eq_true rfl) hsf ?_
          refine wp_iload_n (pc := 27) (i := 1) dX6_setOf_27 rfl rfl ?_
          refine wp_icmp_ne (pc := 28) (tgt := 37) dX6_setOf_28 (by decide) (fun c_28 => ?_) (fun c_28 => ?_)
          · refine wp_iconst (pc := 37) (v := nI 0) dX6_setOf_37 (by decide +kernel) ?_
            refine wp_ior (pc := 38) dX6_setOf_38 ?_
            rw [show ∀ x : Int32, x ||| nI 0 = x from fun x => by rw [show nI 0 = (0 : Int32) from rfl, Int32.or_zero]]
            refine wp_istore_n (pc := 39) (i := 2) dX6_setOf_39 rfl (by decide) ?_
            first | (refine wp_iincN (pc := 40) (m := 1) dX6_setOf_40 rfl rfl (by decide) ?_) | (refine wp_iinc (pc := 40) dX6_setOf_40 rfl rfl (by decide) ?_)
            refine wp_goto (pc := 43) (tgt := 4) dX6_setOf_43 (by decide) ?_
            exact h0
          · exact absurd c_28 hne
      · rw [hv] at hcut hms
        have hy : sdI (b.1 j) = nI s := hms.mpr rfl
        rw [← hcut] at h0
        refine wp_iload_n (pc := 4) (i := 3) dX6_setOf_4 rfl rfl ?_
        refine wp_aload_n (pc := 5) (i := 0) dX6_setOf_5 rfl rfl (by first | with_reducible assumption | rfl) ?_
        refine wp_getI (pc := 6) dX6_setOf_6 lf_X6_47 (by first | with_reducible assumption | rfl) (by first | with_reducible assumption | rfl) rfl ?_
        rw [e0]
        refine wp_aload_n (pc := 9) (i := 0) dX6_setOf_9 rfl rfl (by first | with_reducible assumption | rfl) ?_
        refine wp_getI (pc := 10) dX6_setOf_10 lf_X6_51 (by first | with_reducible assumption | rfl) (by first | with_reducible assumption | rfl) rfl ?_
        rw [e1]
        first | (refine wp_imulN (pc := 13) dX6_setOf_13 ?_) | (refine wp_imul (pc := 13) dX6_setOf_13 ?_)
        first | (refine wp_icmp_geN (pc := 14) (tgt := 46) dX6_setOf_14 (by decide) (by first | with_reducible assumption | omega) (by first | with_reducible assumption | omega) (fun c_14 => ?_) (fun c_14 => ?_)) | (refine wp_icmp_ge (pc := 14) (tgt := 46) dX6_setOf_14 (by decide) (fun c_14 => ?_) (fun c_14 => ?_))
        · exact absurd c_14 (by omega)
        · refine wp_iload_n (pc := 17) (i := 2) dX6_setOf_17 rfl rfl ?_
          refine wp_aload_n (pc := 18) (i := 0) dX6_setOf_18 rfl rfl (by first | with_reducible assumption | rfl) ?_
          refine wp_getR (pc := 19) dX6_setOf_19 lf_X6_7 (by first | with_reducible assumption | rfl) (by first | with_reducible assumption | rfl) rfl (by first | with_reducible assumption | rfl) (by first | with_reducible assumption | rfl) ?_
          refine wp_iload_n (pc := 22) (i := 3) dX6_setOf_22 rfl rfl ?_
          refine wp_iald (pc := 23) dX6_setOf_23 (by first | with_reducible assumption | rfl) (by first | with_reducible assumption | rfl) (by first | with_reducible assumption | omega) (by first | decide | omega) ?_
          rw [ec]
          refine wp_cSP1 (pc := 24) dX6_setOf_24 lm_X6_65 m_X6_sideOf (Nat.le_of_ble_eq_true rfl) hsf ?_
          refine wp_iload_n (pc := 27) (i := 1) dX6_setOf_27 rfl rfl ?_
          refine wp_icmp_ne (pc := 28) (tgt := 37) dX6_setOf_28 (by decide) (fun c_28 => ?_) (fun c_28 => ?_)
          · exact absurd hy c_28
          · refine wp_iconst (pc := 31) (v := nI 1) dX6_setOf_31 (by decide +kernel) ?_
            refine wp_iload_n (pc := 32) (i := 3) dX6_setOf_32 rfl rfl ?_
            first | (refine wp_ishl1 (pc := 33) dX6_setOf_33 (by first | with_reducible assumption | omega) ?_) | (refine wp_ishlN (pc := 33) dX6_setOf_33 (by first | with_reducible assumption | omega) (by first | with_reducible assumption | omega) ?_) | (refine wp_ishl (pc := 33) dX6_setOf_33 ?_)
            refine wp_goto (pc := 34) (tgt := 38) dX6_setOf_34 (by decide) ?_
            first | (refine wp_iorN (pc := 38) dX6_setOf_38 ?_) | (refine wp_ior (pc := 38) dX6_setOf_38 ?_)
            refine wp_istore_n (pc := 39) (i := 2) dX6_setOf_39 rfl (by decide) ?_
            first | (refine wp_iincN (pc := 40) (m := 1) dX6_setOf_40 rfl rfl (by decide) ?_) | (refine wp_iinc (pc := 40) dX6_setOf_40 rfl rfl (by decide) ?_)
            refine wp_goto (pc := 43) (tgt := 4) dX6_setOf_43 (by decide) ?_
            exact h0
  have h00 := loop (w * h) 0 rfl
  rw [show mset (fun i => decide (i < 0) && menP b.1 s i) = 0 from mset_zero.mpr (fun i _ => by simp)] at h00
  refine call_of_wp (by decide) (Nat.le_of_ble_eq_true rfl) ?_
  refine wp_iconst (pc := 0) (v := nI 0) dX6_setOf_0 (by decide +kernel) ?_
  refine wp_istore_n (pc := 1) (i := 2) dX6_setOf_1 rfl (by decide) ?_
  refine wp_iconst (pc := 2) (v := nI 0) dX6_setOf_2 (by decide +kernel) ?_
  refine wp_istore_n (pc := 3) (i := 3) dX6_setOf_3 rfl (by decide) ?_
  exact h00
set_option maxHeartbeats 16000000 in
theorem sp_X6_count {x : Int32} (hR : RepM t w h last b ps f z I J) : CALL ΩM (d + 2) kX6_count [.ref 0, .int x] I J (AM (aCount t w h last b ps x) (t, (w, h, last), b, ps, f, z)) := by
  have hW := hR.2.2.1.1
  have hV := RepM_V hR
  have hB := hR.2.2.2.1.2
  have n16 := (WH_n hW).2
  have e0 := hW.2.1
  have e1 := hW.2.2
  have m8 := hR.2.1.1
  have m2 := hR.2.2.1.2
  have m3 := hV.2.1
  have m4 := hV.2.2
  have m11 : I 0 11 = nI ps.length := by
    obtain ⟨nx, g, -⟩ := hR.2.2.2.2.1.1
    exact g
  have g0 := sp_X6_setOf (d := d) hR (s := 0) (by decide)
  have g1 := sp_X6_setOf (d := d) hR (s := 1) (by decide)
  have q0 : mset (menP b.1 0) = mset (wht b.1) := rfl
  have q1 : mset (menP b.1 1) = mset (blk b.1) := rfl
  rw [q0] at g0
  rw [q1] at g1
  have tail : WP ΩM (d + 2) kX6_count 44 [(0, .ref 0), (1, .int x), (2, .int (nI (mset (ded b.1)))), (3, .int (nI (w * h)))] [] I J (AM (aCount t w h last b ps x) (t, (w, h, last), b, ps, f, z)) := by
    cases hx : inB x 10
    · have e : aCount t w h last b ps x = -2 := if_neg (by rw [hx]; exact Bool.false_ne_true)
      have hxo : x.toInt < 0 ∨ 9 < x.toInt := by
        rcases Int.lt_or_le x.toInt 0 with k | k
        · exact Or.inl k
        · right
          have h2 : ¬ (¬ x < 0 ∧ x < nI 10) := of_decide_eq_false hx
          rw [Int32.lt_iff_toInt_lt, Int32.lt_iff_toInt_lt, nI_ti (by omega)] at h2
          have h3 : (0 : Int32).toInt = 0 := rfl
          rw [h3] at h2
          omega
      rw [e]
      refine wp_iload_n (pc := 44) (i := 1) dX6_count_44 rfl rfl ?_
      refine wp_tableOut (pc := 45) (x := x) (tgt := 153) dX6_count_45 hxo (by decide) ?_
      refine wp_bipush (pc := 153) (v := (-2)) dX6_count_153 (by decide +kernel) ?_
      refine wp_ireturn (pc := 155) dX6_count_155 rfl ?_
      exact am_i rfl hR
    · obtain ⟨c, hc, rfl⟩ := inB_t (by omega) hx
      have eA : ∀ k, k < 10 → aCount t w h last b ps (nI k) = cntA t w h last b ps k := fun k hk => by
        unfold aCount
        rw [if_pos (inB_yes (by omega) (by omega) hk), cI_n (by omega)]
      clear hx
      match c, hc with
      | 0, hc =>
        rw [eA 0 hc]
        refine wp_iload_n (pc := 44) (i := 1) dX6_count_44 rfl rfl ?_
        refine wp_tableIn (pc := 45) (x := nI 0) (off := 55) (tgt := 100) dX6_count_45 (by decide) (by decide) (by decide) (by decide) ?_
        refine wp_aload_n (pc := 100) (i := 0) dX6_count_100 rfl rfl (by first | with_reducible assumption | rfl) ?_
        refine wp_getI (pc := 101) dX6_count_101 lf_X6_60 (by first | with_reducible assumption | rfl) (by first | with_reducible assumption | rfl) rfl ?_
        rw [m8]
        refine wp_ireturn (pc := 104) dX6_count_104 rfl ?_
        exact am_i rfl hR
      | 1, hc =>
        rw [eA 1 hc]
        refine wp_iload_n (pc := 44) (i := 1) dX6_count_44 rfl rfl ?_
        refine wp_tableIn (pc := 45) (x := nI 1) (off := 60) (tgt := 105) dX6_count_45 (by decide) (by decide) (by decide) (by decide) ?_
        refine wp_aload_n (pc := 105) (i := 0) dX6_count_105 rfl rfl (by first | with_reducible assumption | rfl) ?_
        refine wp_getI (pc := 106) dX6_count_106 lf_X6_47 (by first | with_reducible assumption | rfl) (by first | with_reducible assumption | rfl) rfl ?_
        rw [e0]
        refine wp_ireturn (pc := 109) dX6_count_109 rfl ?_
        exact am_i rfl hR
      | 2, hc =>
        rw [eA 2 hc]
        refine wp_iload_n (pc := 44) (i := 1) dX6_count_44 rfl rfl ?_
        refine wp_tableIn (pc := 45) (x := nI 2) (off := 65) (tgt := 110) dX6_count_45 (by decide) (by decide) (by decide) (by decide) ?_
        refine wp_aload_n (pc := 110) (i := 0) dX6_count_110 rfl rfl (by first | with_reducible assumption | rfl) ?_
        refine wp_getI (pc := 111) dX6_count_111 lf_X6_51 (by first | with_reducible assumption | rfl) (by first | with_reducible assumption | rfl) rfl ?_
        rw [e1]
        refine wp_ireturn (pc := 114) dX6_count_114 rfl ?_
        exact am_i rfl hR
      | 3, hc =>
        rw [eA 3 hc]
        refine wp_iload_n (pc := 44) (i := 1) dX6_count_44 rfl rfl ?_
        refine wp_tableIn (pc := 45) (x := nI 3) (off := 70) (tgt := 115) dX6_count_45 (by decide) (by decide) (by decide) (by decide) ?_
        refine wp_aload_n (pc := 115) (i := 0) dX6_count_115 rfl rfl (by first | with_reducible assumption | rfl) ?_
        refine wp_getI (pc := 116) dX6_count_116 lf_X6_88 (by first | with_reducible assumption | rfl) (by first | with_reducible assumption | rfl) rfl ?_
        rw [m2]
        refine wp_ireturn (pc := 119) dX6_count_119 rfl ?_
        exact am_i rfl hR
      | 4, hc =>
        rw [eA 4 hc]
        refine wp_iload_n (pc := 44) (i := 1) dX6_count_44 rfl rfl ?_
        refine wp_tableIn (pc := 45) (x := nI 4) (off := 75) (tgt := 120) dX6_count_45 (by decide) (by decide) (by decide) (by decide) ?_
        refine wp_aload_n (pc := 120) (i := 0) dX6_count_120 rfl rfl (by first | with_reducible assumption | rfl) ?_
        refine wp_getR (pc := 121) dX6_count_121 lf_X6_16 (by first | with_reducible assumption | rfl) (by first | with_reducible assumption | rfl) rfl (by first | with_reducible assumption | rfl) (by first | with_reducible assumption | rfl) ?_
        refine wp_iconst (pc := 124) (v := nI 0) dX6_count_124 (by decide +kernel) ?_
        refine wp_iald (pc := 125) dX6_count_125 (by first | with_reducible assumption | rfl) (by first | with_reducible assumption | rfl) (by first | with_reducible assumption | omega) (by first | decide | omega) ?_
        rw [m3]
        refine wp_ireturn (pc := 126) dX6_count_126 rfl ?_
        exact am_i rfl hR
      | 5, hc =>
        rw [eA 5 hc]
        refine wp_iload_n (pc := 44) (i := 1) dX6_count_44 rfl rfl ?_
        refine wp_tableIn (pc := 45) (x := nI 5) (off := 82) (tgt := 127) dX6_count_45 (by decide) (by decide) (by decide) (by decide) ?_
        refine wp_aload_n (pc := 127) (i := 0) dX6_count_127 rfl rfl (by first | with_reducible assumption | rfl) ?_
        refine wp_iconst (pc := 128) (v := nI 0) dX6_count_128 (by decide +kernel) ?_
        refine wp_cVP1 (pc := 129) (ci := 6) dX6_count_129 lm_X6_208 m_X6_setOf (by first | with_reducible assumption | rfl) (by first | with_reducible assumption | rfl) (by decide) rfl (Nat.le_of_ble_eq_true rfl) g0 ?_
        refine wp_ireturn (pc := 132) dX6_count_132 rfl ?_
        exact am_i rfl hR
      | 6, hc =>
        rw [eA 6 hc]
        refine wp_iload_n (pc := 44) (i := 1) dX6_count_44 rfl rfl ?_
        refine wp_tableIn (pc := 45) (x := nI 6) (off := 88) (tgt := 133) dX6_count_45 (by decide) (by decide) (by decide) (by decide) ?_
        refine wp_aload_n (pc := 133) (i := 0) dX6_count_133 rfl rfl (by first | with_reducible assumption | rfl) ?_
        refine wp_iconst (pc := 134) (v := nI 1) dX6_count_134 (by decide +kernel) ?_
        refine wp_cVP1 (pc := 135) (ci := 6) dX6_count_135 lm_X6_208 m_X6_setOf (by first | with_reducible assumption | rfl) (by first | with_reducible assumption | rfl) (by decide) rfl (Nat.le_of_ble_eq_true rfl) g1 ?_
        refine wp_ireturn (pc := 138) dX6_count_138 rfl ?_
        exact am_i rfl hR
      | 7, hc =>
        rw [eA 7 hc]
        refine wp_iload_n (pc := 44) (i := 1) dX6_count_44 rfl rfl ?_
        refine wp_tableIn (pc := 45) (x := nI 7) (off := 94) (tgt := 139) dX6_count_45 (by decide) (by decide) (by decide) (by decide) ?_
        refine wp_iload_n (pc := 139) (i := 2) dX6_count_139 rfl rfl ?_
        refine wp_ireturn (pc := 140) dX6_count_140 rfl ?_
        exact am_i rfl hR
      | 8, hc =>
        rw [eA 8 hc]
        refine wp_iload_n (pc := 44) (i := 1) dX6_count_44 rfl rfl ?_
        refine wp_tableIn (pc := 45) (x := nI 8) (off := 96) (tgt := 141) dX6_count_45 (by decide) (by decide) (by decide) (by decide) ?_
        refine wp_aload_n (pc := 141) (i := 0) dX6_count_141 rfl rfl (by first | with_reducible assumption | rfl) ?_
        refine wp_getI (pc := 142) dX6_count_142 lf_X6_91 (by first | with_reducible assumption | rfl) (by first | with_reducible assumption | rfl) rfl ?_
        rw [m11]
        refine wp_ireturn (pc := 145) dX6_count_145 rfl ?_
        exact am_i rfl hR
      | 9, hc =>
        rw [eA 9 hc]
        refine wp_iload_n (pc := 44) (i := 1) dX6_count_44 rfl rfl ?_
        refine wp_tableIn (pc := 45) (x := nI 9) (off := 101) (tgt := 146) dX6_count_45 (by decide) (by decide) (by decide) (by decide) ?_
        refine wp_aload_n (pc := 146) (i := 0) dX6_count_146 rfl rfl (by first | with_reducible assumption | rfl) ?_
        refine wp_getR (pc := 147) dX6_count_147 lf_X6_19 (by first | with_reducible assumption | rfl) (by first | with_reducible assumption | rfl) rfl (by first | with_reducible assumption | rfl) (by first | with_reducible assumption | rfl) ?_
        refine wp_iconst (pc := 150) (v := nI 0) dX6_count_150 (by decide +kernel) ?_
        refine wp_iald (pc := 151) dX6_count_151 (by first | with_reducible assumption | rfl) (by first | with_reducible assumption | rfl) (by first | with_reducible assumption | omega) (by first | decide | omega) ?_
        rw [m4]
        refine wp_ireturn (pc := 152) dX6_count_152 rfl ?_
        exact am_i rfl hR
      | k + 10, hc => omega
  have loop : ∀ m j, m + j = w * h → WP ΩM (d + 2) kX6_count 4 [(0, .ref 0), (1, .int x), (2, .int (nI (mset (fun i => decide (i < j) && ded b.1 i)))), (3, .int (nI j))] [] I J (AM (aCount t w h last b ps x) (t, (w, h, last), b, ps, f, z)) := by
    intro m
    induction m with
    | zero =>
      intro j hj
      have hj' : j = w * h := (Nat.zero_add j).symm.trans hj
      have ed : mset (fun i => decide (i < w * h) && ded b.1 i) = mset (ded b.1) := cut_all (fun t ht => by
        rcases Nat.lt_or_ge t (w * h) with k | k
        · exact k
        · have := hB.2.2.2.2.2 t k
          have := of_decide_eq_true ht
          omega)
      rw [hj', ed]
      refine wp_iload_n (pc := 4) (i := 3) dX6_count_4 rfl rfl ?_
      refine wp_aload_n (pc := 5) (i := 0) dX6_count_5 rfl rfl (by first | with_reducible assumption | rfl) ?_
      refine wp_getI (pc := 6) dX6_count_6 lf_X6_47 (by first | with_reducible assumption | rfl) (by first | with_reducible assumption | rfl) rfl ?_
      rw [e0]
      refine wp_aload_n (pc := 9) (i := 0) dX6_count_9 rfl rfl (by first | with_reducible assumption | rfl) ?_
      refine wp_getI (pc := 10) dX6_count_10 lf_X6_51 (by first | with_reducible assumption | rfl) (by first | with_reducible assumption | rfl) rfl ?_
      rw [e1]
      first | (refine wp_imulN (pc := 13) dX6_count_13 ?_) | (refine wp_imul (pc := 13) dX6_count_13 ?_)
      first | (refine wp_icmp_geN (pc := 14) (tgt := 44) dX6_count_14 (by decide) (by first | with_reducible assumption | omega) (by first | with_reducible assumption | omega) (fun c_14 => ?_) (fun c_14 => ?_)) | (refine wp_icmp_ge (pc := 14) (tgt := 44) dX6_count_14 (by decide) (fun c_14 => ?_) (fun c_14 => ?_))
      · exact tail
      · exact absurd (Nat.le_refl _) c_14
    | succ m ih =>
      intro j hj
      have hjn : j < w * h := by omega
      have ec := (hV.1 j hjn).1
      rw [Nat.mul_zero, Nat.zero_add] at ec
      have hsc := hB.1 j (by omega)
      have hac := asc_lt (b.1 j)
      have a1 := asc_1 _ hsc
      have h0 := ih (j + 1) (by omega)
      have hcut := set_cut (P := fun _ => false) (R := ded b.1) (k := j) (by omega) _ rfl rfl
      clear ih tail
      by_cases hv : b.1 j = 1
      · have hd : ded b.1 j = true := decide_eq_true hv
        rw [hd] at hcut
        rw [← hcut] at h0
        refine wp_iload_n (pc := 4) (i := 3) dX6_count_4 rfl rfl ?_
        refine wp_aload_n (pc := 5) (i := 0) dX6_count_5 rfl rfl (by first | with_reducible assumption | rfl) ?_
        refine wp_getI (pc := 6) dX6_count_6 lf_X6_47 (by first | with_reducible assumption | rfl) (by first | with_reducible assumption | rfl) rfl ?_
        rw [e0]
        refine wp_aload_n (pc := 9) (i := 0) dX6_count_9 rfl rfl (by first | with_reducible assumption | rfl) ?_
        refine wp_getI (pc := 10) dX6_count_10 lf_X6_51 (by first | with_reducible assumption | rfl) (by first | with_reducible assumption | rfl) rfl ?_
        rw [e1]
        first | (refine wp_imulN (pc := 13) dX6_count_13 ?_) | (refine wp_imul (pc := 13) dX6_count_13 ?_)
        first | (refine wp_icmp_geN (pc := 14) (tgt := 44) dX6_count_14 (by decide) (by first | with_reducible assumption | omega) (by first | with_reducible assumption | omega) (fun c_14 => ?_) (fun c_14 => ?_)) | (refine wp_icmp_ge (pc := 14) (tgt := 44) dX6_count_14 (by decide) (fun c_14 => ?_) (fun c_14 => ?_))
        · exact absurd c_14 (by omega)
        · refine wp_iload_n (pc := 17) (i := 2) dX6_count_17 rfl rfl ?_
          refine wp_aload_n (pc := 18) (i := 0) dX6_count_18 rfl rfl (by first | with_reducible assumption | rfl) ?_
          refine wp_getR (pc := 19) dX6_count_19 lf_X6_7 (by first | with_reducible assumption | rfl) (by first | with_reducible assumption | rfl) rfl (by first | with_reducible assumption | rfl) (by first | with_reducible assumption | rfl) ?_
          refine wp_iload_n (pc := 22) (i := 3) dX6_count_22 rfl rfl ?_
          refine wp_iald (pc := 23) dX6_count_23 (by first | with_reducible assumption | rfl) (by first | with_reducible assumption | rfl) (by first | with_reducible assumption | omega) (by first | decide | omega) ?_
          rw [ec]
          refine wp_bipush (pc := 24) (v := nI 35) dX6_count_24 (by decide +kernel) ?_
          first | (refine wp_icmp_neN (pc := 26) (tgt := 35) dX6_count_26 (by decide) (by first | with_reducible assumption | omega) (by first | with_reducible assumption | omega) (fun c_26 => ?_) (fun c_26 => ?_)) | (refine wp_icmp_ne (pc := 26) (tgt := 35) dX6_count_26 (by decide) (fun c_26 => ?_) (fun c_26 => ?_))
          · exact absurd (a1.mpr hv) c_26
          · refine wp_iconst (pc := 29) (v := nI 1) dX6_count_29 (by decide +kernel) ?_
            refine wp_iload_n (pc := 30) (i := 3) dX6_count_30 rfl rfl ?_
            first | (refine wp_ishl1 (pc := 31) dX6_count_31 (by first | with_reducible assumption | omega) ?_) | (refine wp_ishlN (pc := 31) dX6_count_31 (by first | with_reducible assumption | omega) (by first | with_reducible assumption | omega) ?_) | (refine wp_ishl (pc := 31) dX6_count_31 ?_)
            refine wp_goto (pc := 32) (tgt := 36) dX6_count_32 (by decide) ?_
            first | (refine wp_iorN (pc := 36) dX6_count_36 ?_) | (refine wp_ior (pc := 36) dX6_count_36 ?_)
            refine wp_istore_n (pc := 37) (i := 2) dX6_count_37 rfl (by decide) ?_
            first | (refine wp_iincN (pc := 38) (m := 1) dX6_count_38 rfl rfl (by decide) ?_) | (refine wp_iinc (pc := 38) dX6_count_38 rfl rfl (by decide) ?_)
            refine wp_goto (pc := 41) (tgt := 4) dX6_count_41 (by decide) ?_
            exact h0
      · have hd : ded b.1 j = false := decide_eq_false hv
        rw [hd] at hcut
        rw [← hcut] at h0
        refine wp_iload_n (pc := 4) (i := 3) dX6_count_4 rfl rfl ?_
        refine wp_aload_n (pc := 5) (i := 0) dX6_count_5 rfl rfl (by first | with_reducible assumption | rfl) ?_
        refine wp_getI (pc := 6) dX6_count_6 lf_X6_47 (by first | with_reducible assumption | rfl) (by first | with_reducible assumption | rfl) rfl ?_
        rw [e0]
        refine wp_aload_n (pc := 9) (i := 0) dX6_count_9 rfl rfl (by first | with_reducible assumption | rfl) ?_
        refine wp_getI (pc := 10) dX6_count_10 lf_X6_51 (by first | with_reducible assumption | rfl) (by first | with_reducible assumption | rfl) rfl ?_
        rw [e1]
        first | (refine wp_imulN (pc := 13) dX6_count_13 ?_) | (refine wp_imul (pc := 13) dX6_count_13 ?_)
        first | (refine wp_icmp_geN (pc := 14) (tgt := 44) dX6_count_14 (by decide) (by first | with_reducible assumption | omega) (by first | with_reducible assumption | omega) (fun c_14 => ?_) (fun c_14 => ?_)) | (refine wp_icmp_ge (pc := 14) (tgt := 44) dX6_count_14 (by decide) (fun c_14 => ?_) (fun c_14 => ?_))
        · exact absurd c_14 (by omega)
        · refine wp_iload_n (pc := 17) (i := 2) dX6_count_17 rfl rfl ?_
          refine wp_aload_n (pc := 18) (i := 0) dX6_count_18 rfl rfl (by first | with_reducible assumption | rfl) ?_
          refine wp_getR (pc := 19) dX6_count_19 lf_X6_7 (by first | with_reducible assumption | rfl) (by first | with_reducible assumption | rfl) rfl (by first | with_reducible assumption | rfl) (by first | with_reducible assumption | rfl) ?_
          refine wp_iload_n (pc := 22) (i := 3) dX6_count_22 rfl rfl ?_
          refine wp_iald (pc := 23) dX6_count_23 (by first | with_reducible assumption | rfl) (by first | with_reducible assumption | rfl) (by first | with_reducible assumption | omega) (by first | decide | omega) ?_
          rw [ec]
          refine wp_bipush (pc := 24) (v := nI 35) dX6_count_24 (by decide +kernel) ?_
          first | (refine wp_icmp_neN (pc := 26) (tgt := 35) dX6_count_26 (by decide) (by first | with_reducible assumption | omega) (by first | with_reducible assumption | omega) (fun c_26 => ?_) (fun c_26 => ?_)) | (refine wp_icmp_ne (pc := 26) (tgt := 35) dX6_count_26 (by decide) (fun c_26 => ?_) (fun c_26 => ?_))
          · refine wp_iconst (pc := 35) (v := nI 0) dX6_count_35 (by decide +kernel) ?_
            refine wp_ior (pc := 36) dX6_count_36 ?_
            rw [show ∀ x : Int32, x ||| nI 0 = x from fun x => by rw [show nI 0 = (0 : Int32) from rfl, Int32.or_zero]]
            refine wp_istore_n (pc := 37) (i := 2) dX6_count_37 rfl (by decide) ?_
            first | (refine wp_iincN (pc := 38) (m := 1) dX6_count_38 rfl rfl (by decide) ?_) | (refine wp_iinc (pc := 38) dX6_count_38 rfl rfl (by decide) ?_)
            refine wp_goto (pc := 41) (tgt := 4) dX6_count_41 (by decide) ?_
            exact h0
          · exact absurd (a1.mp c_26) hv
  have h00 := loop (w * h) 0 rfl
  rw [show mset (fun i => decide (i < 0) && ded b.1 i) = 0 from mset_zero.mpr (fun i _ => by simp)] at h00
  refine call_of_wp (by decide) (Nat.le_of_ble_eq_true rfl) ?_
  refine wp_iconst (pc := 0) (v := nI 0) dX6_count_0 (by decide +kernel) ?_
  refine wp_istore_n (pc := 1) (i := 2) dX6_count_1 rfl (by decide) ?_
  refine wp_iconst (pc := 2) (v := nI 0) dX6_count_2 (by decide +kernel) ?_
  refine wp_istore_n (pc := 3) (i := 3) dX6_count_3 rfl (by decide) ?_
  exact h00
end MP1
