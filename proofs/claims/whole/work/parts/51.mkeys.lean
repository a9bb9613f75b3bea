/-! THE REFERENCE'S CALLS, 8: wins, keys, keyAt -/
def feP (last : Nat) (c : Bd) (x : Nat) : Bool := decide ((mkB last c x).2.2.2 = (mkB last c x).2.2.1)
def wnM (w h last : Nat) (c : Bd) : Bool := (PLY w h c).any (feP last c)
def dnP (w h last : Nat) (c : Bd) (x : Nat) : Bool := decide ((mkB last c x).2.2.2 = 2) && wnM w h last (mkB last c x)
def idM (w h last : Nat) (c : Bd) : Bool := (PLY w h c).all (dnP w h last c)
def kyP (w h last n : Nat) (c : Bd) (x : Nat) : Bool := feP last c x || (decide (2 < n) && (decide ((mkB last c x).2.2.2 = 2) && idM w h last (mkB last c x)))
def keyLM (w h last : Nat) (b : Bd) (n : Nat) : List Nat := (PLY w h b).filter (kyP w h last n b)
def aWinsM (w h last : Nat) (b : Bd) (x : Int32) : Int32 := if refA b.2.2.2 x = -9 then bI (decide (0 < (keyLM w h last b (cI x)).length)) else refA b.2.2.2 x
def aKeysM (w h last : Nat) (b : Bd) (x : Int32) : Int32 := if refA b.2.2.2 x = -9 then nI (keyLM w h last b (cI x)).length else refA b.2.2.2 x
def aKeyAtM (w h last : Nat) (b : Bd) (x y : Int32) : Int32 := if refA b.2.2.2 x = -9 then (if inB y (keyLM w h last b (cI x)).length = true then encC ((keyLM w h last b (cI x)).getD (cI y) 0) else -9) else refA b.2.2.2 x
theorem any_take {l : List Nat} {P : Nat → Bool} {j : Nat} (hj : j < l.length) : (l.take (j + 1)).any P = ((l.take j).any P || P (l.getD j 0)) := by
  rw [List.take_succ, List.any_append, List.getD_eq_getElem?_getD, List.getElem?_eq_getElem hj]
  simp
theorem all_take {l : List Nat} {P : Nat → Bool} {j : Nat} (hj : j < l.length) : (l.take (j + 1)).all P = ((l.take j).all P && P (l.getD j 0)) := by
  rw [List.take_succ, List.all_append, List.getD_eq_getElem?_getD, List.getElem?_eq_getElem hj]
  simp
theorem any_up {l : List Nat} {P : Nat → Bool} {j : Nat} (h : (l.take j).any P = true) : l.any P = true := by
  rw [List.any_eq_true] at h ⊢
  obtain ⟨x, hx, hp⟩ := h
  exact ⟨x, List.mem_of_mem_take hx, hp⟩
theorem all_up {l : List Nat} {P : Nat → Bool} {j : Nat} (h : (l.take j).all P = false) : l.all P = false := by
  rw [List.all_eq_false] at h ⊢
  obtain ⟨x, hx, hp⟩ := h
  exact ⟨x, List.mem_of_mem_take hx, hp⟩
theorem lsI_eq {l o : Nat} (hl : l < 3) (ho : o < 2) : lsI l = nI o ↔ l = o := by
  rcases (show l = 0 ∨ l = 1 ∨ l = 2 by omega) with rfl | rfl | rfl <;> rcases (show o = 0 ∨ o = 1 by omega) with rfl | rfl <;> decide +kernel
theorem lsI_9 {l : Nat} (hl : l < 3) : lsI l = -9 ↔ l = 2 := by
  rcases (show l = 0 ∨ l = 1 ∨ l = 2 by omega) with rfl | rfl | rfl <;> decide +kernel
section MKE
variable {d : Nat} {I : MemI} {J : MemJ} {t : List Nat} {w h last : Nat} {b : Bd} {ps : List Bd} {f : Nat → Option Bd} {z : Int64}
def PV (w h last k : Nat) (c : Bd) (I : MemI) : Prop := WH w h I ∧ I 0 2 = nI last ∧ LX (w * h) k c I
theorem PV_fr {k : Nat} {c : Bd} {I I' : MemI} (hk : k < 4) (h0 : PV w h last k c I) (hf : FI (frW k) I I') : PV w h last k c I' := by
  obtain ⟨h1, h2, h3⟩ := h0
  exact ⟨WH_fr h1 (fun i => hf 0 i (by unfold frW; omega)), by rw [hf 0 2 (by unfold frW; omega)]; exact h2, LX_n h3 hk (fun a i y1 y2 y3 => hf a i (by unfold frW; omega)) (hf 3 k (by unfold frW; omega)) (hf 4 k (by unfold frW; omega))⟩
set_option maxHeartbeats 16000000 in
theorem sp_X6_winsNow {k : Nat} {c : Bd} (hk : k ≤ 2) (hl9 : last < 10) (hP : PV w h last k c I) (hB : Bok (w * h) c) : CALL ΩM (d + 7) kX6_winsNow [.ref 0, .int (nI k)] I J (IQ (fun x I' J' => x = bI (wnM w h last c) ∧ FI (frW k) I I' ∧ J' = J)) := by
  have hlen := PLY_len (w := w) (h := h) hB.2.2.2.1
  have loop : ∀ m j (I2 : MemI), m + j = (PLY w h c).length → FI (frW k) I I2 → (∀ j, j < (PLY w h c).length → I2 6 (256 * k + j) = nI (encM ((PLY w h c).getD j 0))) → WP ΩM (d + 7) kX6_winsNow 11 [(0, .ref 0), (1, .int (nI k)), (2, .int (nI (PLY w h c).length)), (3, .int (bI (((PLY w h c).take j).any (feP last c)))), (4, .int (nI j))] [] I2 J (IQ (fun x I' J' => x = bI (wnM w h last c) ∧ FI (frW k) I I' ∧ J' = J)) := by
    intro m
    induction m with
    | zero =>
      intro j I2 hj hfr h6
      have hj' : j = (PLY w h c).length := (Nat.zero_add j).symm.trans hj
      rw [hj', List.take_length]
      refine wp_iload (pc := 11) dX6_winsNow_11 rfl ?_
      refine wp_iload_n (pc := 13) (i := 2) dX6_winsNow_13 rfl rfl ?_
      first | (refine wp_icmp_geN (pc := 14) (tgt := 74) dX6_winsNow_14 (by decide) (by first | with_reducible assumption | omega) (by first | with_reducible assumption | omega) (fun c_14 => ?_) (fun c_14 => ?_)) | (refine wp_icmp_ge (pc := 14) (tgt := 74) dX6_winsNow_14 (by decide) (fun c_14 => ?_) (fun c_14 => ?_))
      · refine wp_iload_n (pc := 74) (i := 3) dX6_winsNow_74 rfl rfl ?_
        refine wp_zreturn (pc := 75) dX6_winsNow_75 rfl (by first | exact bI_narrow _ | exact nI_narrow01 (by omega) | decide +kernel | assumption) ?_
        exact iq_i ⟨rfl, hfr, rfl⟩
      · exact absurd (Nat.le_refl _) c_14
    | succ m ih =>
      intro j I2 hj hfr h6
      have hjl : j < (PLY w h c).length := by omega
      have h0 := fun I4 => ih (j + 1) I4 (by omega)
      rw [any_take hjl] at h0
      clear ih
      cases hv : ((PLY w h c).take j).any (feP last c)
      · rw [hv, Bool.false_or] at h0
        have hP2 := PV_fr (by omega) hP hfr
        have hl := (PLY_mem hB.1 (PLY_get hjl)).1
        have hok := PLY_ok hB (PLY_get hjl)
        have hlg := okP_leg hok
        have hB2 := Bok_mk hB hlg.1 hlg.2 hl9
        have hmk := sp_X6_make (d := d + 3) (J := J) hP2.1 hP2.2.1 hP2.2.2 hB hl hok (show k < 4 by omega) (show k + 1 < 4 by omega)
        have h6j := h6 j hjl
        have hle := lsI_eq hB2.2.2.2.2.1 hB2.2.2.2.1
        generalize (PLY w h c).getD j 0 = x at *
        refine wp_iload (pc := 11) dX6_winsNow_11 rfl ?_
        refine wp_iload_n (pc := 13) (i := 2) dX6_winsNow_13 rfl rfl ?_
        first | (refine wp_icmp_geN (pc := 14) (tgt := 74) dX6_winsNow_14 (by decide) (by first | with_reducible assumption | omega) (by first | with_reducible assumption | omega) (fun c_14 => ?_) (fun c_14 => ?_)) | (refine wp_icmp_ge (pc := 14) (tgt := 74) dX6_winsNow_14 (by decide) (fun c_14 => ?_) (fun c_14 => ?_))
        · exact absurd c_14 (by omega)
        · refine wp_iload_n (pc := 17) (i := 3) dX6_winsNow_17 rfl rfl ?_
          refine wp_if_neB (pc := 18) (tgt := 74) dX6_winsNow_18 (by decide) (fun c_18 => ?_) (fun c_18 => ?_)
          · exact Bool.noConfusion c_18
          · refine wp_aload_n (pc := 21) (i := 0) dX6_winsNow_21 rfl rfl (by first | with_reducible assumption | rfl) ?_
            refine wp_iload_n (pc := 22) (i := 1) dX6_winsNow_22 rfl rfl ?_
            refine wp_iload_n (pc := 23) (i := 1) dX6_winsNow_23 rfl rfl ?_
            refine wp_iconst (pc := 24) (v := nI 1) dX6_winsNow_24 (by decide +kernel) ?_
            first | (refine wp_iaddN (pc := 25) dX6_winsNow_25 ?_) | (refine wp_iadd (pc := 25) dX6_winsNow_25 ?_)
            refine wp_aload_n (pc := 26) (i := 0) dX6_winsNow_26 rfl rfl (by first | with_reducible assumption | rfl) ?_
            refine wp_getR (pc := 27) dX6_winsNow_27 lf_X6_25 (by first | with_reducible assumption | rfl) (by first | with_reducible assumption | rfl) rfl (by first | with_reducible assumption | rfl) (by first | with_reducible assumption | rfl) ?_
            refine wp_sipush (pc := 30) (v := nI 256) dX6_winsNow_30 (by decide +kernel) ?_
            refine wp_iload_n (pc := 33) (i := 1) dX6_winsNow_33 rfl rfl ?_
            first | (refine wp_imulN (pc := 34) dX6_winsNow_34 ?_) | (refine wp_imul (pc := 34) dX6_winsNow_34 ?_)
            refine wp_iload (pc := 35) dX6_winsNow_35 rfl ?_
            first | (refine wp_iaddN (pc := 37) dX6_winsNow_37 ?_) | (refine wp_iadd (pc := 37) dX6_winsNow_37 ?_)
            refine wp_iald (pc := 38) dX6_winsNow_38 (by first | with_reducible assumption | rfl) (by first | with_reducible assumption | rfl) (by first | with_reducible assumption | omega) (by first | decide | omega) ?_
            rw [h6j]
            refine wp_cVI3 (pc := 39) (ci := 6) dX6_winsNow_39 lm_X6_143 m_X6_make (by first | with_reducible assumption | rfl) (by first | with_reducible assumption | rfl) (by decide) rfl (Nat.le_of_ble_eq_true rfl) hmk (fun x_39 I_39 J_39 h_39 => ?_)
            obtain ⟨-, m2, m3, rfl⟩ := h_39
            have e4 := m2.2.2
            have e3 := m2.2.1
            refine wp_pop (pc := 42) dX6_winsNow_42 rfl ?_
            refine wp_aload_n (pc := 43) (i := 0) dX6_winsNow_43 rfl rfl (by first | with_reducible assumption | rfl) ?_
            refine wp_getR (pc := 44) dX6_winsNow_44 lf_X6_19 (by first | with_reducible assumption | rfl) (by first | with_reducible assumption | rfl) rfl (by first | with_reducible assumption | rfl) (by first | with_reducible assumption | rfl) ?_
            refine wp_iload_n (pc := 47) (i := 1) dX6_winsNow_47 rfl rfl ?_
            refine wp_iconst (pc := 48) (v := nI 1) dX6_winsNow_48 (by decide +kernel) ?_
            first | (refine wp_iaddN (pc := 49) dX6_winsNow_49 ?_) | (refine wp_iadd (pc := 49) dX6_winsNow_49 ?_)
            refine wp_iald (pc := 50) dX6_winsNow_50 (by first | with_reducible assumption | rfl) (by first | with_reducible assumption | rfl) (by first | with_reducible assumption | omega) (by first | decide | omega) ?_
            rw [e4]
            refine wp_aload_n (pc := 51) (i := 0) dX6_winsNow_51 rfl rfl (by first | with_reducible assumption | rfl) ?_
            refine wp_getR (pc := 52) dX6_winsNow_52 lf_X6_16 (by first | with_reducible assumption | rfl) (by first | with_reducible assumption | rfl) rfl (by first | with_reducible assumption | rfl) (by first | with_reducible assumption | rfl) ?_
            refine wp_iload_n (pc := 55) (i := 1) dX6_winsNow_55 rfl rfl ?_
            refine wp_iconst (pc := 56) (v := nI 1) dX6_winsNow_56 (by decide +kernel) ?_
            first | (refine wp_iaddN (pc := 57) dX6_winsNow_57 ?_) | (refine wp_iadd (pc := 57) dX6_winsNow_57 ?_)
            refine wp_iald (pc := 58) dX6_winsNow_58 (by first | with_reducible assumption | rfl) (by first | with_reducible assumption | rfl) (by first | with_reducible assumption | omega) (by first | decide | omega) ?_
            rw [e3]
            refine wp_icmp_ne (pc := 59) (tgt := 66) dX6_winsNow_59 (by decide) (fun c_59 => ?_) (fun c_59 => ?_)
            · refine wp_iconst (pc := 66) (v := nI 0) dX6_winsNow_66 (by decide +kernel) ?_
              refine wp_istore_n (pc := 67) (i := 3) dX6_winsNow_67 rfl (by decide) ?_
              first | (refine wp_iincN (pc := 68) (m := 1) dX6_winsNow_68 rfl rfl (by decide) ?_) | (refine wp_iinc (pc := 68) dX6_winsNow_68 rfl rfl (by decide) ?_)
              refine wp_goto (pc := 71) (tgt := 11) dX6_winsNow_71 (by decide) ?_
              first
                | (have g := hle.mp c_59; rw [show feP last c x = true from decide_eq_true g, bI_t] at h0; exact h0 _ (hfr.trans (FM_W m3)) (fun i hi => (m3 6 (256 * k + i) (by omega) (by omega)).trans (h6 i hi)))
                | (have g : ¬ _ = _ := c_59; rw [show feP last c x = false from decide_eq_false (fun y => g (hle.mpr y)), bI_f] at h0; exact h0 _ (hfr.trans (FM_W m3)) (fun i hi => (m3 6 (256 * k + i) (by omega) (by omega)).trans (h6 i hi)))
            · refine wp_iconst (pc := 62) (v := nI 1) dX6_winsNow_62 (by decide +kernel) ?_
              refine wp_goto (pc := 63) (tgt := 67) dX6_winsNow_63 (by decide) ?_
              refine wp_istore_n (pc := 67) (i := 3) dX6_winsNow_67 rfl (by decide) ?_
              first | (refine wp_iincN (pc := 68) (m := 1) dX6_winsNow_68 rfl rfl (by decide) ?_) | (refine wp_iinc (pc := 68) dX6_winsNow_68 rfl rfl (by decide) ?_)
              refine wp_goto (pc := 71) (tgt := 11) dX6_winsNow_71 (by decide) ?_
              first
                | (have g := hle.mp c_59; rw [show feP last c x = true from decide_eq_true g, bI_t] at h0; exact h0 _ (hfr.trans (FM_W m3)) (fun i hi => (m3 6 (256 * k + i) (by omega) (by omega)).trans (h6 i hi)))
                | (have g : ¬ _ = _ := c_59; rw [show feP last c x = false from decide_eq_false (fun y => g (hle.mpr y)), bI_f] at h0; exact h0 _ (hfr.trans (FM_W m3)) (fun i hi => (m3 6 (256 * k + i) (by omega) (by omega)).trans (h6 i hi)))
      · have e : wnM w h last c = true := any_up hv
        rw [e]
        refine wp_iload (pc := 11) dX6_winsNow_11 rfl ?_
        refine wp_iload_n (pc := 13) (i := 2) dX6_winsNow_13 rfl rfl ?_
        first | (refine wp_icmp_geN (pc := 14) (tgt := 74) dX6_winsNow_14 (by decide) (by first | with_reducible assumption | omega) (by first | with_reducible assumption | omega) (fun c_14 => ?_) (fun c_14 => ?_)) | (refine wp_icmp_ge (pc := 14) (tgt := 74) dX6_winsNow_14 (by decide) (fun c_14 => ?_) (fun c_14 => ?_))
        · exact absurd c_14 (by omega)
        · refine wp_iload_n (pc := 17) (i := 3) dX6_winsNow_17 rfl rfl ?_
          refine wp_if_neB (pc := 18) (tgt := 74) dX6_winsNow_18 (by decide) (fun c_18 => ?_) (fun c_18 => ?_)
          · refine wp_iload_n (pc := 74) (i := 3) dX6_winsNow_74 rfl rfl ?_
            refine wp_zreturn (pc := 75) dX6_winsNow_75 rfl (by first | exact bI_narrow _ | exact nI_narrow01 (by omega) | decide +kernel | assumption) ?_
            exact iq_i ⟨rfl, hfr, rfl⟩
          · exact Bool.noConfusion c_18
  have hli := sp_X6_list (d := d) (J := J) hP.1 hP.2.2 hB (show k < 4 by omega)
  refine call_of_wp (by decide) (Nat.le_of_ble_eq_true rfl) ?_
  refine wp_aload_n (pc := 0) (i := 0) dX6_winsNow_0 rfl rfl (by first | with_reducible assumption | rfl) ?_
  refine wp_iload_n (pc := 1) (i := 1) dX6_winsNow_1 rfl rfl ?_
  refine wp_cVI1 (pc := 2) (ci := 6) dX6_winsNow_2 lm_X6_130 m_X6_list (by first | with_reducible assumption | rfl) (by first | with_reducible assumption | rfl) (by decide) rfl (Nat.le_of_ble_eq_true rfl) hli (fun x_2 I_2 J_2 h_2 => ?_)
  obtain ⟨rfl, q1, q2, rfl⟩ := h_2
  refine wp_istore_n (pc := 5) (i := 2) dX6_winsNow_5 rfl (by decide) ?_
  refine wp_iconst (pc := 6) (v := nI 0) dX6_winsNow_6 (by decide +kernel) ?_
  refine wp_istore_n (pc := 7) (i := 3) dX6_winsNow_7 rfl (by decide) ?_
  refine wp_iconst (pc := 8) (v := nI 0) dX6_winsNow_8 (by decide +kernel) ?_
  refine wp_istore (pc := 9) dX6_winsNow_9 (by decide) ?_
  exact loop (PLY w h c).length 0 _ rfl (LsT_W q1) q1.1
set_option maxHeartbeats 16000000 in
theorem sp_X6_isDone {k : Nat} {c : Bd} (hk : k ≤ 1) (hl9 : last < 10) (hP : PV w h last k c I) (hB : Bok (w * h) c) : CALL ΩM (d + 8) kX6_isDone [.ref 0, .int (nI k)] I J (IQ (fun x I' J' => x = bI (idM w h last c) ∧ FI (frW k) I I' ∧ J' = J)) := by
  have hlen := PLY_len (w := w) (h := h) hB.2.2.2.1
  have loop : ∀ m j (I2 : MemI), m + j = (PLY w h c).length → FI (frW k) I I2 → (∀ j, j < (PLY w h c).length → I2 6 (256 * k + j) = nI (encM ((PLY w h c).getD j 0))) → WP ΩM (d + 8) kX6_isDone 11 [(0, .ref 0), (1, .int (nI k)), (2, .int (nI (PLY w h c).length)), (3, .int (bI (((PLY w h c).take j).all (dnP w h last c)))), (4, .int (nI j))] [] I2 J (IQ (fun x I' J' => x = bI (idM w h last c) ∧ FI (frW k) I I' ∧ J' = J)) := by
    intro m
    induction m with
    | zero =>
      intro j I2 hj hfr h6
      have hj' : j = (PLY w h c).length := (Nat.zero_add j).symm.trans hj
      rw [hj', List.take_length]
      refine wp_iload (pc := 11) dX6_isDone_11 rfl ?_
      refine wp_iload_n (pc := 13) (i := 2) dX6_isDone_13 rfl rfl ?_
      first | (refine wp_icmp_geN (pc := 14) (tgt := 78) dX6_isDone_14 (by decide) (by first | with_reducible assumption | omega) (by first | with_reducible assumption | omega) (fun c_14 => ?_) (fun c_14 => ?_)) | (refine wp_icmp_ge (pc := 14) (tgt := 78) dX6_isDone_14 (by decide) (fun c_14 => ?_) (fun c_14 => ?_))
      · refine wp_iload_n (pc := 78) (i := 3) dX6_isDone_78 rfl rfl ?_
        refine wp_zreturn (pc := 79) dX6_isDone_79 rfl (by first | exact bI_narrow _ | exact nI_narrow01 (by omega) | decide +kernel | assumption) ?_
        exact iq_i ⟨rfl, hfr, rfl⟩
      · exact absurd (Nat.le_refl _) c_14
    | succ m ih =>
      intro j I2 hj hfr h6
      have hjl : j < (PLY w h c).length := by omega
      have h0 := fun I4 => ih (j + 1) I4 (by omega)
      rw [all_take hjl] at h0
      clear ih
      cases hv : ((PLY w h c).take j).all (dnP w h last c)
      · have e : idM w h last c = false := all_up hv
        rw [e]
        refine wp_iload (pc := 11) dX6_isDone_11 rfl ?_
        refine wp_iload_n (pc := 13) (i := 2) dX6_isDone_13 rfl rfl ?_
        first | (refine wp_icmp_geN (pc := 14) (tgt := 78) dX6_isDone_14 (by decide) (by first | with_reducible assumption | omega) (by first | with_reducible assumption | omega) (fun c_14 => ?_) (fun c_14 => ?_)) | (refine wp_icmp_ge (pc := 14) (tgt := 78) dX6_isDone_14 (by decide) (fun c_14 => ?_) (fun c_14 => ?_))
        · exact absurd c_14 (by omega)
        · refine wp_iload_n (pc := 17) (i := 3) dX6_isDone_17 rfl rfl ?_
          refine wp_if_eqB (pc := 18) (tgt := 78) dX6_isDone_18 (by decide) (fun c_18 => ?_) (fun c_18 => ?_)
          · refine wp_iload_n (pc := 78) (i := 3) dX6_isDone_78 rfl rfl ?_
            refine wp_zreturn (pc := 79) dX6_isDone_79 rfl (by first | exact bI_narrow _ | exact nI_narrow01 (by omega) | decide +kernel | assumption) ?_
            exact iq_i ⟨rfl, hfr, rfl⟩
          · exact Bool.noConfusion c_18
      · rw [hv, Bool.true_and] at h0
        have hP2 := PV_fr (by omega) hP hfr
        have hl := (PLY_mem hB.1 (PLY_get hjl)).1
        have hok := PLY_ok hB (PLY_get hjl)
        have hlg := okP_leg hok
        have hB2 := Bok_mk hB hlg.1 hlg.2 hl9
        have hmk := sp_X6_make (d := d + 4) (J := J) hP2.1 hP2.2.1 hP2.2.2 hB hl hok (show k < 4 by omega) (show k + 1 < 4 by omega)
        have h6j := h6 j hjl
        have hle := lsI_9 hB2.2.2.2.2.1
        have eD : dnP w h last c ((PLY w h c).getD j 0) = (decide ((mkB last c ((PLY w h c).getD j 0)).2.2.2 = 2) && wnM w h last (mkB last c ((PLY w h c).getD j 0))) := rfl
        rw [eD] at h0
        clear eD
        generalize (PLY w h c).getD j 0 = x at *
        cases hw : wnM w h last (mkB last c x)
        · rw [hw, Bool.and_false, bI_f] at h0
          refine wp_iload (pc := 11) dX6_isDone_11 rfl ?_
          refine wp_iload_n (pc := 13) (i := 2) dX6_isDone_13 rfl rfl ?_
          first | (refine wp_icmp_geN (pc := 14) (tgt := 78) dX6_isDone_14 (by decide) (by first | with_reducible assumption | omega) (by first | with_reducible assumption | omega) (fun c_14 => ?_) (fun c_14 => ?_)) | (refine wp_icmp_ge (pc := 14) (tgt := 78) dX6_isDone_14 (by decide) (fun c_14 => ?_) (fun c_14 => ?_))
          · exact absurd c_14 (by omega)
          · refine wp_iload_n (pc := 17) (i := 3) dX6_isDone_17 rfl rfl ?_
            refine wp_if_eqB (pc := 18) (tgt := 78) dX6_isDone_18 (by decide) (fun c_18 => ?_) (fun c_18 => ?_)
            · exact Bool.noConfusion c_18
            · refine wp_aload_n (pc := 21) (i := 0) dX6_isDone_21 rfl rfl (by first | with_reducible assumption | rfl) ?_
              refine wp_iload_n (pc := 22) (i := 1) dX6_isDone_22 rfl rfl ?_
              refine wp_iload_n (pc := 23) (i := 1) dX6_isDone_23 rfl rfl ?_
              refine wp_iconst (pc := 24) (v := nI 1) dX6_isDone_24 (by decide +kernel) ?_
              first | (refine wp_iaddN (pc := 25) dX6_isDone_25 ?_) | (refine wp_iadd (pc := 25) dX6_isDone_25 ?_)
              refine wp_aload_n (pc := 26) (i := 0) dX6_isDone_26 rfl rfl (by first | with_reducible assumption | rfl) ?_
              refine wp_getR (pc := 27) dX6_isDone_27 lf_X6_25 (by first | with_reducible assumption | rfl) (by first | with_reducible assumption | rfl) rfl (by first | with_reducible assumption | rfl) (by first | with_reducible assumption | rfl) ?_
              refine wp_sipush (pc := 30) (v := nI 256) dX6_isDone_30 (by decide +kernel) ?_
              refine wp_iload_n (pc := 33) (i := 1) dX6_isDone_33 rfl rfl ?_
              first | (refine wp_imulN (pc := 34) dX6_isDone_34 ?_) | (refine wp_imul (pc := 34) dX6_isDone_34 ?_)
              refine wp_iload (pc := 35) dX6_isDone_35 rfl ?_
              first | (refine wp_iaddN (pc := 37) dX6_isDone_37 ?_) | (refine wp_iadd (pc := 37) dX6_isDone_37 ?_)
              refine wp_iald (pc := 38) dX6_isDone_38 (by first | with_reducible assumption | rfl) (by first | with_reducible assumption | rfl) (by first | with_reducible assumption | omega) (by first | decide | omega) ?_
              rw [h6j]
              refine wp_cVI3 (pc := 39) (ci := 6) dX6_isDone_39 lm_X6_143 m_X6_make (by first | with_reducible assumption | rfl) (by first | with_reducible assumption | rfl) (by decide) rfl (Nat.le_of_ble_eq_true rfl) hmk (fun x_39 I_39 J_39 h_39 => ?_)
              obtain ⟨-, m2, m3, rfl⟩ := h_39
              have hP3 := PV_fr (by omega) hP2 (FM_W m3)
              have e4 := m2.2.2
              have hwn := sp_X6_winsNow (d := d) (J := J_39) (k := k + 1) (by omega) hl9 ⟨hP3.1, hP3.2.1, m2⟩ hB2
              rw [hw] at hwn
              refine wp_pop (pc := 42) dX6_isDone_42 rfl ?_
              refine wp_aload_n (pc := 43) (i := 0) dX6_isDone_43 rfl rfl (by first | with_reducible assumption | rfl) ?_
              refine wp_getR (pc := 44) dX6_isDone_44 lf_X6_19 (by first | with_reducible assumption | rfl) (by first | with_reducible assumption | rfl) rfl (by first | with_reducible assumption | rfl) (by first | with_reducible assumption | rfl) ?_
              refine wp_iload_n (pc := 47) (i := 1) dX6_isDone_47 rfl rfl ?_
              refine wp_iconst (pc := 48) (v := nI 1) dX6_isDone_48 (by decide +kernel) ?_
              first | (refine wp_iaddN (pc := 49) dX6_isDone_49 ?_) | (refine wp_iadd (pc := 49) dX6_isDone_49 ?_)
              refine wp_iald (pc := 50) dX6_isDone_50 (by first | with_reducible assumption | rfl) (by first | with_reducible assumption | rfl) (by first | with_reducible assumption | omega) (by first | decide | omega) ?_
              rw [e4]
              refine wp_bipush (pc := 51) (v := (-9)) dX6_isDone_51 (by decide +kernel) ?_
              refine wp_icmp_ne (pc := 53) (tgt := 70) dX6_isDone_53 (by decide) (fun c_53 => ?_) (fun c_53 => ?_)
              · refine wp_iconst (pc := 70) (v := nI 0) dX6_isDone_70 (by decide +kernel) ?_
                refine wp_istore_n (pc := 71) (i := 3) dX6_isDone_71 rfl (by decide) ?_
                first | (refine wp_iincN (pc := 72) (m := 1) dX6_isDone_72 rfl rfl (by decide) ?_) | (refine wp_iinc (pc := 72) dX6_isDone_72 rfl rfl (by decide) ?_)
                refine wp_goto (pc := 75) (tgt := 11) dX6_isDone_75 (by decide) ?_
                first
                  | exact h0 _ ((hfr.trans (FM_W m3)).trans (m5.mono (fun _ _ y => frW_s y))) (fun i hi => (m5 6 (256 * k + i) (by unfold frW; omega)).trans ((m3 6 (256 * k + i) (by omega) (by omega)).trans (h6 i hi)))
                  | exact h0 _ (hfr.trans (FM_W m3)) (fun i hi => (m3 6 (256 * k + i) (by omega) (by omega)).trans (h6 i hi))
              · refine wp_aload_n (pc := 56) (i := 0) dX6_isDone_56 rfl rfl (by first | with_reducible assumption | rfl) ?_
                refine wp_iload_n (pc := 57) (i := 1) dX6_isDone_57 rfl rfl ?_
                refine wp_iconst (pc := 58) (v := nI 1) dX6_isDone_58 (by decide +kernel) ?_
                first | (refine wp_iaddN (pc := 59) dX6_isDone_59 ?_) | (refine wp_iadd (pc := 59) dX6_isDone_59 ?_)
                refine wp_cVI1 (pc := 60) (ci := 6) dX6_isDone_60 lm_X6_151 m_X6_winsNow (by first | with_reducible assumption | rfl) (by first | with_reducible assumption | rfl) (by decide) rfl (Nat.le_of_ble_eq_true rfl) hwn (fun x_60 I_60 J_60 h_60 => ?_)
                obtain ⟨rfl, m5, rfl⟩ := h_60
                refine wp_if_eqB (pc := 63) (tgt := 70) dX6_isDone_63 (by decide) (fun c_63 => ?_) (fun c_63 => ?_)
                · refine wp_iconst (pc := 70) (v := nI 0) dX6_isDone_70 (by decide +kernel) ?_
                  refine wp_istore_n (pc := 71) (i := 3) dX6_isDone_71 rfl (by decide) ?_
                  first | (refine wp_iincN (pc := 72) (m := 1) dX6_isDone_72 rfl rfl (by decide) ?_) | (refine wp_iinc (pc := 72) dX6_isDone_72 rfl rfl (by decide) ?_)
                  refine wp_goto (pc := 75) (tgt := 11) dX6_isDone_75 (by decide) ?_
                  first
                    | exact h0 _ ((hfr.trans (FM_W m3)).trans (m5.mono (fun _ _ y => frW_s y))) (fun i hi => (m5 6 (256 * k + i) (by unfold frW; omega)).trans ((m3 6 (256 * k + i) (by omega) (by omega)).trans (h6 i hi)))
                    | exact h0 _ (hfr.trans (FM_W m3)) (fun i hi => (m3 6 (256 * k + i) (by omega) (by omega)).trans (h6 i hi))
                · exact Bool.noConfusion c_63
        · rw [hw, Bool.and_true] at h0
          refine wp_iload (pc := 11) dX6_isDone_11 rfl ?_
          refine wp_iload_n (pc := 13) (i := 2) dX6_isDone_13 rfl rfl ?_
          first | (refine wp_icmp_geN (pc := 14) (tgt := 78) dX6_isDone_14 (by decide) (by first | with_reducible assumption | omega) (by first | with_reducible assumption | omega) (fun c_14 => ?_) (fun c_14 => ?_)) | (refine wp_icmp_ge (pc := 14) (tgt := 78) dX6_isDone_14 (by decide) (fun c_14 => ?_) (fun c_14 => ?_))
          · exact absurd c_14 (by omega)
          · refine wp_iload_n (pc := 17) (i := 3) dX6_isDone_17 rfl rfl ?_
            refine wp_if_eqB (pc := 18) (tgt := 78) dX6_isDone_18 (by decide) (fun c_18 => ?_) (fun c_18 => ?_)
            · exact Bool.noConfusion c_18
            · refine wp_aload_n (pc := 21) (i := 0) dX6_isDone_21 rfl rfl (by first | with_reducible assumption | rfl) ?_
              refine wp_iload_n (pc := 22) (i := 1) dX6_isDone_22 rfl rfl ?_
              refine wp_iload_n (pc := 23) (i := 1) dX6_isDone_23 rfl rfl ?_
              refine wp_iconst (pc := 24) (v := nI 1) dX6_isDone_24 (by decide +kernel) ?_
              first | (refine wp_iaddN (pc := 25) dX6_isDone_25 ?_) | (refine wp_iadd (pc := 25) dX6_isDone_25 ?_)
              refine wp_aload_n (pc := 26) (i := 0) dX6_isDone_26 rfl rfl (by first | with_reducible assumption | rfl) ?_
              refine wp_getR (pc := 27) dX6_isDone_27 lf_X6_25 (by first | with_reducible assumption | rfl) (by first | with_reducible assumption | rfl) rfl (by first | with_reducible assumption | rfl) (by first | with_reducible assumption | rfl) ?_
              refine wp_sipush (pc := 30) (v := nI 256) dX6_isDone_30 (by decide +kernel) ?_
              refine wp_iload_n (pc := 33) (i := 1) dX6_isDone_33 rfl rfl ?_
              first | (refine wp_imulN (pc := 34) dX6_isDone_34 ?_) | (refine wp_imul (pc := 34) dX6_isDone_34 ?_)
              refine wp_iload (pc := 35) dX6_isDone_35 rfl ?_
              first | (refine wp_iaddN (pc := 37) dX6_isDone_37 ?_) | (refine wp_iadd (pc := 37) dX6_isDone_37 ?_)
              refine wp_iald (pc := 38) dX6_isDone_38 (by first | with_reducible assumption | rfl) (by first | with_reducible assumption | rfl) (by first | with_reducible assumption | omega) (by first | decide | omega) ?_
              rw [h6j]
              refine wp_cVI3 (pc := 39) (ci := 6) dX6_isDone_39 lm_X6_143 m_X6_make (by first | with_reducible assumption | rfl) (by first | with_reducible assumption | rfl) (by decide) rfl (Nat.le_of_ble_eq_true rfl) hmk (fun x_39 I_39 J_39 h_39 => ?_)
              obtain ⟨-, m2, m3, rfl⟩ := h_39
              have hP3 := PV_fr (by omega) hP2 (FM_W m3)
              have e4 := m2.2.2
              have hwn := sp_X6_winsNow (d := d) (J := J_39) (k := k + 1) (by omega) hl9 ⟨hP3.1, hP3.2.1, m2⟩ hB2
              rw [hw] at hwn
              refine wp_pop (pc := 42) dX6_isDone_42 rfl ?_
              refine wp_aload_n (pc := 43) (i := 0) dX6_isDone_43 rfl rfl (by first | with_reducible assumption | rfl) ?_
              refine wp_getR (pc := 44) dX6_isDone_44 lf_X6_19 (by first | with_reducible assumption | rfl) (by first | with_reducible assumption | rfl) rfl (by first | with_reducible assumption | rfl) (by first | with_reducible assumption | rfl) ?_
              refine wp_iload_n (pc := 47) (i := 1) dX6_isDone_47 rfl rfl ?_
              refine wp_iconst (pc := 48) (v := nI 1) dX6_isDone_48 (by decide +kernel) ?_
              first | (refine wp_iaddN (pc := 49) dX6_isDone_49 ?_) | (refine wp_iadd (pc := 49) dX6_isDone_49 ?_)
              refine wp_iald (pc := 50) dX6_isDone_50 (by first | with_reducible assumption | rfl) (by first | with_reducible assumption | rfl) (by first | with_reducible assumption | omega) (by first | decide | omega) ?_
              rw [e4]
              refine wp_bipush (pc := 51) (v := (-9)) dX6_isDone_51 (by decide +kernel) ?_
              refine wp_icmp_ne (pc := 53) (tgt := 70) dX6_isDone_53 (by decide) (fun c_53 => ?_) (fun c_53 => ?_)
              · refine wp_iconst (pc := 70) (v := nI 0) dX6_isDone_70 (by decide +kernel) ?_
                refine wp_istore_n (pc := 71) (i := 3) dX6_isDone_71 rfl (by decide) ?_
                first | (refine wp_iincN (pc := 72) (m := 1) dX6_isDone_72 rfl rfl (by decide) ?_) | (refine wp_iinc (pc := 72) dX6_isDone_72 rfl rfl (by decide) ?_)
                refine wp_goto (pc := 75) (tgt := 11) dX6_isDone_75 (by decide) ?_
                first
                  | (have g := hle.mp c_53; rw [decide_eq_true g, bI_t] at h0; exact h0 _ ((hfr.trans (FM_W m3)).trans (m5.mono (fun _ _ y => frW_s y))) (fun i hi => (m5 6 (256 * k + i) (by unfold frW; omega)).trans ((m3 6 (256 * k + i) (by omega) (by omega)).trans (h6 i hi))))
                  | (have g : ¬ _ = _ := c_53; rw [decide_eq_false (fun y => g (hle.mpr y)), bI_f] at h0; exact h0 _ (hfr.trans (FM_W m3)) (fun i hi => (m3 6 (256 * k + i) (by omega) (by omega)).trans (h6 i hi)))
              · refine wp_aload_n (pc := 56) (i := 0) dX6_isDone_56 rfl rfl (by first | with_reducible assumption | rfl) ?_
                refine wp_iload_n (pc := 57) (i := 1) dX6_isDone_57 rfl rfl ?_
                refine wp_iconst (pc := 58) (v := nI 1) dX6_isDone_58 (by decide +kernel) ?_
                first | (refine wp_iaddN (pc := 59) dX6_isDone_59 ?_) | (refine wp_iadd (pc := 59) dX6_isDone_59 ?_)
                refine wp_cVI1 (pc := 60) (ci := 6) dX6_isDone_60 lm_X6_151 m_X6_winsNow (by first | with_reducible assumption | rfl) (by first | with_reducible assumption | rfl) (by decide) rfl (Nat.le_of_ble_eq_true rfl) hwn (fun x_60 I_60 J_60 h_60 => ?_)
                obtain ⟨rfl, m5, rfl⟩ := h_60
                refine wp_if_eqB (pc := 63) (tgt := 70) dX6_isDone_63 (by decide) (fun c_63 => ?_) (fun c_63 => ?_)
                · exact Bool.noConfusion c_63
                · refine wp_iconst (pc := 66) (v := nI 1) dX6_isDone_66 (by decide +kernel) ?_
                  refine wp_goto (pc := 67) (tgt := 71) dX6_isDone_67 (by decide) ?_
                  refine wp_istore_n (pc := 71) (i := 3) dX6_isDone_71 rfl (by decide) ?_
                  first | (refine wp_iincN (pc := 72) (m := 1) dX6_isDone_72 rfl rfl (by decide) ?_) | (refine wp_iinc (pc := 72) dX6_isDone_72 rfl rfl (by decide) ?_)
                  refine wp_goto (pc := 75) (tgt := 11) dX6_isDone_75 (by decide) ?_
                  first
                    | (have g := hle.mp c_53; rw [decide_eq_true g, bI_t] at h0; exact h0 _ ((hfr.trans (FM_W m3)).trans (m5.mono (fun _ _ y => frW_s y))) (fun i hi => (m5 6 (256 * k + i) (by unfold frW; omega)).trans ((m3 6 (256 * k + i) (by omega) (by omega)).trans (h6 i hi))))
                    | (have g : ¬ _ = _ := c_53; rw [decide_eq_false (fun y => g (hle.mpr y)), bI_f] at h0; exact h0 _ (hfr.trans (FM_W m3)) (fun i hi => (m3 6 (256 * k + i) (by omega) (by omega)).trans (h6 i hi)))
  have hli := sp_X6_list (d := d + 1) (J := J) hP.1 hP.2.2 hB (show k < 4 by omega)
  refine call_of_wp (by decide) (Nat.le_of_ble_eq_true rfl) ?_
  refine wp_aload_n (pc := 0) (i := 0) dX6_isDone_0 rfl rfl (by first | with_reducible assumption | rfl) ?_
  refine wp_iload_n (pc := 1) (i := 1) dX6_isDone_1 rfl rfl ?_
  refine wp_cVI1 (pc := 2) (ci := 6) dX6_isDone_2 lm_X6_130 m_X6_list (by first | with_reducible assumption | rfl) (by first | with_reducible assumption | rfl) (by decide) rfl (Nat.le_of_ble_eq_true rfl) hli (fun x_2 I_2 J_2 h_2 => ?_)
  obtain ⟨rfl, q1, q2, rfl⟩ := h_2
  refine wp_istore_n (pc := 5) (i := 2) dX6_isDone_5 rfl (by decide) ?_
  refine wp_iconst (pc := 6) (v := nI 1) dX6_isDone_6 (by decide +kernel) ?_
  refine wp_istore_n (pc := 7) (i := 3) dX6_isDone_7 rfl (by decide) ?_
  refine wp_iconst (pc := 8) (v := nI 0) dX6_isDone_8 (by decide +kernel) ?_
  refine wp_istore (pc := 9) dX6_isDone_9 (by decide) ?_
  exact loop (PLY w h c).length 0 _ rfl (LsT_W q1) q1.1
set_option maxHeartbeats 16000000 in
theorem sp_X6_isKey {j n x : Nat} (hl9 : last < 10) (hP : PV w h last 0 b I) (hB : Bok (w * h) b) (hl : b.2.2.2 = 2) (hok : okP (w * h) b x) (hj : j < 64) (h6 : I 6 j = nI (encM x)) (hn : n < 100) : CALL ΩM (d + 9) kX6_isKey [.ref 0, .int (nI j), .int (nI n)] I J (IQ (fun r I' J' => r = bI (kyP w h last n b x) ∧ FI (frW 0) I I' ∧ (∀ i, i < 256 → I' 6 i = I 6 i) ∧ J' = J)) := by
  have hlg := okP_leg hok
  have hB2 := Bok_mk hB hlg.1 hlg.2 hl9
  have hmk := sp_X6_make (d := d + 5) (J := J) hP.1 hP.2.1 hP.2.2 hB hl hok (show 0 < 4 by omega) (show 1 < 4 by omega)
  have hle := lsI_eq hB2.2.2.2.2.1 hB2.2.2.2.1
  have hle9 := lsI_9 hB2.2.2.2.2.1
  have eK : kyP w h last n b x = (feP last b x || (decide (2 < n) && (decide ((mkB last b x).2.2.2 = 2) && idM w h last (mkB last b x)))) := rfl
  have f1 : ∀ {I2 : MemI}, FM (0 + 1) I I2 → ∀ i, i < 256 → I2 6 i = I 6 i := fun hm i hi => hm 6 i (by omega) (by omega)
  rw [eK]
  cases hw : idM w h last (mkB last b x)
  · refine call_of_wp (by decide) (Nat.le_of_ble_eq_true rfl) ?_
    refine wp_aload_n (pc := 0) (i := 0) dX6_isKey_0 rfl rfl (by first | with_reducible assumption | rfl) ?_
    refine wp_iconst (pc := 1) (v := nI 0) dX6_isKey_1 (by decide +kernel) ?_
    refine wp_iconst (pc := 2) (v := nI 1) dX6_isKey_2 (by decide +kernel) ?_
    refine wp_aload_n (pc := 3) (i := 0) dX6_isKey_3 rfl rfl (by first | with_reducible assumption | rfl) ?_
    refine wp_getR (pc := 4) dX6_isKey_4 lf_X6_25 (by first | with_reducible assumption | rfl) (by first | with_reducible assumption | rfl) rfl (by first | with_reducible assumption | rfl) (by first | with_reducible assumption | rfl) ?_
    refine wp_iload_n (pc := 7) (i := 1) dX6_isKey_7 rfl rfl ?_
    refine wp_iald (pc := 8) dX6_isKey_8 (by first | with_reducible assumption | rfl) (by first | with_reducible assumption | rfl) (by first | with_reducible assumption | omega) (by first | decide | omega) ?_
    rw [h6]
    refine wp_cVI3 (pc := 9) (ci := 6) dX6_isKey_9 lm_X6_143 m_X6_make (by first | with_reducible assumption | rfl) (by first | with_reducible assumption | rfl) (by decide) rfl (Nat.le_of_ble_eq_true rfl) hmk (fun x_9 I_9 J_9 h_9 => ?_)
    obtain ⟨-, m2, m3, rfl⟩ := h_9
    have hP3 := PV_fr (by omega) hP (FM_W m3)
    have e4 := m2.2.2
    have e3 := m2.2.1
    have hdn := sp_X6_isDone (d := d) (J := J_9) (k := 1) (by omega) hl9 ⟨hP3.1, hP3.2.1, m2⟩ hB2
    rw [hw] at hdn
    refine wp_pop (pc := 12) dX6_isKey_12 rfl ?_
    refine wp_aload_n (pc := 13) (i := 0) dX6_isKey_13 rfl rfl (by first | with_reducible assumption | rfl) ?_
    refine wp_getR (pc := 14) dX6_isKey_14 lf_X6_19 (by first | with_reducible assumption | rfl) (by first | with_reducible assumption | rfl) rfl (by first | with_reducible assumption | rfl) (by first | with_reducible assumption | rfl) ?_
    refine wp_iconst (pc := 17) (v := nI 1) dX6_isKey_17 (by decide +kernel) ?_
    refine wp_iald (pc := 18) dX6_isKey_18 (by first | with_reducible assumption | rfl) (by first | with_reducible assumption | rfl) (by first | with_reducible assumption | omega) (by first | decide | omega) ?_
    rw [e4]
    refine wp_aload_n (pc := 19) (i := 0) dX6_isKey_19 rfl rfl (by first | with_reducible assumption | rfl) ?_
    refine wp_getR (pc := 20) dX6_isKey_20 lf_X6_16 (by first | with_reducible assumption | rfl) (by first | with_reducible assumption | rfl) rfl (by first | with_reducible assumption | rfl) (by first | with_reducible assumption | rfl) ?_
    refine wp_iconst (pc := 23) (v := nI 1) dX6_isKey_23 (by decide +kernel) ?_
    refine wp_iald (pc := 24) dX6_isKey_24 (by first | with_reducible assumption | rfl) (by first | with_reducible assumption | rfl) (by first | with_reducible assumption | omega) (by first | decide | omega) ?_
    rw [e3]
    refine wp_icmp_eq (pc := 25) (tgt := 52) dX6_isKey_25 (by decide) (fun c_25 => ?_) (fun c_25 => ?_)
    · refine wp_iconst (pc := 52) (v := nI 1) dX6_isKey_52 (by decide +kernel) ?_
      refine wp_goto (pc := 53) (tgt := 57) dX6_isKey_53 (by decide) ?_
      refine wp_zreturn (pc := 57) dX6_isKey_57 rfl (by first | exact bI_narrow _ | exact nI_narrow01 (by omega) | decide +kernel | assumption) ?_
      first
        | (have g := hle.mp c_25; exact iq_i ⟨by rw [show feP last b x = true from decide_eq_true g]; rfl, FM_W m3, f1 m3, rfl⟩)
        | (have g : ¬ _ = _ := c_25; exact iq_i ⟨by rw [show feP last b x = false from decide_eq_false (fun y => g (hle.mpr y)), Bool.and_false, Bool.and_false]; rfl, (FM_W m3).trans (m5.mono (fun _ _ y => frW_s y)), fun i hi => (m5 6 i (by unfold frW; omega)).trans (f1 m3 i hi), rfl⟩)
        | (have g : ¬ _ = _ := c_25; exact iq_i ⟨by rw [show feP last b x = false from decide_eq_false (fun y => g (hle.mpr y)), Bool.and_false, Bool.and_false]; rfl, FM_W m3, f1 m3, rfl⟩)
    · refine wp_iload_n (pc := 28) (i := 2) dX6_isKey_28 rfl rfl ?_
      refine wp_iconst (pc := 29) (v := nI 2) dX6_isKey_29 (by decide +kernel) ?_
      first | (refine wp_icmp_leN (pc := 30) (tgt := 56) dX6_isKey_30 (by decide) (by first | with_reducible assumption | omega) (by first | with_reducible assumption | omega) (fun c_30 => ?_) (fun c_30 => ?_)) | (refine wp_icmp_le (pc := 30) (tgt := 56) dX6_isKey_30 (by decide) (fun c_30 => ?_) (fun c_30 => ?_))
      · refine wp_iconst (pc := 56) (v := nI 0) dX6_isKey_56 (by decide +kernel) ?_
        refine wp_zreturn (pc := 57) dX6_isKey_57 rfl (by first | exact bI_narrow _ | exact nI_narrow01 (by omega) | decide +kernel | assumption) ?_
        first
          | (have g := hle.mp c_25; exact iq_i ⟨by rw [show feP last b x = true from decide_eq_true g]; rfl, FM_W m3, f1 m3, rfl⟩)
          | (have g : ¬ _ = _ := c_25; exact iq_i ⟨by rw [show feP last b x = false from decide_eq_false (fun y => g (hle.mpr y)), Bool.and_false, Bool.and_false]; rfl, (FM_W m3).trans (m5.mono (fun _ _ y => frW_s y)), fun i hi => (m5 6 i (by unfold frW; omega)).trans (f1 m3 i hi), rfl⟩)
          | (have g : ¬ _ = _ := c_25; exact iq_i ⟨by rw [show feP last b x = false from decide_eq_false (fun y => g (hle.mpr y)), Bool.and_false, Bool.and_false]; rfl, FM_W m3, f1 m3, rfl⟩)
      · refine wp_aload_n (pc := 33) (i := 0) dX6_isKey_33 rfl rfl (by first | with_reducible assumption | rfl) ?_
        refine wp_getR (pc := 34) dX6_isKey_34 lf_X6_19 (by first | with_reducible assumption | rfl) (by first | with_reducible assumption | rfl) rfl (by first | with_reducible assumption | rfl) (by first | with_reducible assumption | rfl) ?_
        refine wp_iconst (pc := 37) (v := nI 1) dX6_isKey_37 (by decide +kernel) ?_
        refine wp_iald (pc := 38) dX6_isKey_38 (by first | with_reducible assumption | rfl) (by first | with_reducible assumption | rfl) (by first | with_reducible assumption | omega) (by first | decide | omega) ?_
        rw [e4]
        refine wp_bipush (pc := 39) (v := (-9)) dX6_isKey_39 (by decide +kernel) ?_
        refine wp_icmp_ne (pc := 41) (tgt := 56) dX6_isKey_41 (by decide) (fun c_41 => ?_) (fun c_41 => ?_)
        · refine wp_iconst (pc := 56) (v := nI 0) dX6_isKey_56 (by decide +kernel) ?_
          refine wp_zreturn (pc := 57) dX6_isKey_57 rfl (by first | exact bI_narrow _ | exact nI_narrow01 (by omega) | decide +kernel | assumption) ?_
          first
            | (have g := hle.mp c_25; exact iq_i ⟨by rw [show feP last b x = true from decide_eq_true g]; rfl, FM_W m3, f1 m3, rfl⟩)
            | (have g : ¬ _ = _ := c_25; exact iq_i ⟨by rw [show feP last b x = false from decide_eq_false (fun y => g (hle.mpr y)), Bool.and_false, Bool.and_false]; rfl, (FM_W m3).trans (m5.mono (fun _ _ y => frW_s y)), fun i hi => (m5 6 i (by unfold frW; omega)).trans (f1 m3 i hi), rfl⟩)
            | (have g : ¬ _ = _ := c_25; exact iq_i ⟨by rw [show feP last b x = false from decide_eq_false (fun y => g (hle.mpr y)), Bool.and_false, Bool.and_false]; rfl, FM_W m3, f1 m3, rfl⟩)
        · refine wp_aload_n (pc := 44) (i := 0) dX6_isKey_44 rfl rfl (by first | with_reducible assumption | rfl) ?_
          refine wp_iconst (pc := 45) (v := nI 1) dX6_isKey_45 (by decide +kernel) ?_
          refine wp_cVI1 (pc := 46) (ci := 6) dX6_isKey_46 lm_X6_154 m_X6_isDone (by first | with_reducible assumption | rfl) (by first | with_reducible assumption | rfl) (by decide) rfl (Nat.le_of_ble_eq_true rfl) hdn (fun x_46 I_46 J_46 h_46 => ?_)
          obtain ⟨rfl, m5, rfl⟩ := h_46
          refine wp_if_eqB (pc := 49) (tgt := 56) dX6_isKey_49 (by decide) (fun c_49 => ?_) (fun c_49 => ?_)
          · refine wp_iconst (pc := 56) (v := nI 0) dX6_isKey_56 (by decide +kernel) ?_
            refine wp_zreturn (pc := 57) dX6_isKey_57 rfl (by first | exact bI_narrow _ | exact nI_narrow01 (by omega) | decide +kernel | assumption) ?_
            first
              | (have g := hle.mp c_25; exact iq_i ⟨by rw [show feP last b x = true from decide_eq_true g]; rfl, FM_W m3, f1 m3, rfl⟩)
              | (have g : ¬ _ = _ := c_25; exact iq_i ⟨by rw [show feP last b x = false from decide_eq_false (fun y => g (hle.mpr y)), Bool.and_false, Bool.and_false]; rfl, (FM_W m3).trans (m5.mono (fun _ _ y => frW_s y)), fun i hi => (m5 6 i (by unfold frW; omega)).trans (f1 m3 i hi), rfl⟩)
              | (have g : ¬ _ = _ := c_25; exact iq_i ⟨by rw [show feP last b x = false from decide_eq_false (fun y => g (hle.mpr y)), Bool.and_false, Bool.and_false]; rfl, FM_W m3, f1 m3, rfl⟩)
          · exact Bool.noConfusion c_49
  · refine call_of_wp (by decide) (Nat.le_of_ble_eq_true rfl) ?_
    refine wp_aload_n (pc := 0) (i := 0) dX6_isKey_0 rfl rfl (by first | with_reducible assumption | rfl) ?_
    refine wp_iconst (pc := 1) (v := nI 0) dX6_isKey_1 (by decide +kernel) ?_
    refine wp_iconst (pc := 2) (v := nI 1) dX6_isKey_2 (by decide +kernel) ?_
    refine wp_aload_n (pc := 3) (i := 0) dX6_isKey_3 rfl rfl (by first | with_reducible assumption | rfl) ?_
    refine wp_getR (pc := 4) dX6_isKey_4 lf_X6_25 (by first | with_reducible assumption | rfl) (by first | with_reducible assumption | rfl) rfl (by first | with_reducible assumption | rfl) (by first | with_reducible assumption | rfl) ?_
    refine wp_iload_n (pc := 7) (i := 1) dX6_isKey_7 rfl rfl ?_
    refine wp_iald (pc := 8) dX6_isKey_8 (by first | with_reducible assumption | rfl) (by first | with_reducible assumption | rfl) (by first | with_reducible assumption | omega) (by first | decide | omega) ?_
    rw [h6]
    refine wp_cVI3 (pc := 9) (ci := 6) dX6_isKey_9 lm_X6_143 m_X6_make (by first | with_reducible assumption | rfl) (by first | with_reducible assumption | rfl) (by decide) rfl (Nat.le_of_ble_eq_true rfl) hmk (fun x_9 I_9 J_9 h_9 => ?_)
    obtain ⟨-, m2, m3, rfl⟩ := h_9
    have hP3 := PV_fr (by omega) hP (FM_W m3)
    have e4 := m2.2.2
    have e3 := m2.2.1
    have hdn := sp_X6_isDone (d := d) (J := J_9) (k := 1) (by omega) hl9 ⟨hP3.1, hP3.2.1, m2⟩ hB2
    rw [hw] at hdn
    refine wp_pop (pc := 12) dX6_isKey_12 rfl ?_
    refine wp_aload_n (pc := 13) (i := 0) dX6_isKey_13 rfl rfl (by first | with_reducible assumption | rfl) ?_
    refine wp_getR (pc := 14) dX6_isKey_14 lf_X6_19 (by first | with_reducible assumption | rfl) (by first | with_reducible assumption | rfl) rfl (by first | with_reducible assumption | rfl) (by first | with_reducible assumption | rfl) ?_
    refine wp_iconst (pc := 17) (v := nI 1) dX6_isKey_17 (by decide +kernel) ?_
    refine wp_iald (pc := 18) dX6_isKey_18 (by first | with_reducible assumption | rfl) (by first | with_reducible assumption | rfl) (by first | with_reducible assumption | omega) (by first | decide | omega) ?_
    rw [e4]
    refine wp_aload_n (pc := 19) (i := 0) dX6_isKey_19 rfl rfl (by first | with_reducible assumption | rfl) ?_
    refine wp_getR (pc := 20) dX6_isKey_20 lf_X6_16 (by first | with_reducible assumption | rfl) (by first | with_reducible assumption | rfl) rfl (by first | with_reducible assumption | rfl) (by first | with_reducible assumption | rfl) ?_
    refine wp_iconst (pc := 23) (v := nI 1) dX6_isKey_23 (by decide +kernel) ?_
    refine wp_iald (pc := 24) dX6_isKey_24 (by first | with_reducible assumption | rfl) (by first | with_reducible assumption | rfl) (by first | with_reducible assumption | omega) (by first | decide | omega) ?_
    rw [e3]
    refine wp_icmp_eq (pc := 25) (tgt := 52) dX6_isKey_25 (by decide) (fun c_25 => ?_) (fun c_25 => ?_)
    · refine wp_iconst (pc := 52) (v := nI 1) dX6_isKey_52 (by decide +kernel) ?_
      refine wp_goto (pc := 53) (tgt := 57) dX6_isKey_53 (by decide) ?_
      refine wp_zreturn (pc := 57) dX6_isKey_57 rfl (by first | exact bI_narrow _ | exact nI_narrow01 (by omega) | decide +kernel | assumption) ?_
      first
        | (have g := hle.mp c_25; exact iq_i ⟨by rw [show feP last b x = true from decide_eq_true g]; rfl, FM_W m3, f1 m3, rfl⟩)
        | (have g : ¬ _ = _ := c_25; have g2 := hle9.mp c_41; have g3 : ¬ n ≤ 2 := c_30; exact iq_i ⟨by rw [show feP last b x = false from decide_eq_false (fun y => g (hle.mpr y)), decide_eq_true g2, decide_eq_true (show 2 < n by omega)]; rfl, (FM_W m3).trans (m5.mono (fun _ _ y => frW_s y)), fun i hi => (m5 6 i (by unfold frW; omega)).trans (f1 m3 i hi), rfl⟩)
        | (have g : ¬ _ = _ := c_25; have g2 : ¬ _ = _ := c_41; exact iq_i ⟨by rw [show feP last b x = false from decide_eq_false (fun y => g (hle.mpr y)), decide_eq_false (fun y => g2 (hle9.mpr y)), Bool.false_and, Bool.and_false]; rfl, FM_W m3, f1 m3, rfl⟩)
        | (have g : ¬ _ = _ := c_25; have g3 : n ≤ 2 := c_30; exact iq_i ⟨by rw [show feP last b x = false from decide_eq_false (fun y => g (hle.mpr y)), decide_eq_false (show ¬ 2 < n by omega), Bool.false_and]; rfl, FM_W m3, f1 m3, rfl⟩)
    · refine wp_iload_n (pc := 28) (i := 2) dX6_isKey_28 rfl rfl ?_
      refine wp_iconst (pc := 29) (v := nI 2) dX6_isKey_29 (by decide +kernel) ?_
      first | (refine wp_icmp_leN (pc := 30) (tgt := 56) dX6_isKey_30 (by decide) (by first | with_reducible assumption | omega) (by first | with_reducible assumption | omega) (fun c_30 => ?_) (fun c_30 => ?_)) | (refine wp_icmp_le (pc := 30) (tgt := 56) dX6_isKey_30 (by decide) (fun c_30 => ?_) (fun c_30 => ?_))
      · refine wp_iconst (pc := 56) (v := nI 0) dX6_isKey_56 (by decide +kernel) ?_
        refine wp_zreturn (pc := 57) dX6_isKey_57 rfl (by first | exact bI_narrow _ | exact nI_narrow01 (by omega) | decide +kernel | assumption) ?_
        first
          | (have g := hle.mp c_25; exact iq_i ⟨by rw [show feP last b x = true from decide_eq_true g]; rfl, FM_W m3, f1 m3, rfl⟩)
          | (have g : ¬ _ = _ := c_25; have g2 := hle9.mp c_41; have g3 : ¬ n ≤ 2 := c_30; exact iq_i ⟨by rw [show feP last b x = false from decide_eq_false (fun y => g (hle.mpr y)), decide_eq_true g2, decide_eq_true (show 2 < n by omega)]; rfl, (FM_W m3).trans (m5.mono (fun _ _ y => frW_s y)), fun i hi => (m5 6 i (by unfold frW; omega)).trans (f1 m3 i hi), rfl⟩)
          | (have g : ¬ _ = _ := c_25; have g2 : ¬ _ = _ := c_41; exact iq_i ⟨by rw [show feP last b x = false from decide_eq_false (fun y => g (hle.mpr y)), decide_eq_false (fun y => g2 (hle9.mpr y)), Bool.false_and, Bool.and_false]; rfl, FM_W m3, f1 m3, rfl⟩)
          | (have g : ¬ _ = _ := c_25; have g3 : n ≤ 2 := c_30; exact iq_i ⟨by rw [show feP last b x = false from decide_eq_false (fun y => g (hle.mpr y)), decide_eq_false (show ¬ 2 < n by omega), Bool.false_and]; rfl, FM_W m3, f1 m3, rfl⟩)
      · refine wp_aload_n (pc := 33) (i := 0) dX6_isKey_33 rfl rfl (by first | with_reducible assumption | rfl) ?_
        refine wp_getR (pc := 34) dX6_isKey_34 lf_X6_19 (by first | with_reducible assumption | rfl) (by first | with_reducible assumption | rfl) rfl (by first | with_reducible assumption | rfl) (by first | with_reducible assumption | rfl) ?_
        refine wp_iconst (pc := 37) (v := nI 1) dX6_isKey_37 (by decide +kernel) ?_
        refine wp_iald (pc := 38) dX6_isKey_38 (by first | with_reducible assumption | rfl) (by first | with_reducible assumption | rfl) (by first | with_reducible assumption | omega) (by first | decide | omega) ?_
        rw [e4]
        refine wp_bipush (pc := 39) (v := (-9)) dX6_isKey_39 (by decide +kernel) ?_
        refine wp_icmp_ne (pc := 41) (tgt := 56) dX6_isKey_41 (by decide) (fun c_41 => ?_) (fun c_41 => ?_)
        · refine wp_iconst (pc := 56) (v := nI 0) dX6_isKey_56 (by decide +kernel) ?_
          refine wp_zreturn (pc := 57) dX6_isKey_57 rfl (by first | exact bI_narrow _ | exact nI_narrow01 (by omega) | decide +kernel | assumption) ?_
          first
            | (have g := hle.mp c_25; exact iq_i ⟨by rw [show feP last b x = true from decide_eq_true g]; rfl, FM_W m3, f1 m3, rfl⟩)
            | (have g : ¬ _ = _ := c_25; have g2 := hle9.mp c_41; have g3 : ¬ n ≤ 2 := c_30; exact iq_i ⟨by rw [show feP last b x = false from decide_eq_false (fun y => g (hle.mpr y)), decide_eq_true g2, decide_eq_true (show 2 < n by omega)]; rfl, (FM_W m3).trans (m5.mono (fun _ _ y => frW_s y)), fun i hi => (m5 6 i (by unfold frW; omega)).trans (f1 m3 i hi), rfl⟩)
            | (have g : ¬ _ = _ := c_25; have g2 : ¬ _ = _ := c_41; exact iq_i ⟨by rw [show feP last b x = false from decide_eq_false (fun y => g (hle.mpr y)), decide_eq_false (fun y => g2 (hle9.mpr y)), Bool.false_and, Bool.and_false]; rfl, FM_W m3, f1 m3, rfl⟩)
            | (have g : ¬ _ = _ := c_25; have g3 : n ≤ 2 := c_30; exact iq_i ⟨by rw [show feP last b x = false from decide_eq_false (fun y => g (hle.mpr y)), decide_eq_false (show ¬ 2 < n by omega), Bool.false_and]; rfl, FM_W m3, f1 m3, rfl⟩)
        · refine wp_aload_n (pc := 44) (i := 0) dX6_isKey_44 rfl rfl (by first | with_reducible assumption | rfl) ?_
          refine wp_iconst (pc := 45) (v := nI 1) dX6_isKey_45 (by decide +kernel) ?_
          refine wp_cVI1 (pc := 46) (ci := 6) dX6_isKey_46 lm_X6_154 m_X6_isDone (by first | with_reducible assumption | rfl) (by first | with_reducible assumption | rfl) (by decide) rfl (Nat.le_of_ble_eq_true rfl) hdn (fun x_46 I_46 J_46 h_46 => ?_)
          obtain ⟨rfl, m5, rfl⟩ := h_46
          refine wp_if_eqB (pc := 49) (tgt := 56) dX6_isKey_49 (by decide) (fun c_49 => ?_) (fun c_49 => ?_)
          · exact Bool.noConfusion c_49
          · refine wp_iconst (pc := 52) (v := nI 1) dX6_isKey_52 (by decide +kernel) ?_
            refine wp_goto (pc := 53) (tgt := 57) dX6_isKey_53 (by decide) ?_
            refine wp_zreturn (pc := 57) dX6_isKey_57 rfl (by first | exact bI_narrow _ | exact nI_narrow01 (by omega) | decide +kernel | assumption) ?_
            first
              | (have g := hle.mp c_25; exact iq_i ⟨by rw [show feP last b x = true from decide_eq_true g]; rfl, FM_W m3, f1 m3, rfl⟩)
              | (have g : ¬ _ = _ := c_25; have g2 := hle9.mp c_41; have g3 : ¬ n ≤ 2 := c_30; exact iq_i ⟨by rw [show feP last b x = false from decide_eq_false (fun y => g (hle.mpr y)), decide_eq_true g2, decide_eq_true (show 2 < n by omega)]; rfl, (FM_W m3).trans (m5.mono (fun _ _ y => frW_s y)), fun i hi => (m5 6 i (by unfold frW; omega)).trans (f1 m3 i hi), rfl⟩)
              | (have g : ¬ _ = _ := c_25; have g2 : ¬ _ = _ := c_41; exact iq_i ⟨by rw [show feP last b x = false from decide_eq_false (fun y => g (hle.mpr y)), decide_eq_false (fun y => g2 (hle9.mpr y)), Bool.false_and, Bool.and_false]; rfl, FM_W m3, f1 m3, rfl⟩)
              | (have g : ¬ _ = _ := c_25; have g3 : n ≤ 2 := c_30; exact iq_i ⟨by rw [show feP last b x = false from decide_eq_false (fun y => g (hle.mpr y)), decide_eq_false (show ¬ 2 < n by omega), Bool.false_and]; rfl, FM_W m3, f1 m3, rfl⟩)
end MKE
