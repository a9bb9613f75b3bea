/-! THE REFERENCE: where men aim -/
section MAI
variable {d : Nat} {I : MemI} {J : MemJ}
set_option maxHeartbeats 16000000 in
theorem sp_X6_line {w h k c y : Nat} {b : Bd} {nb : Bool} (hW : WH w h I) (hL : LV (w * h) k b I) (hs : ∀ c, c < 16 → b.1 c < 12) (hk : k < 4) (hc : c < w * h) (hy : y < 8) : CALL ΩM (d + 2) kX6_line [.ref 0, .int (nI k), .int (nI c), .int (zI (dX y)), .int (zI (dY y)), .int (bI nb)] I J (PQ (.int (nI (mset (fun t => ray w h (nfr nb b.1) y 3 (nbr w h c y) t)))) I J) := by
  have n16 := (WH_n hW).2
  have b1 := dX_b y
  have b2 := dY_b y
  have hch := ch_3 w (by have := hW.1; omega) h (by have := hW.1; omega) c (by omega) y hy (decide_eq_true hc)
  have hat := fun c hc => sp_X6_at (d := d) (c := c) (J := J) (x := dX y) (y := dY y) hW hc (by omega) (by omega)
  have loop : ∀ r o (more : Bool) (P : Nat → Bool), chB w h y r o = true → (∀ q, o = some q → q < w * h) → WP ΩM (d + 2) kX6_line 16 [(0, .ref 0), (1, .int (nI k)), (2, .int (nI c)), (3, .int (zI (dX y))), (4, .int (zI (dY y))), (5, .int (bI nb)), (6, .int (nI (mset P))), (7, .int (oc9 o)), (8, .int (bI more))] [] I J (PQ (.int (nI (mset (fun t => P t || (more && ray w h (nfr nb b.1) y r o t))))) I J) := by
    have fin : ∀ o (more : Bool) (P R : Nat → Bool), (∀ q, o = some q → q < w * h) → (o = none ∨ more = false) → (∀ t, (more && R t) = false) → WP ΩM (d + 2) kX6_line 16 [(0, .ref 0), (1, .int (nI k)), (2, .int (nI c)), (3, .int (zI (dX y))), (4, .int (zI (dY y))), (5, .int (bI nb)), (6, .int (nI (mset P))), (7, .int (oc9 o)), (8, .int (bI more))] [] I J (PQ (.int (nI (mset (fun t => P t || (more && R t))))) I J) := by
      intro o more P R ho hor hR
      have e : mset (fun t => P t || (more && R t)) = mset P := mset_eq fun t _ => by rw [hR t, Bool.or_false]
      rw [e]
      cases o with
      | none =>
        show WP ΩM (d + 2) kX6_line 16 [(0, .ref 0), (1, .int (nI k)), (2, .int (nI c)), (3, .int (zI (dX y))), (4, .int (zI (dY y))), (5, .int (bI nb)), (6, .int (nI (mset P))), (7, .int (-9)), (8, .int (bI more))] [] I J _
        refine wp_iload (pc := 16) dX6_line_16 rfl ?_
        refine wp_bipush (pc := 18) (v := (-9)) dX6_line_18 (by decide +kernel) ?_
        refine wp_icmp_eq (pc := 20) (tgt := 62) dX6_line_20 (by decide) (fun c_20 => ?_) (fun c_20 => ?_)
        · refine wp_iload (pc := 62) dX6_line_62 rfl ?_
          refine wp_ireturn (pc := 64) dX6_line_64 rfl ?_
          exact pq_i rfl
        · exact absurd rfl c_20
      | some q =>
        have hq := ho q rfl
        have hm : more = false := hor.resolve_left (fun z => by cases z)
        have hne : ¬ nI q = -9 := fun z => nI_pos (n := q) (by omega) (by rw [z]; decide)
        subst hm
        show WP ΩM (d + 2) kX6_line 16 [(0, .ref 0), (1, .int (nI k)), (2, .int (nI c)), (3, .int (zI (dX y))), (4, .int (zI (dY y))), (5, .int (bI nb)), (6, .int (nI (mset P))), (7, .int (nI q)), (8, .int (bI false))] [] I J _
        refine wp_iload (pc := 16) dX6_line_16 rfl ?_
        refine wp_bipush (pc := 18) (v := (-9)) dX6_line_18 (by decide +kernel) ?_
        refine wp_icmp_eq (pc := 20) (tgt := 62) dX6_line_20 (by decide) (fun c_20 => ?_) (fun c_20 => ?_)
        · exact absurd c_20 hne
        · refine wp_iload (pc := 23) dX6_line_23 rfl ?_
          refine wp_if_eqB (pc := 25) (tgt := 62) dX6_line_25 (by decide) (fun c_25 => ?_) (fun c_25 => ?_)
          · refine wp_iload (pc := 62) dX6_line_62 rfl ?_
            refine wp_ireturn (pc := 64) dX6_line_64 rfl ?_
            exact pq_i rfl
          · exact Bool.noConfusion c_25
    intro r
    induction r with
    | zero =>
      intro o more P hc0 ho
      have h0 : o = none := by simpa [chB] using hc0
      exact fin o more P (ray w h (nfr nb b.1) y 0 o) ho (Or.inl h0) (fun t => by simp [ray])
    | succ r ih =>
      intro o more P hc0 ho
      cases o with
      | none => exact fin none more P (ray w h (nfr nb b.1) y (r + 1) none) ho (Or.inl rfl) (fun t => by simp [ray])
      | some q =>
        cases more
        · exact fin (some q) false P (ray w h (nfr nb b.1) y (r + 1) (some q)) ho (Or.inr rfl) (fun t => rfl)
        · have hq := ho q rfl
          have hne : ¬ nI q = -9 := fun z => nI_pos (n := q) (by omega) (by rw [z]; decide)
          have hq2 := hat q hq
          have hfr := sp_X6_isFree (d := d + 1) (J := J) (nb := nb) hL hs n16 hk hq
          have e : mset (fun t => P t || (true && ray w h (nfr nb b.1) y (r + 1) (some q) t)) = mset (fun t => (P t || (some q == some t)) || ((!nfr nb b.1 q) && ray w h (nfr nb b.1) y r (nbr w h q y) t)) := mset_eq fun t _ => by
            cases hN : nfr nb b.1 q
            · simp [ray, hN, Bool.or_assoc]
            · have : ray w h (nfr nb b.1) y r none t = false := by cases r <;> simp [ray]
              simp [ray, hN, this]
          have h0 := ih (nbr w h q y) (!nfr nb b.1 q) (fun t => P t || (some q == some t)) hc0 (fun _ z => nbr_lt z)
          rw [e]
          show WP ΩM (d + 2) kX6_line 16 [(0, .ref 0), (1, .int (nI k)), (2, .int (nI c)), (3, .int (zI (dX y))), (4, .int (zI (dY y))), (5, .int (bI nb)), (6, .int (nI (mset P))), (7, .int (nI q)), (8, .int (bI true))] [] I J _
          refine wp_iload (pc := 16) dX6_line_16 rfl ?_
          refine wp_bipush (pc := 18) (v := (-9)) dX6_line_18 (by decide +kernel) ?_
          refine wp_icmp_eq (pc := 20) (tgt := 62) dX6_line_20 (by decide) (fun c_20 => ?_) (fun c_20 => ?_)
          · exact absurd c_20 hne
          · refine wp_iload (pc := 23) dX6_line_23 rfl ?_
            refine wp_if_eqB (pc := 25) (tgt := 62) dX6_line_25 (by decide) (fun c_25 => ?_) (fun c_25 => ?_)
            · exact Bool.noConfusion c_25
            · refine wp_iload (pc := 28) dX6_line_28 rfl ?_
              refine wp_iconst (pc := 30) (v := nI 1) dX6_line_30 (by decide +kernel) ?_
              refine wp_iload (pc := 31) dX6_line_31 rfl ?_
              first | (refine wp_ishl1 (pc := 33) dX6_line_33 (by first | with_reducible assumption | omega) ?_) | (refine wp_ishlN (pc := 33) dX6_line_33 (by first | with_reducible assumption | omega) (by first | with_reducible assumption | omega) ?_) | (refine wp_ishl (pc := 33) dX6_line_33 ?_)
              first | (refine wp_iorN (pc := 34) dX6_line_34 ?_) | (refine wp_ior (pc := 34) dX6_line_34 ?_)
              rw [or_some (show q < 16 by omega)]
              refine wp_istore (pc := 35) dX6_line_35 (by decide) ?_
              refine wp_aload_n (pc := 37) (i := 0) dX6_line_37 rfl rfl (by first | with_reducible assumption | rfl) ?_
              refine wp_iload_n (pc := 38) (i := 1) dX6_line_38 rfl rfl ?_
              refine wp_iload (pc := 39) dX6_line_39 rfl ?_
              refine wp_iload (pc := 41) dX6_line_41 rfl ?_
              refine wp_cVP3 (pc := 43) (ci := 6) dX6_line_43 lm_X6_101 m_X6_isFree (by first | with_reducible assumption | rfl) (by first | with_reducible assumption | rfl) (by decide) rfl (Nat.le_of_ble_eq_true rfl) hfr ?_
              refine wp_istore (pc := 46) dX6_line_46 (by decide) ?_
              refine wp_aload_n (pc := 48) (i := 0) dX6_line_48 rfl rfl (by first | with_reducible assumption | rfl) ?_
              refine wp_iload (pc := 49) dX6_line_49 rfl ?_
              refine wp_iload_n (pc := 51) (i := 3) dX6_line_51 rfl rfl ?_
              refine wp_iload (pc := 52) dX6_line_52 rfl ?_
              refine wp_cVP3 (pc := 54) (ci := 6) dX6_line_54 lm_X6_97 m_X6_at (by first | with_reducible assumption | rfl) (by first | with_reducible assumption | rfl) (by decide) rfl (Nat.le_of_ble_eq_true rfl) hq2 ?_
              refine wp_istore (pc := 57) dX6_line_57 (by decide) ?_
              refine wp_goto (pc := 59) (tgt := 16) dX6_line_59 (by decide) ?_
              exact h0
  have h3 := loop 3 (nbr w h c y) true (fun _ => false) hch (fun _ z => nbr_lt z)
  have e3 : mset (fun t => (fun _ => false) t || (true && ray w h (nfr nb b.1) y 3 (nbr w h c y) t)) = mset (fun t => ray w h (nfr nb b.1) y 3 (nbr w h c y) t) := mset_eq fun t _ => by simp
  rw [e3, mset_none] at h3
  refine call_of_wp (by decide) (Nat.le_of_ble_eq_true rfl) ?_
  refine wp_iconst (pc := 0) (v := nI 0) dX6_line_0 (by decide +kernel) ?_
  refine wp_istore (pc := 1) dX6_line_1 (by decide) ?_
  refine wp_aload_n (pc := 3) (i := 0) dX6_line_3 rfl rfl (by first | with_reducible assumption | rfl) ?_
  refine wp_iload_n (pc := 4) (i := 2) dX6_line_4 rfl rfl ?_
  refine wp_iload_n (pc := 5) (i := 3) dX6_line_5 rfl rfl ?_
  refine wp_iload (pc := 6) dX6_line_6 rfl ?_
  refine wp_cVP3 (pc := 8) (ci := 6) dX6_line_8 lm_X6_97 m_X6_at (by first | with_reducible assumption | rfl) (by first | with_reducible assumption | rfl) (by decide) rfl (Nat.le_of_ble_eq_true rfl) (hat c hc) ?_
  refine wp_istore (pc := 11) dX6_line_11 (by decide) ?_
  refine wp_iconst (pc := 13) (v := nI 1) dX6_line_13 (by decide +kernel) ?_
  refine wp_istore (pc := 14) dX6_line_14 (by decide) ?_
  exact h3
theorem st_or {P : Nat → Bool} {w h : Nat} {x y : Int} (hw : w * h ≤ 16) : mset P ||| obN (cat w h x y) = mset (fun t => P t || (cat w h x y == some t)) := or_ob (fun c hc => Nat.lt_of_lt_of_le (cat_lt hc) hw)
theorem st_or2 {w h : Nat} {x y x2 y2 : Int} (hw : w * h ≤ 16) : obN (cat w h x y) ||| obN (cat w h x2 y2) = mset (fun t => (cat w h x y == some t) || (cat w h x2 y2 == some t)) := by
  have h1 := st_or (P := fun _ => false) (x := x) (y := y) hw
  rw [mset_none, Nat.zero_or] at h1
  rw [h1, st_or hw]
  exact mset_eq fun t _ => by simp
theorem ma_0 {k c e : Nat} {nb : Bool} {u v : Int32} {Q : Pst} (g : WP ΩM d kX6_aimsOf 52 [(0, .ref 0), (1, .int (nI k)), (2, .int v), (3, .int (nI c)), (4, .int (bI nb)), (5, .int (nI e)), (6, .int u), (7, .int (nI 0)), (8, .int (zI (-1))), (9, .int (zI (-1))), (10, .int (nI 0))] [] I J Q) : WP ΩM d kX6_aimsOf 12 [(0, .ref 0), (1, .int (nI k)), (2, .int v), (3, .int (nI c)), (4, .int (bI nb)), (5, .int (nI e)), (6, .int u), (7, .int (nI 0))] [] I J Q := by
  refine wp_iload (pc := 12) dX6_aimsOf_12 rfl ?_
  refine wp_bipush (pc := 14) (v := nI 9) dX6_aimsOf_14 (by decide +kernel) ?_
  first | (refine wp_icmp_geN (pc := 16) (tgt := 231) dX6_aimsOf_16 (by decide) (by first | with_reducible assumption | omega) (by first | with_reducible assumption | omega) (fun c_16 => ?_) (fun c_16 => ?_)) | (refine wp_icmp_ge (pc := 16) (tgt := 231) dX6_aimsOf_16 (by decide) (fun c_16 => ?_) (fun c_16 => ?_))
  · exact absurd c_16 (by decide)
  · refine wp_iload (pc := 19) dX6_aimsOf_19 rfl ?_
    refine wp_iconst (pc := 21) (v := nI 3) dX6_aimsOf_21 (by decide +kernel) ?_
    refine wp_iremN (pc := 22) dX6_aimsOf_22 (by first | with_reducible assumption | omega) (by first | with_reducible assumption | omega) (by first | with_reducible assumption | omega) ?_
    refine wp_iconst (pc := 23) (v := nI 1) dX6_aimsOf_23 (by decide +kernel) ?_
    refine wp_isub (pc := 24) dX6_aimsOf_24 ?_
    rw [show nI (0 % 3) - nI 1 = zI (-1) by decide +kernel]
    refine wp_istore (pc := 25) dX6_aimsOf_25 (by decide) ?_
    refine wp_iload (pc := 27) dX6_aimsOf_27 rfl ?_
    refine wp_iconst (pc := 29) (v := nI 3) dX6_aimsOf_29 (by decide +kernel) ?_
    refine wp_idivN (pc := 30) dX6_aimsOf_30 (by first | with_reducible assumption | omega) (by first | with_reducible assumption | omega) (by first | with_reducible assumption | omega) ?_
    refine wp_iconst (pc := 31) (v := nI 1) dX6_aimsOf_31 (by decide +kernel) ?_
    refine wp_isub (pc := 32) dX6_aimsOf_32 ?_
    rw [show nI (0 / 3) - nI 1 = zI (-1) by decide +kernel]
    refine wp_istore (pc := 33) dX6_aimsOf_33 (by decide) ?_
    refine wp_iload (pc := 35) dX6_aimsOf_35 rfl ?_
    refine wp_if_eq (pc := 37) (tgt := 45) dX6_aimsOf_37 (by decide) (fun c_37 => ?_) (fun c_37 => ?_)
    · exact absurd c_37 (by decide +kernel)
    · refine wp_iload (pc := 40) dX6_aimsOf_40 rfl ?_
      refine wp_if_ne (pc := 42) (tgt := 49) dX6_aimsOf_42 (by decide) (fun c_42 => ?_) (fun c_42 => ?_)
      · refine wp_iconst (pc := 49) (v := nI 0) dX6_aimsOf_49 (by decide +kernel) ?_
        refine wp_istore (pc := 50) dX6_aimsOf_50 (by decide) ?_
        exact g
      · exact absurd c_42 (by decide +kernel)
theorem ma_1 {k c e : Nat} {nb : Bool} {u v : Int32} {Q : Pst} (g : WP ΩM d kX6_aimsOf 52 [(0, .ref 0), (1, .int (nI k)), (2, .int v), (3, .int (nI c)), (4, .int (bI nb)), (5, .int (nI e)), (6, .int u), (7, .int (nI 1)), (8, .int (zI (0))), (9, .int (zI (-1))), (10, .int (nI 1))] [] I J Q) : WP ΩM d kX6_aimsOf 12 [(0, .ref 0), (1, .int (nI k)), (2, .int v), (3, .int (nI c)), (4, .int (bI nb)), (5, .int (nI e)), (6, .int u), (7, .int (nI 1))] [] I J Q := by
  refine wp_iload (pc := 12) dX6_aimsOf_12 rfl ?_
  refine wp_bipush (pc := 14) (v := nI 9) dX6_aimsOf_14 (by decide +kernel) ?_
  first | (refine wp_icmp_geN (pc := 16) (tgt := 231) dX6_aimsOf_16 (by decide) (by first | with_reducible assumption | omega) (by first | with_reducible assumption | omega) (fun c_16 => ?_) (fun c_16 => ?_)) | (refine wp_icmp_ge (pc := 16) (tgt := 231) dX6_aimsOf_16 (by decide) (fun c_16 => ?_) (fun c_16 => ?_))
  · exact absurd c_16 (by decide)
  · refine wp_iload (pc := 19) dX6_aimsOf_19 rfl ?_
    refine wp_iconst (pc := 21) (v := nI 3) dX6_aimsOf_21 (by decide +kernel) ?_
    refine wp_iremN (pc := 22) dX6_aimsOf_22 (by first | with_reducible assumption | omega) (by first | with_reducible assumption | omega) (by first | with_reducible assumption | omega) ?_
    refine wp_iconst (pc := 23) (v := nI 1) dX6_aimsOf_23 (by decide +kernel) ?_
    refine wp_isub (pc := 24) dX6_aimsOf_24 ?_
    rw [show nI (1 % 3) - nI 1 = zI (0) by decide +kernel]
    refine wp_istore (pc := 25) dX6_aimsOf_25 (by decide) ?_
    refine wp_iload (pc := 27) dX6_aimsOf_27 rfl ?_
    refine wp_iconst (pc := 29) (v := nI 3) dX6_aimsOf_29 (by decide +kernel) ?_
    refine wp_idivN (pc := 30) dX6_aimsOf_30 (by first | with_reducible assumption | omega) (by first | with_reducible assumption | omega) (by first | with_reducible assumption | omega) ?_
    refine wp_iconst (pc := 31) (v := nI 1) dX6_aimsOf_31 (by decide +kernel) ?_
    refine wp_isub (pc := 32) dX6_aimsOf_32 ?_
    rw [show nI (1 / 3) - nI 1 = zI (-1) by decide +kernel]
    refine wp_istore (pc := 33) dX6_aimsOf_33 (by decide) ?_
    refine wp_iload (pc := 35) dX6_aimsOf_35 rfl ?_
    refine wp_if_eq (pc := 37) (tgt := 45) dX6_aimsOf_37 (by decide) (fun c_37 => ?_) (fun c_37 => ?_)
    · refine wp_iconst (pc := 45) (v := nI 1) dX6_aimsOf_45 (by decide +kernel) ?_
      refine wp_goto (pc := 46) (tgt := 50) dX6_aimsOf_46 (by decide) ?_
      refine wp_istore (pc := 50) dX6_aimsOf_50 (by decide) ?_
      exact g
    · exact absurd (by decide +kernel) c_37
theorem ma_2 {k c e : Nat} {nb : Bool} {u v : Int32} {Q : Pst} (g : WP ΩM d kX6_aimsOf 52 [(0, .ref 0), (1, .int (nI k)), (2, .int v), (3, .int (nI c)), (4, .int (bI nb)), (5, .int (nI e)), (6, .int u), (7, .int (nI 2)), (8, .int (zI (1))), (9, .int (zI (-1))), (10, .int (nI 0))] [] I J Q) : WP ΩM d kX6_aimsOf 12 [(0, .ref 0), (1, .int (nI k)), (2, .int v), (3, .int (nI c)), (4, .int (bI nb)), (5, .int (nI e)), (6, .int u), (7, .int (nI 2))] [] I J Q := by
  refine wp_iload (pc := 12) dX6_aimsOf_12 rfl ?_
  refine wp_bipush (pc := 14) (v := nI 9) dX6_aimsOf_14 (by decide +kernel) ?_
  first | (refine wp_icmp_geN (pc := 16) (tgt := 231) dX6_aimsOf_16 (by decide) (by first | with_reducible assumption | omega) (by first | with_reducible assumption | omega) (fun c_16 => ?_) (fun c_16 => ?_)) | (refine wp_icmp_ge (pc := 16) (tgt := 231) dX6_aimsOf_16 (by decide) (fun c_16 => ?_) (fun c_16 => ?_))
  · exact absurd c_16 (by decide)
  · refine wp_iload (pc := 19) dX6_aimsOf_19 rfl ?_
    refine wp_iconst (pc := 21) (v := nI 3) dX6_aimsOf_21 (by decide +kernel) ?_
    refine wp_iremN (pc := 22) dX6_aimsOf_22 (by first | with_reducible assumption | omega) (by first | with_reducible assumption | omega) (by first | with_reducible assumption | omega) ?_
    refine wp_iconst (pc := 23) (v := nI 1) dX6_aimsOf_23 (by decide +kernel) ?_
    refine wp_isub (pc := 24) dX6_aimsOf_24 ?_
    rw [show nI (2 % 3) - nI 1 = zI (1) by decide +kernel]
    refine wp_istore (pc := 25) dX6_aimsOf_25 (by decide) ?_
    refine wp_iload (pc := 27) dX6_aimsOf_27 rfl ?_
    refine wp_iconst (pc := 29) (v := nI 3) dX6_aimsOf_29 (by decide +kernel) ?_
    refine wp_idivN (pc := 30) dX6_aimsOf_30 (by first | with_reducible assumption | omega) (by first | with_reducible assumption | omega) (by first | with_reducible assumption | omega) ?_
    refine wp_iconst (pc := 31) (v := nI 1) dX6_aimsOf_31 (by decide +kernel) ?_
    refine wp_isub (pc := 32) dX6_aimsOf_32 ?_
    rw [show nI (2 / 3) - nI 1 = zI (-1) by decide +kernel]
    refine wp_istore (pc := 33) dX6_aimsOf_33 (by decide) ?_
    refine wp_iload (pc := 35) dX6_aimsOf_35 rfl ?_
    refine wp_if_eq (pc := 37) (tgt := 45) dX6_aimsOf_37 (by decide) (fun c_37 => ?_) (fun c_37 => ?_)
    · exact absurd c_37 (by decide +kernel)
    · refine wp_iload (pc := 40) dX6_aimsOf_40 rfl ?_
      refine wp_if_ne (pc := 42) (tgt := 49) dX6_aimsOf_42 (by decide) (fun c_42 => ?_) (fun c_42 => ?_)
      · refine wp_iconst (pc := 49) (v := nI 0) dX6_aimsOf_49 (by decide +kernel) ?_
        refine wp_istore (pc := 50) dX6_aimsOf_50 (by decide) ?_
        exact g
      · exact absurd c_42 (by decide +kernel)
theorem ma_3 {k c e : Nat} {nb : Bool} {u v : Int32} {Q : Pst} (g : WP ΩM d kX6_aimsOf 52 [(0, .ref 0), (1, .int (nI k)), (2, .int v), (3, .int (nI c)), (4, .int (bI nb)), (5, .int (nI e)), (6, .int u), (7, .int (nI 3)), (8, .int (zI (-1))), (9, .int (zI (0))), (10, .int (nI 1))] [] I J Q) : WP ΩM d kX6_aimsOf 12 [(0, .ref 0), (1, .int (nI k)), (2, .int v), (3, .int (nI c)), (4, .int (bI nb)), (5, .int (nI e)), (6, .int u), (7, .int (nI 3))] [] I J Q := by
  refine wp_iload (pc := 12) dX6_aimsOf_12 rfl ?_
  refine wp_bipush (pc := 14) (v := nI 9) dX6_aimsOf_14 (by decide +kernel) ?_
  first | (refine wp_icmp_geN (pc := 16) (tgt := 231) dX6_aimsOf_16 (by decide) (by first | with_reducible assumption | omega) (by first | with_reducible assumption | omega) (fun c_16 => ?_) (fun c_16 => ?_)) | (refine wp_icmp_ge (pc := 16) (tgt := 231) dX6_aimsOf_16 (by decide) (fun c_16 => ?_) (fun c_16 => ?_))
  · exact absurd c_16 (by decide)
  · refine wp_iload (pc := 19) dX6_aimsOf_19 rfl ?_
    refine wp_iconst (pc := 21) (v := nI 3) dX6_aimsOf_21 (by decide +kernel) ?_
    refine wp_iremN (pc := 22) dX6_aimsOf_22 (by first | with_reducible assumption | omega) (by first | with_reducible assumption | omega) (by first | with_reducible assumption | omega) ?_
    refine wp_iconst (pc := 23) (v := nI 1) dX6_aimsOf_23 (by decide +kernel) ?_
    refine wp_isub (pc := 24) dX6_aimsOf_24 ?_
    rw [show nI (3 % 3) - nI 1 = zI (-1) by decide +kernel]
    refine wp_istore (pc := 25) dX6_aimsOf_25 (by decide) ?_
    refine wp_iload (pc := 27) dX6_aimsOf_27 rfl ?_
    refine wp_iconst (pc := 29) (v := nI 3) dX6_aimsOf_29 (by decide +kernel) ?_
    refine wp_idivN (pc := 30) dX6_aimsOf_30 (by first | with_reducible assumption | omega) (by first | with_reducible assumption | omega) (by first | with_reducible assumption | omega) ?_
    refine wp_iconst (pc := 31) (v := nI 1) dX6_aimsOf_31 (by decide +kernel) ?_
    refine wp_isub (pc := 32) dX6_aimsOf_32 ?_
    rw [show nI (3 / 3) - nI 1 = zI (0) by decide +kernel]
    refine wp_istore (pc := 33) dX6_aimsOf_33 (by decide) ?_
    refine wp_iload (pc := 35) dX6_aimsOf_35 rfl ?_
    refine wp_if_eq (pc := 37) (tgt := 45) dX6_aimsOf_37 (by decide) (fun c_37 => ?_) (fun c_37 => ?_)
    · exact absurd c_37 (by decide +kernel)
    · refine wp_iload (pc := 40) dX6_aimsOf_40 rfl ?_
      refine wp_if_ne (pc := 42) (tgt := 49) dX6_aimsOf_42 (by decide) (fun c_42 => ?_) (fun c_42 => ?_)
      · exact absurd (by decide +kernel) c_42
      · refine wp_iconst (pc := 45) (v := nI 1) dX6_aimsOf_45 (by decide +kernel) ?_
        refine wp_goto (pc := 46) (tgt := 50) dX6_aimsOf_46 (by decide) ?_
        refine wp_istore (pc := 50) dX6_aimsOf_50 (by decide) ?_
        exact g
theorem ma_4 {k c e : Nat} {nb : Bool} {u v : Int32} {Q : Pst} (g : WP ΩM d kX6_aimsOf 52 [(0, .ref 0), (1, .int (nI k)), (2, .int v), (3, .int (nI c)), (4, .int (bI nb)), (5, .int (nI e)), (6, .int u), (7, .int (nI 4)), (8, .int (zI (0))), (9, .int (zI (0))), (10, .int (nI 1))] [] I J Q) : WP ΩM d kX6_aimsOf 12 [(0, .ref 0), (1, .int (nI k)), (2, .int v), (3, .int (nI c)), (4, .int (bI nb)), (5, .int (nI e)), (6, .int u), (7, .int (nI 4))] [] I J Q := by
  refine wp_iload (pc := 12) dX6_aimsOf_12 rfl ?_
  refine wp_bipush (pc := 14) (v := nI 9) dX6_aimsOf_14 (by decide +kernel) ?_
  first | (refine wp_icmp_geN (pc := 16) (tgt := 231) dX6_aimsOf_16 (by decide) (by first | with_reducible assumption | omega) (by first | with_reducible assumption | omega) (fun c_16 => ?_) (fun c_16 => ?_)) | (refine wp_icmp_ge (pc := 16) (tgt := 231) dX6_aimsOf_16 (by decide) (fun c_16 => ?_) (fun c_16 => ?_))
  · exact absurd c_16 (by decide)
  · refine wp_iload (pc := 19) dX6_aimsOf_19 rfl ?_
    refine wp_iconst (pc := 21) (v := nI 3) dX6_aimsOf_21 (by decide +kernel) ?_
    refine wp_iremN (pc := 22) dX6_aimsOf_22 (by first | with_reducible assumption | omega) (by first | with_reducible assumption | omega) (by first | with_reducible assumption | omega) ?_
    refine wp_iconst (pc := 23) (v := nI 1) dX6_aimsOf_23 (by decide +kernel) ?_
    refine wp_isub (pc := 24) dX6_aimsOf_24 ?_
    rw [show nI (4 % 3) - nI 1 = zI (0) by decide +kernel]
    refine wp_istore (pc := 25) dX6_aimsOf_25 (by decide) ?_
    refine wp_iload (pc := 27) dX6_aimsOf_27 rfl ?_
    refine wp_iconst (pc := 29) (v := nI 3) dX6_aimsOf_29 (by decide +kernel) ?_
    refine wp_idivN (pc := 30) dX6_aimsOf_30 (by first | with_reducible assumption | omega) (by first | with_reducible assumption | omega) (by first | with_reducible assumption | omega) ?_
    refine wp_iconst (pc := 31) (v := nI 1) dX6_aimsOf_31 (by decide +kernel) ?_
    refine wp_isub (pc := 32) dX6_aimsOf_32 ?_
    rw [show nI (4 / 3) - nI 1 = zI (0) by decide +kernel]
    refine wp_istore (pc := 33) dX6_aimsOf_33 (by decide) ?_
    refine wp_iload (pc := 35) dX6_aimsOf_35 rfl ?_
    refine wp_if_eq (pc := 37) (tgt := 45) dX6_aimsOf_37 (by decide) (fun c_37 => ?_) (fun c_37 => ?_)
    · refine wp_iconst (pc := 45) (v := nI 1) dX6_aimsOf_45 (by decide +kernel) ?_
      refine wp_goto (pc := 46) (tgt := 50) dX6_aimsOf_46 (by decide) ?_
      refine wp_istore (pc := 50) dX6_aimsOf_50 (by decide) ?_
      exact g
    · exact absurd (by decide +kernel) c_37
theorem ma_5 {k c e : Nat} {nb : Bool} {u v : Int32} {Q : Pst} (g : WP ΩM d kX6_aimsOf 52 [(0, .ref 0), (1, .int (nI k)), (2, .int v), (3, .int (nI c)), (4, .int (bI nb)), (5, .int (nI e)), (6, .int u), (7, .int (nI 5)), (8, .int (zI (1))), (9, .int (zI (0))), (10, .int (nI 1))] [] I J Q) : WP ΩM d kX6_aimsOf 12 [(0, .ref 0), (1, .int (nI k)), (2, .int v), (3, .int (nI c)), (4, .int (bI nb)), (5, .int (nI e)), (6, .int u), (7, .int (nI 5))] [] I J Q := by
  refine wp_iload (pc := 12) dX6_aimsOf_12 rfl ?_
  refine wp_bipush (pc := 14) (v := nI 9) dX6_aimsOf_14 (by decide +kernel) ?_
  first | (refine wp_icmp_geN (pc := 16) (tgt := 231) dX6_aimsOf_16 (by decide) (by first | with_reducible assumption | omega) (by first | with_reducible assumption | omega) (fun c_16 => ?_) (fun c_16 => ?_)) | (refine wp_icmp_ge (pc := 16) (tgt := 231) dX6_aimsOf_16 (by decide) (fun c_16 => ?_) (fun c_16 => ?_))
  · exact absurd c_16 (by decide)
  · refine wp_iload (pc := 19) dX6_aimsOf_19 rfl ?_
    refine wp_iconst (pc := 21) (v := nI 3) dX6_aimsOf_21 (by decide +kernel) ?_
    refine wp_iremN (pc := 22) dX6_aimsOf_22 (by first | with_reducible assumption | omega) (by first | with_reducible assumption | omega) (by first | with_reducible assumption | omega) ?_
    refine wp_iconst (pc := 23) (v := nI 1) dX6_aimsOf_23 (by decide +kernel) ?_
    refine wp_isub (pc := 24) dX6_aimsOf_24 ?_
    rw [show nI (5 % 3) - nI 1 = zI (1) by decide +kernel]
    refine wp_istore (pc := 25) dX6_aimsOf_25 (by decide) ?_
    refine wp_iload (pc := 27) dX6_aimsOf_27 rfl ?_
    refine wp_iconst (pc := 29) (v := nI 3) dX6_aimsOf_29 (by decide +kernel) ?_
    refine wp_idivN (pc := 30) dX6_aimsOf_30 (by first | with_reducible assumption | omega) (by first | with_reducible assumption | omega) (by first | with_reducible assumption | omega) ?_
    refine wp_iconst (pc := 31) (v := nI 1) dX6_aimsOf_31 (by decide +kernel) ?_
    refine wp_isub (pc := 32) dX6_aimsOf_32 ?_
    rw [show nI (5 / 3) - nI 1 = zI (0) by decide +kernel]
    refine wp_istore (pc := 33) dX6_aimsOf_33 (by decide) ?_
    refine wp_iload (pc := 35) dX6_aimsOf_35 rfl ?_
    refine wp_if_eq (pc := 37) (tgt := 45) dX6_aimsOf_37 (by decide) (fun c_37 => ?_) (fun c_37 => ?_)
    · exact absurd c_37 (by decide +kernel)
    · refine wp_iload (pc := 40) dX6_aimsOf_40 rfl ?_
      refine wp_if_ne (pc := 42) (tgt := 49) dX6_aimsOf_42 (by decide) (fun c_42 => ?_) (fun c_42 => ?_)
      · exact absurd (by decide +kernel) c_42
      · refine wp_iconst (pc := 45) (v := nI 1) dX6_aimsOf_45 (by decide +kernel) ?_
        refine wp_goto (pc := 46) (tgt := 50) dX6_aimsOf_46 (by decide) ?_
        refine wp_istore (pc := 50) dX6_aimsOf_50 (by decide) ?_
        exact g
theorem ma_6 {k c e : Nat} {nb : Bool} {u v : Int32} {Q : Pst} (g : WP ΩM d kX6_aimsOf 52 [(0, .ref 0), (1, .int (nI k)), (2, .int v), (3, .int (nI c)), (4, .int (bI nb)), (5, .int (nI e)), (6, .int u), (7, .int (nI 6)), (8, .int (zI (-1))), (9, .int (zI (1))), (10, .int (nI 0))] [] I J Q) : WP ΩM d kX6_aimsOf 12 [(0, .ref 0), (1, .int (nI k)), (2, .int v), (3, .int (nI c)), (4, .int (bI nb)), (5, .int (nI e)), (6, .int u), (7, .int (nI 6))] [] I J Q := by
  refine wp_iload (pc := 12) dX6_aimsOf_12 rfl ?_
  refine wp_bipush (pc := 14) (v := nI 9) dX6_aimsOf_14 (by decide +kernel) ?_
  first | (refine wp_icmp_geN (pc := 16) (tgt := 231) dX6_aimsOf_16 (by decide) (by first | with_reducible assumption | omega) (by first | with_reducible assumption | omega) (fun c_16 => ?_) (fun c_16 => ?_)) | (refine wp_icmp_ge (pc := 16) (tgt := 231) dX6_aimsOf_16 (by decide) (fun c_16 => ?_) (fun c_16 => ?_))
  · exact absurd c_16 (by decide)
  · refine wp_iload (pc := 19) dX6_aimsOf_19 rfl ?_
    refine wp_iconst (pc := 21) (v := nI 3) dX6_aimsOf_21 (by decide +kernel) ?_
    refine wp_iremN (pc := 22) dX6_aimsOf_22 (by first | with_reducible assumption | omega) (by first | with_reducible assumption | omega) (by first | with_reducible assumption | omega) ?_
    refine wp_iconst (pc := 23) (v := nI 1) dX6_aimsOf_23 (by decide +kernel) ?_
    refine wp_isub (pc := 24) dX6_aimsOf_24 ?_
    rw [show nI (6 % 3) - nI 1 = zI (-1) by decide +kernel]
    refine wp_istore (pc := 25) dX6_aimsOf_25 (by decide) ?_
    refine wp_iload (pc := 27) dX6_aimsOf_27 rfl ?_
    refine wp_iconst (pc := 29) (v := nI 3) dX6_aimsOf_29 (by decide +kernel) ?_
    refine wp_idivN (pc := 30) dX6_aimsOf_30 (by first | with_reducible assumption | omega) (by first | with_reducible assumption | omega) (by first | with_reducible assumption | omega) ?_
    refine wp_iconst (pc := 31) (v := nI 1) dX6_aimsOf_31 (by decide +kernel) ?_
    refine wp_isub (pc := 32) dX6_aimsOf_32 ?_
    rw [show nI (6 / 3) - nI 1 = zI (1) by decide +kernel]
    refine wp_istore (pc := 33) dX6_aimsOf_33 (by decide) ?_
    refine wp_iload (pc := 35) dX6_aimsOf_35 rfl ?_
    refine wp_if_eq (pc := 37) (tgt := 45) dX6_aimsOf_37 (by decide) (fun c_37 => ?_) (fun c_37 => ?_)
    · exact absurd c_37 (by decide +kernel)
    · refine wp_iload (pc := 40) dX6_aimsOf_40 rfl ?_
      refine wp_if_ne (pc := 42) (tgt := 49) dX6_aimsOf_42 (by decide) (fun c_42 => ?_) (fun c_42 => ?_)
      · refine wp_iconst (pc := 49) (v := nI 0) dX6_aimsOf_49 (by decide +kernel) ?_
        refine wp_istore (pc := 50) dX6_aimsOf_50 (by decide) ?_
        exact g
      · exact absurd c_42 (by decide +kernel)
theorem ma_7 {k c e : Nat} {nb : Bool} {u v : Int32} {Q : Pst} (g : WP ΩM d kX6_aimsOf 52 [(0, .ref 0), (1, .int (nI k)), (2, .int v), (3, .int (nI c)), (4, .int (bI nb)), (5, .int (nI e)), (6, .int u), (7, .int (nI 7)), (8, .int (zI (0))), (9, .int (zI (1))), (10, .int (nI 1))] [] I J Q) : WP ΩM d kX6_aimsOf 12 [(0, .ref 0), (1, .int (nI k)), (2, .int v), (3, .int (nI c)), (4, .int (bI nb)), (5, .int (nI e)), (6, .int u), (7, .int (nI 7))] [] I J Q := by
  refine wp_iload (pc := 12) dX6_aimsOf_12 rfl ?_
  refine wp_bipush (pc := 14) (v := nI 9) dX6_aimsOf_14 (by decide +kernel) ?_
  first | (refine wp_icmp_geN (pc := 16) (tgt := 231) dX6_aimsOf_16 (by decide) (by first | with_reducible assumption | omega) (by first | with_reducible assumption | omega) (fun c_16 => ?_) (fun c_16 => ?_)) | (refine wp_icmp_ge (pc := 16) (tgt := 231) dX6_aimsOf_16 (by decide) (fun c_16 => ?_) (fun c_16 => ?_))
  · exact absurd c_16 (by decide)
  · refine wp_iload (pc := 19) dX6_aimsOf_19 rfl ?_
    refine wp_iconst (pc := 21) (v := nI 3) dX6_aimsOf_21 (by decide +kernel) ?_
    refine wp_iremN (pc := 22) dX6_aimsOf_22 (by first | with_reducible assumption | omega) (by first | with_reducible assumption | omega) (by first | with_reducible assumption | omega) ?_
    refine wp_iconst (pc := 23) (v := nI 1) dX6_aimsOf_23 (by decide +kernel) ?_
    refine wp_isub (pc := 24) dX6_aimsOf_24 ?_
    rw [show nI (7 % 3) - nI 1 = zI (0) by decide +kernel]
    refine wp_istore (pc := 25) dX6_aimsOf_25 (by decide) ?_
    refine wp_iload (pc := 27) dX6_aimsOf_27 rfl ?_
    refine wp_iconst (pc := 29) (v := nI 3) dX6_aimsOf_29 (by decide +kernel) ?_
    refine wp_idivN (pc := 30) dX6_aimsOf_30 (by first | with_reducible assumption | omega) (by first | with_reducible assumption | omega) (by first | with_reducible assumption | omega) ?_
    refine wp_iconst (pc := 31) (v := nI 1) dX6_aimsOf_31 (by decide +kernel) ?_
    refine wp_isub (pc := 32) dX6_aimsOf_32 ?_
    rw [show nI (7 / 3) - nI 1 = zI (1) by decide +kernel]
    refine wp_istore (pc := 33) dX6_aimsOf_33 (by decide) ?_
    refine wp_iload (pc := 35) dX6_aimsOf_35 rfl ?_
    refine wp_if_eq (pc := 37) (tgt := 45) dX6_aimsOf_37 (by decide) (fun c_37 => ?_) (fun c_37 => ?_)
    · refine wp_iconst (pc := 45) (v := nI 1) dX6_aimsOf_45 (by decide +kernel) ?_
      refine wp_goto (pc := 46) (tgt := 50) dX6_aimsOf_46 (by decide) ?_
      refine wp_istore (pc := 50) dX6_aimsOf_50 (by decide) ?_
      exact g
    · exact absurd (by decide +kernel) c_37
theorem ma_8 {k c e : Nat} {nb : Bool} {u v : Int32} {Q : Pst} (g : WP ΩM d kX6_aimsOf 52 [(0, .ref 0), (1, .int (nI k)), (2, .int v), (3, .int (nI c)), (4, .int (bI nb)), (5, .int (nI e)), (6, .int u), (7, .int (nI 8)), (8, .int (zI (1))), (9, .int (zI (1))), (10, .int (nI 0))] [] I J Q) : WP ΩM d kX6_aimsOf 12 [(0, .ref 0), (1, .int (nI k)), (2, .int v), (3, .int (nI c)), (4, .int (bI nb)), (5, .int (nI e)), (6, .int u), (7, .int (nI 8))] [] I J Q := by
  refine wp_iload (pc := 12) dX6_aimsOf_12 rfl ?_
  refine wp_bipush (pc := 14) (v := nI 9) dX6_aimsOf_14 (by decide +kernel) ?_
  first | (refine wp_icmp_geN (pc := 16) (tgt := 231) dX6_aimsOf_16 (by decide) (by first | with_reducible assumption | omega) (by first | with_reducible assumption | omega) (fun c_16 => ?_) (fun c_16 => ?_)) | (refine wp_icmp_ge (pc := 16) (tgt := 231) dX6_aimsOf_16 (by decide) (fun c_16 => ?_) (fun c_16 => ?_))
  · exact absurd c_16 (by decide)
  · refine wp_iload (pc := 19) dX6_aimsOf_19 rfl ?_
    refine wp_iconst (pc := 21) (v := nI 3) dX6_aimsOf_21 (by decide +kernel) ?_
    refine wp_iremN (pc := 22) dX6_aimsOf_22 (by first | with_reducible assumption | omega) (by first | with_reducible assumption | omega) (by first | with_reducible assumption | omega) ?_
    refine wp_iconst (pc := 23) (v := nI 1) dX6_aimsOf_23 (by decide +kernel) ?_
    refine wp_isub (pc := 24) dX6_aimsOf_24 ?_
    rw [show nI (8 % 3) - nI 1 = zI (1) by decide +kernel]
    refine wp_istore (pc := 25) dX6_aimsOf_25 (by decide) ?_
    refine wp_iload (pc := 27) dX6_aimsOf_27 rfl ?_
    refine wp_iconst (pc := 29) (v := nI 3) dX6_aimsOf_29 (by decide +kernel) ?_
    refine wp_idivN (pc := 30) dX6_aimsOf_30 (by first | with_reducible assumption | omega) (by first | with_reducible assumption | omega) (by first | with_reducible assumption | omega) ?_
    refine wp_iconst (pc := 31) (v := nI 1) dX6_aimsOf_31 (by decide +kernel) ?_
    refine wp_isub (pc := 32) dX6_aimsOf_32 ?_
    rw [show nI (8 / 3) - nI 1 = zI (1) by decide +kernel]
    refine wp_istore (pc := 33) dX6_aimsOf_33 (by decide) ?_
    refine wp_iload (pc := 35) dX6_aimsOf_35 rfl ?_
    refine wp_if_eq (pc := 37) (tgt := 45) dX6_aimsOf_37 (by decide) (fun c_37 => ?_) (fun c_37 => ?_)
    · exact absurd c_37 (by decide +kernel)
    · refine wp_iload (pc := 40) dX6_aimsOf_40 rfl ?_
      refine wp_if_ne (pc := 42) (tgt := 49) dX6_aimsOf_42 (by decide) (fun c_42 => ?_) (fun c_42 => ?_)
      · refine wp_iconst (pc := 49) (v := nI 0) dX6_aimsOf_49 (by decide +kernel) ?_
        refine wp_istore (pc := 50) dX6_aimsOf_50 (by decide) ?_
        exact g
      · exact absurd c_42 (by decide +kernel)
theorem am_K {w h k c s : Nat} {b : Bd} {nb : Bool} (hW : WH w h I) (hL : LV (w * h) k b I) (hs : ∀ c, c < 16 → b.1 c < 12) (hk : k < 4) (hc : c < w * h) (hs12 : s < 12) (hkd : kdA s = 75) : CALL ΩM (d + 3) kX6_aimsOf [.ref 0, .int (nI k), .int (nI (asc s)), .int (nI c), .int (bI nb)] I J (PQ (.int (nI (mset (fun t => ((((((((false || (cat w h (cxx w c + (-1)) (cyy w c + (-1)) == some t)) || (cat w h (cxx w c + (0)) (cyy w c + (-1)) == some t)) || (cat w h (cxx w c + (1)) (cyy w c + (-1)) == some t)) || (cat w h (cxx w c + (-1)) (cyy w c + (0)) == some t)) || (cat w h (cxx w c + (1)) (cyy w c + (0)) == some t)) || (cat w h (cxx w c + (-1)) (cyy w c + (1)) == some t)) || (cat w h (cxx w c + (0)) (cyy w c + (1)) == some t)) || (cat w h (cxx w c + (1)) (cyy w c + (1)) == some t)))))) I J) := by
  have n16 := (WH_n hW).2
  have ha := asc_lt s
  have hkf := sp_X6_kindOf (Ω := ΩM) (d := d + 1) (I := I) (J := J) hs12
  rw [hkd] at hkf
  have g9 : ∀ P : Nat → Bool, WP ΩM (d + 3) kX6_aimsOf 12 [(0, .ref 0), (1, .int (nI k)), (2, .int (nI (asc s))), (3, .int (nI c)), (4, .int (bI nb)), (5, .int (nI 75)), (6, .int (nI (mset P))), (7, .int (nI 9))] [] I J (PQ (.int (nI (mset P))) I J) := by
    intro P
    refine wp_iload (pc := 12) dX6_aimsOf_12 rfl ?_
    refine wp_bipush (pc := 14) (v := nI 9) dX6_aimsOf_14 (by decide +kernel) ?_
    first | (refine wp_icmp_geN (pc := 16) (tgt := 231) dX6_aimsOf_16 (by decide) (by first | with_reducible assumption | omega) (by first | with_reducible assumption | omega) (fun c_16 => ?_) (fun c_16 => ?_)) | (refine wp_icmp_ge (pc := 16) (tgt := 231) dX6_aimsOf_16 (by decide) (fun c_16 => ?_) (fun c_16 => ?_))
    · refine wp_iload (pc := 231) dX6_aimsOf_231 rfl ?_
      refine wp_ireturn (pc := 233) dX6_aimsOf_233 rfl ?_
      exact pq_i rfl
    · exact absurd (Nat.le_refl 9) c_16
  have s0 : ∀ (P : Nat → Bool) (Q : Pst), WP ΩM (d + 3) kX6_aimsOf 12 [(0, .ref 0), (1, .int (nI k)), (2, .int (nI (asc s))), (3, .int (nI c)), (4, .int (bI nb)), (5, .int (nI 75)), (6, .int (nI (mset (fun t => P t || (cat w h (cxx w c + (-1)) (cyy w c + (-1)) == some t))))), (7, .int (nI 1))] [] I J Q → WP ΩM (d + 3) kX6_aimsOf 12 [(0, .ref 0), (1, .int (nI k)), (2, .int (nI (asc s))), (3, .int (nI c)), (4, .int (bI nb)), (5, .int (nI 75)), (6, .int (nI (mset P))), (7, .int (nI 0))] [] I J Q := by
    intro P Q g
    refine ma_0 ?_
    refine wp_iload (pc := 52) dX6_aimsOf_52 rfl ?_
    refine wp_iconst (pc := 54) (v := nI 4) dX6_aimsOf_54 (by decide +kernel) ?_
    first | (refine wp_icmp_neN (pc := 55) (tgt := 67) dX6_aimsOf_55 (by decide) (by first | with_reducible assumption | omega) (by first | with_reducible assumption | omega) (fun c_55 => ?_) (fun c_55 => ?_)) | (refine wp_icmp_ne (pc := 55) (tgt := 67) dX6_aimsOf_55 (by decide) (fun c_55 => ?_) (fun c_55 => ?_))
    · refine wp_iload (pc := 67) dX6_aimsOf_67 rfl ?_
      refine wp_bipush (pc := 69) (v := nI 75) dX6_aimsOf_69 (by decide +kernel) ?_
      first | (refine wp_icmp_neN (pc := 71) (tgt := 91) dX6_aimsOf_71 (by decide) (by first | with_reducible assumption | omega) (by first | with_reducible assumption | omega) (fun c_71 => ?_) (fun c_71 => ?_)) | (refine wp_icmp_ne (pc := 71) (tgt := 91) dX6_aimsOf_71 (by decide) (fun c_71 => ?_) (fun c_71 => ?_))
      · exact absurd rfl c_71
      · refine wp_iload (pc := 74) dX6_aimsOf_74 rfl ?_
        refine wp_aload_n (pc := 76) (i := 0) dX6_aimsOf_76 rfl rfl (by first | with_reducible assumption | rfl) ?_
        refine wp_iload_n (pc := 77) (i := 3) dX6_aimsOf_77 rfl rfl ?_
        refine wp_iload (pc := 78) dX6_aimsOf_78 rfl ?_
        refine wp_iload (pc := 80) dX6_aimsOf_80 rfl ?_
        refine wp_cVP3 (pc := 82) (ci := 6) dX6_aimsOf_82 lm_X6_108 m_X6_step (by first | with_reducible assumption | rfl) (by first | with_reducible assumption | rfl) (by decide) rfl (Nat.le_of_ble_eq_true rfl) (sp_X6_step (d := d) hW hc (by omega) (by omega)) ?_
        first | (refine wp_iorN (pc := 85) dX6_aimsOf_85 ?_) | (refine wp_ior (pc := 85) dX6_aimsOf_85 ?_)
        rw [st_or n16]
        refine wp_istore (pc := 86) dX6_aimsOf_86 (by decide) ?_
        refine wp_goto (pc := 88) (tgt := 225) dX6_aimsOf_88 (by decide) ?_
        first | (refine wp_iincN (pc := 225) (m := 1) dX6_aimsOf_225 rfl rfl (by decide) ?_) | (refine wp_iinc (pc := 225) dX6_aimsOf_225 rfl rfl (by decide) ?_)
        refine wp_goto (pc := 228) (tgt := 12) dX6_aimsOf_228 (by decide) ?_
        refine wp_drop 8 ?_
        exact g
    · exact absurd c_55 (by decide)
  have s1 : ∀ (P : Nat → Bool) (Q : Pst), WP ΩM (d + 3) kX6_aimsOf 12 [(0, .ref 0), (1, .int (nI k)), (2, .int (nI (asc s))), (3, .int (nI c)), (4, .int (bI nb)), (5, .int (nI 75)), (6, .int (nI (mset (fun t => P t || (cat w h (cxx w c + (0)) (cyy w c + (-1)) == some t))))), (7, .int (nI 2))] [] I J Q → WP ΩM (d + 3) kX6_aimsOf 12 [(0, .ref 0), (1, .int (nI k)), (2, .int (nI (asc s))), (3, .int (nI c)), (4, .int (bI nb)), (5, .int (nI 75)), (6, .int (nI (mset P))), (7, .int (nI 1))] [] I J Q := by
    clear g9 s0
    intro P Q g
    refine ma_1 ?_
    refine wp_iload (pc := 52) dX6_aimsOf_52 rfl ?_
    refine wp_iconst (pc := 54) (v := nI 4) dX6_aimsOf_54 (by decide +kernel) ?_
    first | (refine wp_icmp_neN (pc := 55) (tgt := 67) dX6_aimsOf_55 (by decide) (by first | with_reducible assumption | omega) (by first | with_reducible assumption | omega) (fun c_55 => ?_) (fun c_55 => ?_)) | (refine wp_icmp_ne (pc := 55) (tgt := 67) dX6_aimsOf_55 (by decide) (fun c_55 => ?_) (fun c_55 => ?_))
    · refine wp_iload (pc := 67) dX6_aimsOf_67 rfl ?_
      refine wp_bipush (pc := 69) (v := nI 75) dX6_aimsOf_69 (by decide +kernel) ?_
      first | (refine wp_icmp_neN (pc := 71) (tgt := 91) dX6_aimsOf_71 (by decide) (by first | with_reducible assumption | omega) (by first | with_reducible assumption | omega) (fun c_71 => ?_) (fun c_71 => ?_)) | (refine wp_icmp_ne (pc := 71) (tgt := 91) dX6_aimsOf_71 (by decide) (fun c_71 => ?_) (fun c_71 => ?_))
      · exact absurd rfl c_71
      · refine wp_iload (pc := 74) dX6_aimsOf_74 rfl ?_
        refine wp_aload_n (pc := 76) (i := 0) dX6_aimsOf_76 rfl rfl (by first | with_reducible assumption | rfl) ?_
        refine wp_iload_n (pc := 77) (i := 3) dX6_aimsOf_77 rfl rfl ?_
        refine wp_iload (pc := 78) dX6_aimsOf_78 rfl ?_
        refine wp_iload (pc := 80) dX6_aimsOf_80 rfl ?_
        refine wp_cVP3 (pc := 82) (ci := 6) dX6_aimsOf_82 lm_X6_108 m_X6_step (by first | with_reducible assumption | rfl) (by first | with_reducible assumption | rfl) (by decide) rfl (Nat.le_of_ble_eq_true rfl) (sp_X6_step (d := d) hW hc (by omega) (by omega)) ?_
        first | (refine wp_iorN (pc := 85) dX6_aimsOf_85 ?_) | (refine wp_ior (pc := 85) dX6_aimsOf_85 ?_)
        rw [st_or n16]
        refine wp_istore (pc := 86) dX6_aimsOf_86 (by decide) ?_
        refine wp_goto (pc := 88) (tgt := 225) dX6_aimsOf_88 (by decide) ?_
        first | (refine wp_iincN (pc := 225) (m := 1) dX6_aimsOf_225 rfl rfl (by decide) ?_) | (refine wp_iinc (pc := 225) dX6_aimsOf_225 rfl rfl (by decide) ?_)
        refine wp_goto (pc := 228) (tgt := 12) dX6_aimsOf_228 (by decide) ?_
        refine wp_drop 8 ?_
        exact g
    · exact absurd c_55 (by decide)
  have s2 : ∀ (P : Nat → Bool) (Q : Pst), WP ΩM (d + 3) kX6_aimsOf 12 [(0, .ref 0), (1, .int (nI k)), (2, .int (nI (asc s))), (3, .int (nI c)), (4, .int (bI nb)), (5, .int (nI 75)), (6, .int (nI (mset (fun t => P t || (cat w h (cxx w c + (1)) (cyy w c + (-1)) == some t))))), (7, .int (nI 3))] [] I J Q → WP ΩM (d + 3) kX6_aimsOf 12 [(0, .ref 0), (1, .int (nI k)), (2, .int (nI (asc s))), (3, .int (nI c)), (4, .int (bI nb)), (5, .int (nI 75)), (6, .int (nI (mset P))), (7, .int (nI 2))] [] I J Q := by
    clear g9 s0 s1
    intro P Q g
    refine ma_2 ?_
    refine wp_iload (pc := 52) dX6_aimsOf_52 rfl ?_
    refine wp_iconst (pc := 54) (v := nI 4) dX6_aimsOf_54 (by decide +kernel) ?_
    first | (refine wp_icmp_neN (pc := 55) (tgt := 67) dX6_aimsOf_55 (by decide) (by first | with_reducible assumption | omega) (by first | with_reducible assumption | omega) (fun c_55 => ?_) (fun c_55 => ?_)) | (refine wp_icmp_ne (pc := 55) (tgt := 67) dX6_aimsOf_55 (by decide) (fun c_55 => ?_) (fun c_55 => ?_))
    · refine wp_iload (pc := 67) dX6_aimsOf_67 rfl ?_
      refine wp_bipush (pc := 69) (v := nI 75) dX6_aimsOf_69 (by decide +kernel) ?_
      first | (refine wp_icmp_neN (pc := 71) (tgt := 91) dX6_aimsOf_71 (by decide) (by first | with_reducible assumption | omega) (by first | with_reducible assumption | omega) (fun c_71 => ?_) (fun c_71 => ?_)) | (refine wp_icmp_ne (pc := 71) (tgt := 91) dX6_aimsOf_71 (by decide) (fun c_71 => ?_) (fun c_71 => ?_))
      · exact absurd rfl c_71
      · refine wp_iload (pc := 74) dX6_aimsOf_74 rfl ?_
        refine wp_aload_n (pc := 76) (i := 0) dX6_aimsOf_76 rfl rfl (by first | with_reducible assumption | rfl) ?_
        refine wp_iload_n (pc := 77) (i := 3) dX6_aimsOf_77 rfl rfl ?_
        refine wp_iload (pc := 78) dX6_aimsOf_78 rfl ?_
        refine wp_iload (pc := 80) dX6_aimsOf_80 rfl ?_
        refine wp_cVP3 (pc := 82) (ci := 6) dX6_aimsOf_82 lm_X6_108 m_X6_step (by first | with_reducible assumption | rfl) (by first | with_reducible assumption | rfl) (by decide) rfl (Nat.le_of_ble_eq_true rfl) (sp_X6_step (d := d) hW hc (by omega) (by omega)) ?_
        first | (refine wp_iorN (pc := 85) dX6_aimsOf_85 ?_) | (refine wp_ior (pc := 85) dX6_aimsOf_85 ?_)
        rw [st_or n16]
        refine wp_istore (pc := 86) dX6_aimsOf_86 (by decide) ?_
        refine wp_goto (pc := 88) (tgt := 225) dX6_aimsOf_88 (by decide) ?_
        first | (refine wp_iincN (pc := 225) (m := 1) dX6_aimsOf_225 rfl rfl (by decide) ?_) | (refine wp_iinc (pc := 225) dX6_aimsOf_225 rfl rfl (by decide) ?_)
        refine wp_goto (pc := 228) (tgt := 12) dX6_aimsOf_228 (by decide) ?_
        refine wp_drop 8 ?_
        exact g
    · exact absurd c_55 (by decide)
  have s3 : ∀ (P : Nat → Bool) (Q : Pst), WP ΩM (d + 3) kX6_aimsOf 12 [(0, .ref 0), (1, .int (nI k)), (2, .int (nI (asc s))), (3, .int (nI c)), (4, .int (bI nb)), (5, .int (nI 75)), (6, .int (nI (mset (fun t => P t || (cat w h (cxx w c + (-1)) (cyy w c + (0)) == some t))))), (7, .int (nI 4))] [] I J Q → WP ΩM (d + 3) kX6_aimsOf 12 [(0, .ref 0), (1, .int (nI k)), (2, .int (nI (asc s))), (3, .int (nI c)), (4, .int (bI nb)), (5, .int (nI 75)), (6, .int (nI (mset P))), (7, .int (nI 3))] [] I J Q := by
    clear g9 s0 s1 s2
    intro P Q g
    refine ma_3 ?_
    refine wp_iload (pc := 52) dX6_aimsOf_52 rfl ?_
    refine wp_iconst (pc := 54) (v := nI 4) dX6_aimsOf_54 (by decide +kernel) ?_
    first | (refine wp_icmp_neN (pc := 55) (tgt := 67) dX6_aimsOf_55 (by decide) (by first | with_reducible assumption | omega) (by first | with_reducible assumption | omega) (fun c_55 => ?_) (fun c_55 => ?_)) | (refine wp_icmp_ne (pc := 55) (tgt := 67) dX6_aimsOf_55 (by decide) (fun c_55 => ?_) (fun c_55 => ?_))
    · refine wp_iload (pc := 67) dX6_aimsOf_67 rfl ?_
      refine wp_bipush (pc := 69) (v := nI 75) dX6_aimsOf_69 (by decide +kernel) ?_
      first | (refine wp_icmp_neN (pc := 71) (tgt := 91) dX6_aimsOf_71 (by decide) (by first | with_reducible assumption | omega) (by first | with_reducible assumption | omega) (fun c_71 => ?_) (fun c_71 => ?_)) | (refine wp_icmp_ne (pc := 71) (tgt := 91) dX6_aimsOf_71 (by decide) (fun c_71 => ?_) (fun c_71 => ?_))
      · exact absurd rfl c_71
      · refine wp_iload (pc := 74) dX6_aimsOf_74 rfl ?_
        refine wp_aload_n (pc := 76) (i := 0) dX6_aimsOf_76 rfl rfl (by first | with_reducible assumption | rfl) ?_
        refine wp_iload_n (pc := 77) (i := 3) dX6_aimsOf_77 rfl rfl ?_
        refine wp_iload (pc := 78) dX6_aimsOf_78 rfl ?_
        refine wp_iload (pc := 80) dX6_aimsOf_80 rfl ?_
        refine wp_cVP3 (pc := 82) (ci := 6) dX6_aimsOf_82 lm_X6_108 m_X6_step (by first | with_reducible assumption | rfl) (by first | with_reducible assumption | rfl) (by decide) rfl (Nat.le_of_ble_eq_true rfl) (sp_X6_step (d := d) hW hc (by omega) (by omega)) ?_
        first | (refine wp_iorN (pc := 85) dX6_aimsOf_85 ?_) | (refine wp_ior (pc := 85) dX6_aimsOf_85 ?_)
        rw [st_or n16]
        refine wp_istore (pc := 86) dX6_aimsOf_86 (by decide) ?_
        refine wp_goto (pc := 88) (tgt := 225) dX6_aimsOf_88 (by decide) ?_
        first | (refine wp_iincN (pc := 225) (m := 1) dX6_aimsOf_225 rfl rfl (by decide) ?_) | (refine wp_iinc (pc := 225) dX6_aimsOf_225 rfl rfl (by decide) ?_)
        refine wp_goto (pc := 228) (tgt := 12) dX6_aimsOf_228 (by decide) ?_
        refine wp_drop 8 ?_
        exact g
    · exact absurd c_55 (by decide)
  have s4 : ∀ (P : Nat → Bool) (Q : Pst), WP ΩM (d + 3) kX6_aimsOf 12 [(0, .ref 0), (1, .int (nI k)), (2, .int (nI (asc s))), (3, .int (nI c)), (4, .int (bI nb)), (5, .int (nI 75)), (6, .int (nI (mset P))), (7, .int (nI 5))] [] I J Q → WP ΩM (d + 3) kX6_aimsOf 12 [(0, .ref 0), (1, .int (nI k)), (2, .int (nI (asc s))), (3, .int (nI c)), (4, .int (bI nb)), (5, .int (nI 75)), (6, .int (nI (mset P))), (7, .int (nI 4))] [] I J Q := by
    clear g9 s0 s1 s2 s3
    intro P Q g
    refine ma_4 ?_
    refine wp_iload (pc := 52) dX6_aimsOf_52 rfl ?_
    refine wp_iconst (pc := 54) (v := nI 4) dX6_aimsOf_54 (by decide +kernel) ?_
    first | (refine wp_icmp_neN (pc := 55) (tgt := 67) dX6_aimsOf_55 (by decide) (by first | with_reducible assumption | omega) (by first | with_reducible assumption | omega) (fun c_55 => ?_) (fun c_55 => ?_)) | (refine wp_icmp_ne (pc := 55) (tgt := 67) dX6_aimsOf_55 (by decide) (fun c_55 => ?_) (fun c_55 => ?_))
    · exact absurd rfl c_55
    · refine wp_iload (pc := 58) dX6_aimsOf_58 rfl ?_
      refine wp_iconst (pc := 60) (v := nI 0) dX6_aimsOf_60 (by decide +kernel) ?_
      refine wp_ior (pc := 61) dX6_aimsOf_61 ?_
      rw [show ∀ x : Int32, x ||| nI 0 = x from fun x => by rw [show nI 0 = (0 : Int32) from rfl, Int32.or_zero]]
      refine wp_istore (pc := 62) dX6_aimsOf_62 (by decide) ?_
      refine wp_goto (pc := 64) (tgt := 225) dX6_aimsOf_64 (by decide) ?_
      first | (refine wp_iincN (pc := 225) (m := 1) dX6_aimsOf_225 rfl rfl (by decide) ?_) | (refine wp_iinc (pc := 225) dX6_aimsOf_225 rfl rfl (by decide) ?_)
      refine wp_goto (pc := 228) (tgt := 12) dX6_aimsOf_228 (by decide) ?_
      refine wp_drop 8 ?_
      exact g
  have s5 : ∀ (P : Nat → Bool) (Q : Pst), WP ΩM (d + 3) kX6_aimsOf 12 [(0, .ref 0), (1, .int (nI k)), (2, .int (nI (asc s))), (3, .int (nI c)), (4, .int (bI nb)), (5, .int (nI 75)), (6, .int (nI (mset (fun t => P t || (cat w h (cxx w c + (1)) (cyy w c + (0)) == some t))))), (7, .int (nI 6))] [] I J Q → WP ΩM (d + 3) kX6_aimsOf 12 [(0, .ref 0), (1, .int (nI k)), (2, .int (nI (asc s))), (3, .int (nI c)), (4, .int (bI nb)), (5, .int (nI 75)), (6, .int (nI (mset P))), (7, .int (nI 5))] [] I J Q := by
    clear g9 s0 s1 s2 s3 s4
    intro P Q g
    refine ma_5 ?_
    refine wp_iload (pc := 52) dX6_aimsOf_52 rfl ?_
    refine wp_iconst (pc := 54) (v := nI 4) dX6_aimsOf_54 (by decide +kernel) ?_
    first | (refine wp_icmp_neN (pc := 55) (tgt := 67) dX6_aimsOf_55 (by decide) (by first | with_reducible assumption | omega) (by first | with_reducible assumption | omega) (fun c_55 => ?_) (fun c_55 => ?_)) | (refine wp_icmp_ne (pc := 55) (tgt := 67) dX6_aimsOf_55 (by decide) (fun c_55 => ?_) (fun c_55 => ?_))
    · refine wp_iload (pc := 67) dX6_aimsOf_67 rfl ?_
      refine wp_bipush (pc := 69) (v := nI 75) dX6_aimsOf_69 (by decide +kernel) ?_
      first | (refine wp_icmp_neN (pc := 71) (tgt := 91) dX6_aimsOf_71 (by decide) (by first | with_reducible assumption | omega) (by first | with_reducible assumption | omega) (fun c_71 => ?_) (fun c_71 => ?_)) | (refine wp_icmp_ne (pc := 71) (tgt := 91) dX6_aimsOf_71 (by decide) (fun c_71 => ?_) (fun c_71 => ?_))
      · exact absurd rfl c_71
      · refine wp_iload (pc := 74) dX6_aimsOf_74 rfl ?_
        refine wp_aload_n (pc := 76) (i := 0) dX6_aimsOf_76 rfl rfl (by first | with_reducible assumption | rfl) ?_
        refine wp_iload_n (pc := 77) (i := 3) dX6_aimsOf_77 rfl rfl ?_
        refine wp_iload (pc := 78) dX6_aimsOf_78 rfl ?_
        refine wp_iload (pc := 80) dX6_aimsOf_80 rfl ?_
        refine wp_cVP3 (pc := 82) (ci := 6) dX6_aimsOf_82 lm_X6_108 m_X6_step (by first | with_reducible assumption | rfl) (by first | with_reducible assumption | rfl) (by decide) rfl (Nat.le_of_ble_eq_true rfl) (sp_X6_step (d := d) hW hc (by omega) (by omega)) ?_
        first | (refine wp_iorN (pc := 85) dX6_aimsOf_85 ?_) | (refine wp_ior (pc := 85) dX6_aimsOf_85 ?_)
        rw [st_or n16]
        refine wp_istore (pc := 86) dX6_aimsOf_86 (by decide) ?_
        refine wp_goto (pc := 88) (tgt := 225) dX6_aimsOf_88 (by decide) ?_
        first | (refine wp_iincN (pc := 225) (m := 1) dX6_aimsOf_225 rfl rfl (by decide) ?_) | (refine wp_iinc (pc := 225) dX6_aimsOf_225 rfl rfl (by decide) ?_)
        refine wp_goto (pc := 228) (tgt := 12) dX6_aimsOf_228 (by decide) ?_
        refine wp_drop 8 ?_
        exact g
    · exact absurd c_55 (by decide)
  have s6 : ∀ (P : Nat → Bool) (Q : Pst), WP ΩM (d + 3) kX6_aimsOf 12 [(0, .ref 0), (1, .int (nI k)), (2, .int (nI (asc s))), (3, .int (nI c)), (4, .int (bI nb)), (5, .int (nI 75)), (6, .int (nI (mset (fun t => P t || (cat w h (cxx w c + (-1)) (cyy w c + (1)) == some t))))), (7, .int (nI 7))] [] I J Q → WP ΩM (d + 3) kX6_aimsOf 12 [(0, .ref 0), (1, .int (nI k)), (2, .int (nI (asc s))), (3, .int (nI c)), (4, .int (bI nb)), (5, .int (nI 75)), (6, .int (nI (mset P))), (7, .int (nI 6))] [] I J Q := by
    clear g9 s0 s1 s2 s3 s4 s5
    intro P Q g
    refine ma_6 ?_
    refine wp_iload (pc := 52) dX6_aimsOf_52 rfl ?_
    refine wp_iconst (pc := 54) (v := nI 4) dX6_aimsOf_54 (by decide +kernel) ?_
    first | (refine wp_icmp_neN (pc := 55) (tgt := 67) dX6_aimsOf_55 (by decide) (by first | with_reducible assumption | omega) (by first | with_reducible assumption | omega) (fun c_55 => ?_) (fun c_55 => ?_)) | (refine wp_icmp_ne (pc := 55) (tgt := 67) dX6_aimsOf_55 (by decide) (fun c_55 => ?_) (fun c_55 => ?_))
    · refine wp_iload (pc := 67) dX6_aimsOf_67 rfl ?_
      refine wp_bipush (pc := 69) (v := nI 75) dX6_aimsOf_69 (by decide +kernel) ?_
      first | (refine wp_icmp_neN (pc := 71) (tgt := 91) dX6_aimsOf_71 (by decide) (by first | with_reducible assumption | omega) (by first | with_reducible assumption | omega) (fun c_71 => ?_) (fun c_71 => ?_)) | (refine wp_icmp_ne (pc := 71) (tgt := 91) dX6_aimsOf_71 (by decide) (fun c_71 => ?_) (fun c_71 => ?_))
      · exact absurd rfl c_71
      · refine wp_iload (pc := 74) dX6_aimsOf_74 rfl ?_
        refine wp_aload_n (pc := 76) (i := 0) dX6_aimsOf_76 rfl rfl (by first | with_reducible assumption | rfl) ?_
        refine wp_iload_n (pc := 77) (i := 3) dX6_aimsOf_77 rfl rfl ?_
        refine wp_iload (pc := 78) dX6_aimsOf_78 rfl ?_
        refine wp_iload (pc := 80) dX6_aimsOf_80 rfl ?_
        refine wp_cVP3 (pc := 82) (ci := 6) dX6_aimsOf_82 lm_X6_108 m_X6_step (by first | with_reducible assumption | rfl) (by first | with_reducible assumption | rfl) (by decide) rfl (Nat.le_of_ble_eq_true rfl) (sp_X6_step (d := d) hW hc (by omega) (by omega)) ?_
        first | (refine wp_iorN (pc := 85) dX6_aimsOf_85 ?_) | (refine wp_ior (pc := 85) dX6_aimsOf_85 ?_)
        rw [st_or n16]
        refine wp_istore (pc := 86) dX6_aimsOf_86 (by decide) ?_
        refine wp_goto (pc := 88) (tgt := 225) dX6_aimsOf_88 (by decide) ?_
        first | (refine wp_iincN (pc := 225) (m := 1) dX6_aimsOf_225 rfl rfl (by decide) ?_) | (refine wp_iinc (pc := 225) dX6_aimsOf_225 rfl rfl (by decide) ?_)
        refine wp_goto (pc := 228) (tgt := 12) dX6_aimsOf_228 (by decide) ?_
        refine wp_drop 8 ?_
        exact g
    · exact absurd c_55 (by decide)
  have s7 : ∀ (P : Nat → Bool) (Q : Pst), WP ΩM (d + 3) kX6_aimsOf 12 [(0, .ref 0), (1, .int (nI k)), (2, .int (nI (asc s))), (3, .int (nI c)), (4, .int (bI nb)), (5, .int (nI 75)), (6, .int (nI (mset (fun t => P t || (cat w h (cxx w c + (0)) (cyy w c + (1)) == some t))))), (7, .int (nI 8))] [] I J Q → WP ΩM (d + 3) kX6_aimsOf 12 [(0, .ref 0), (1, .int (nI k)), (2, .int (nI (asc s))), (3, .int (nI c)), (4, .int (bI nb)), (5, .int (nI 75)), (6, .int (nI (mset P))), (7, .int (nI 7))] [] I J Q := by
    clear g9 s0 s1 s2 s3 s4 s5 s6
    intro P Q g
    refine ma_7 ?_
    refine wp_iload (pc := 52) dX6_aimsOf_52 rfl ?_
    refine wp_iconst (pc := 54) (v := nI 4) dX6_aimsOf_54 (by decide +kernel) ?_
    first | (refine wp_icmp_neN (pc := 55) (tgt := 67) dX6_aimsOf_55 (by decide) (by first | with_reducible assumption | omega) (by first | with_reducible assumption | omega) (fun c_55 => ?_) (fun c_55 => ?_)) | (refine wp_icmp_ne (pc := 55) (tgt := 67) dX6_aimsOf_55 (by decide) (fun c_55 => ?_) (fun c_55 => ?_))
    · refine wp_iload (pc := 67) dX6_aimsOf_67 rfl ?_
      refine wp_bipush (pc := 69) (v := nI 75) dX6_aimsOf_69 (by decide +kernel) ?_
      first | (refine wp_icmp_neN (pc := 71) (tgt := 91) dX6_aimsOf_71 (by decide) (by first | with_reducible assumption | omega) (by first | with_reducible assumption | omega) (fun c_71 => ?_) (fun c_71 => ?_)) | (refine wp_icmp_ne (pc := 71) (tgt := 91) dX6_aimsOf_71 (by decide) (fun c_71 => ?_) (fun c_71 => ?_))
      · exact absurd rfl c_71
      · refine wp_iload (pc := 74) dX6_aimsOf_74 rfl ?_
        refine wp_aload_n (pc := 76) (i := 0) dX6_aimsOf_76 rfl rfl (by first | with_reducible assumption | rfl) ?_
        refine wp_iload_n (pc := 77) (i := 3) dX6_aimsOf_77 rfl rfl ?_
        refine wp_iload (pc := 78) dX6_aimsOf_78 rfl ?_
        refine wp_iload (pc := 80) dX6_aimsOf_80 rfl ?_
        refine wp_cVP3 (pc := 82) (ci := 6) dX6_aimsOf_82 lm_X6_108 m_X6_step (by first | with_reducible assumption | rfl) (by first | with_reducible assumption | rfl) (by decide) rfl (Nat.le_of_ble_eq_true rfl) (sp_X6_step (d := d) hW hc (by omega) (by omega)) ?_
        first | (refine wp_iorN (pc := 85) dX6_aimsOf_85 ?_) | (refine wp_ior (pc := 85) dX6_aimsOf_85 ?_)
        rw [st_or n16]
        refine wp_istore (pc := 86) dX6_aimsOf_86 (by decide) ?_
        refine wp_goto (pc := 88) (tgt := 225) dX6_aimsOf_88 (by decide) ?_
        first | (refine wp_iincN (pc := 225) (m := 1) dX6_aimsOf_225 rfl rfl (by decide) ?_) | (refine wp_iinc (pc := 225) dX6_aimsOf_225 rfl rfl (by decide) ?_)
        refine wp_goto (pc := 228) (tgt := 12) dX6_aimsOf_228 (by decide) ?_
        refine wp_drop 8 ?_
        exact g
    · exact absurd c_55 (by decide)
  have s8 : ∀ (P : Nat → Bool) (Q : Pst), WP ΩM (d + 3) kX6_aimsOf 12 [(0, .ref 0), (1, .int (nI k)), (2, .int (nI (asc s))), (3, .int (nI c)), (4, .int (bI nb)), (5, .int (nI 75)), (6, .int (nI (mset (fun t => P t || (cat w h (cxx w c + (1)) (cyy w c + (1)) == some t))))), (7, .int (nI 9))] [] I J Q → WP ΩM (d + 3) kX6_aimsOf 12 [(0, .ref 0), (1, .int (nI k)), (2, .int (nI (asc s))), (3, .int (nI c)), (4, .int (bI nb)), (5, .int (nI 75)), (6, .int (nI (mset P))), (7, .int (nI 8))] [] I J Q := by
    clear g9 s0 s1 s2 s3 s4 s5 s6 s7
    intro P Q g
    refine ma_8 ?_
    refine wp_iload (pc := 52) dX6_aimsOf_52 rfl ?_
    refine wp_iconst (pc := 54) (v := nI 4) dX6_aimsOf_54 (by decide +kernel) ?_
    first | (refine wp_icmp_neN (pc := 55) (tgt := 67) dX6_aimsOf_55 (by decide) (by first | with_reducible assumption | omega) (by first | with_reducible assumption | omega) (fun c_55 => ?_) (fun c_55 => ?_)) | (refine wp_icmp_ne (pc := 55) (tgt := 67) dX6_aimsOf_55 (by decide) (fun c_55 => ?_) (fun c_55 => ?_))
    · refine wp_iload (pc := 67) dX6_aimsOf_67 rfl ?_
      refine wp_bipush (pc := 69) (v := nI 75) dX6_aimsOf_69 (by decide +kernel) ?_
      first | (refine wp_icmp_neN (pc := 71) (tgt := 91) dX6_aimsOf_71 (by decide) (by first | with_reducible assumption | omega) (by first | with_reducible assumption | omega) (fun c_71 => ?_) (fun c_71 => ?_)) | (refine wp_icmp_ne (pc := 71) (tgt := 91) dX6_aimsOf_71 (by decide) (fun c_71 => ?_) (fun c_71 => ?_))
      · exact absurd rfl c_71
      · refine wp_iload (pc := 74) dX6_aimsOf_74 rfl ?_
        refine wp_aload_n (pc := 76) (i := 0) dX6_aimsOf_76 rfl rfl (by first | with_reducible assumption | rfl) ?_
        refine wp_iload_n (pc := 77) (i := 3) dX6_aimsOf_77 rfl rfl ?_
        refine wp_iload (pc := 78) dX6_aimsOf_78 rfl ?_
        refine wp_iload (pc := 80) dX6_aimsOf_80 rfl ?_
        refine wp_cVP3 (pc := 82) (ci := 6) dX6_aimsOf_82 lm_X6_108 m_X6_step (by first | with_reducible assumption | rfl) (by first | with_reducible assumption | rfl) (by decide) rfl (Nat.le_of_ble_eq_true rfl) (sp_X6_step (d := d) hW hc (by omega) (by omega)) ?_
        first | (refine wp_iorN (pc := 85) dX6_aimsOf_85 ?_) | (refine wp_ior (pc := 85) dX6_aimsOf_85 ?_)
        rw [st_or n16]
        refine wp_istore (pc := 86) dX6_aimsOf_86 (by decide) ?_
        refine wp_goto (pc := 88) (tgt := 225) dX6_aimsOf_88 (by decide) ?_
        first | (refine wp_iincN (pc := 225) (m := 1) dX6_aimsOf_225 rfl rfl (by decide) ?_) | (refine wp_iinc (pc := 225) dX6_aimsOf_225 rfl rfl (by decide) ?_)
        refine wp_goto (pc := 228) (tgt := 12) dX6_aimsOf_228 (by decide) ?_
        refine wp_drop 8 ?_
        exact g
    · exact absurd c_55 (by decide)
  have g0 := s0 (fun _ => false) _ (s1 _ _ (s2 _ _ (s3 _ _ (s4 _ _ (s5 _ _ (s6 _ _ (s7 _ _ (s8 _ _ (g9 _)))))))))
  rw [mset_none] at g0
  refine call_of_wp (by decide) (Nat.le_of_ble_eq_true rfl) ?_
  refine wp_iload_n (pc := 0) (i := 2) dX6_aimsOf_0 rfl rfl ?_
  refine wp_cSP1 (pc := 1) dX6_aimsOf_1 lm_X6_105 m_X6_kindOf (Nat.le_of_ble_eq_true rfl) hkf ?_
  refine wp_istore (pc := 4) dX6_aimsOf_4 (by decide) ?_
  refine wp_iconst (pc := 6) (v := nI 0) dX6_aimsOf_6 (by decide +kernel) ?_
  refine wp_istore (pc := 7) dX6_aimsOf_7 (by decide) ?_
  refine wp_iconst (pc := 9) (v := nI 0) dX6_aimsOf_9 (by decide +kernel) ?_
  refine wp_istore (pc := 10) dX6_aimsOf_10 (by decide) ?_
  exact g0
theorem am_R {w h k c s : Nat} {b : Bd} {nb : Bool} (hW : WH w h I) (hL : LV (w * h) k b I) (hs : ∀ c, c < 16 → b.1 c < 12) (hk : k < 4) (hc : c < w * h) (hs12 : s < 12) (hkd : kdA s = 82) : CALL ΩM (d + 3) kX6_aimsOf [.ref 0, .int (nI k), .int (nI (asc s)), .int (nI c), .int (bI nb)] I J (PQ (.int (nI (mset (fun t => ((((false || ray w h (nfr nb b.1) 0 3 (nbr w h c 0) t) || ray w h (nfr nb b.1) 6 3 (nbr w h c 6) t) || ray w h (nfr nb b.1) 2 3 (nbr w h c 2) t) || ray w h (nfr nb b.1) 4 3 (nbr w h c 4) t))))) I J) := by
  have n16 := (WH_n hW).2
  have ha := asc_lt s
  have hkf := sp_X6_kindOf (Ω := ΩM) (d := d + 1) (I := I) (J := J) hs12
  rw [hkd] at hkf
  have g9 : ∀ P : Nat → Bool, WP ΩM (d + 3) kX6_aimsOf 12 [(0, .ref 0), (1, .int (nI k)), (2, .int (nI (asc s))), (3, .int (nI c)), (4, .int (bI nb)), (5, .int (nI 82)), (6, .int (nI (mset P))), (7, .int (nI 9))] [] I J (PQ (.int (nI (mset P))) I J) := by
    intro P
    refine wp_iload (pc := 12) dX6_aimsOf_12 rfl ?_
    refine wp_bipush (pc := 14) (v := nI 9) dX6_aimsOf_14 (by decide +kernel) ?_
    first | (refine wp_icmp_geN (pc := 16) (tgt := 231) dX6_aimsOf_16 (by decide) (by first | with_reducible assumption | omega) (by first | with_reducible assumption | omega) (fun c_16 => ?_) (fun c_16 => ?_)) | (refine wp_icmp_ge (pc := 16) (tgt := 231) dX6_aimsOf_16 (by decide) (fun c_16 => ?_) (fun c_16 => ?_))
    · refine wp_iload (pc := 231) dX6_aimsOf_231 rfl ?_
      refine wp_ireturn (pc := 233) dX6_aimsOf_233 rfl ?_
      exact pq_i rfl
    · exact absurd (Nat.le_refl 9) c_16
  have s0 : ∀ (P : Nat → Bool) (Q : Pst), WP ΩM (d + 3) kX6_aimsOf 12 [(0, .ref 0), (1, .int (nI k)), (2, .int (nI (asc s))), (3, .int (nI c)), (4, .int (bI nb)), (5, .int (nI 82)), (6, .int (nI (mset P))), (7, .int (nI 1))] [] I J Q → WP ΩM (d + 3) kX6_aimsOf 12 [(0, .ref 0), (1, .int (nI k)), (2, .int (nI (asc s))), (3, .int (nI c)), (4, .int (bI nb)), (5, .int (nI 82)), (6, .int (nI (mset P))), (7, .int (nI 0))] [] I J Q := by
    intro P Q g
    refine ma_0 ?_
    refine wp_iload (pc := 52) dX6_aimsOf_52 rfl ?_
    refine wp_iconst (pc := 54) (v := nI 4) dX6_aimsOf_54 (by decide +kernel) ?_
    first | (refine wp_icmp_neN (pc := 55) (tgt := 67) dX6_aimsOf_55 (by decide) (by first | with_reducible assumption | omega) (by first | with_reducible assumption | omega) (fun c_55 => ?_) (fun c_55 => ?_)) | (refine wp_icmp_ne (pc := 55) (tgt := 67) dX6_aimsOf_55 (by decide) (fun c_55 => ?_) (fun c_55 => ?_))
    · refine wp_iload (pc := 67) dX6_aimsOf_67 rfl ?_
      refine wp_bipush (pc := 69) (v := nI 75) dX6_aimsOf_69 (by decide +kernel) ?_
      first | (refine wp_icmp_neN (pc := 71) (tgt := 91) dX6_aimsOf_71 (by decide) (by first | with_reducible assumption | omega) (by first | with_reducible assumption | omega) (fun c_71 => ?_) (fun c_71 => ?_)) | (refine wp_icmp_ne (pc := 71) (tgt := 91) dX6_aimsOf_71 (by decide) (fun c_71 => ?_) (fun c_71 => ?_))
      · refine wp_iload (pc := 91) dX6_aimsOf_91 rfl ?_
        refine wp_bipush (pc := 93) (v := nI 82) dX6_aimsOf_93 (by decide +kernel) ?_
        first | (refine wp_icmp_neN (pc := 95) (tgt := 103) dX6_aimsOf_95 (by decide) (by first | with_reducible assumption | omega) (by first | with_reducible assumption | omega) (fun c_95 => ?_) (fun c_95 => ?_)) | (refine wp_icmp_ne (pc := 95) (tgt := 103) dX6_aimsOf_95 (by decide) (fun c_95 => ?_) (fun c_95 => ?_))
        · exact absurd rfl c_95
        · refine wp_iload (pc := 98) dX6_aimsOf_98 rfl ?_
          refine wp_if_neN (pc := 100) (tgt := 115) dX6_aimsOf_100 (by decide) (by first | with_reducible assumption | omega) (fun c_100 => ?_) (fun c_100 => ?_)
          · exact absurd rfl c_100
          · refine wp_iload (pc := 103) dX6_aimsOf_103 rfl ?_
            refine wp_bipush (pc := 105) (v := nI 66) dX6_aimsOf_105 (by decide +kernel) ?_
            first | (refine wp_icmp_neN (pc := 107) (tgt := 135) dX6_aimsOf_107 (by decide) (by first | with_reducible assumption | omega) (by first | with_reducible assumption | omega) (fun c_107 => ?_) (fun c_107 => ?_)) | (refine wp_icmp_ne (pc := 107) (tgt := 135) dX6_aimsOf_107 (by decide) (fun c_107 => ?_) (fun c_107 => ?_))
            · refine wp_iload (pc := 135) dX6_aimsOf_135 rfl ?_
              refine wp_bipush (pc := 137) (v := nI 78) dX6_aimsOf_137 (by decide +kernel) ?_
              first | (refine wp_icmp_neN (pc := 139) (tgt := 178) dX6_aimsOf_139 (by decide) (by first | with_reducible assumption | omega) (by first | with_reducible assumption | omega) (fun c_139 => ?_) (fun c_139 => ?_)) | (refine wp_icmp_ne (pc := 139) (tgt := 178) dX6_aimsOf_139 (by decide) (fun c_139 => ?_) (fun c_139 => ?_))
              · refine wp_iload (pc := 178) dX6_aimsOf_178 rfl ?_
                refine wp_bipush (pc := 180) (v := nI 80) dX6_aimsOf_180 (by decide +kernel) ?_
                first | (refine wp_icmp_neN (pc := 182) (tgt := 225) dX6_aimsOf_182 (by decide) (by first | with_reducible assumption | omega) (by first | with_reducible assumption | omega) (fun c_182 => ?_) (fun c_182 => ?_)) | (refine wp_icmp_ne (pc := 182) (tgt := 225) dX6_aimsOf_182 (by decide) (fun c_182 => ?_) (fun c_182 => ?_))
                · first | (refine wp_iincN (pc := 225) (m := 1) dX6_aimsOf_225 rfl rfl (by decide) ?_) | (refine wp_iinc (pc := 225) dX6_aimsOf_225 rfl rfl (by decide) ?_)
                  refine wp_goto (pc := 228) (tgt := 12) dX6_aimsOf_228 (by decide) ?_
                  refine wp_drop 8 ?_
                  exact g
                · exact absurd c_182 (by decide)
              · exact absurd c_139 (by decide)
            · exact absurd c_107 (by decide)
      · exact absurd c_71 (by decide)
    · exact absurd c_55 (by decide)
  have s1 : ∀ (P : Nat → Bool) (Q : Pst), WP ΩM (d + 3) kX6_aimsOf 12 [(0, .ref 0), (1, .int (nI k)), (2, .int (nI (asc s))), (3, .int (nI c)), (4, .int (bI nb)), (5, .int (nI 82)), (6, .int (nI (mset (fun t => P t || ray w h (nfr nb b.1) 0 3 (nbr w h c 0) t)))), (7, .int (nI 2))] [] I J Q → WP ΩM (d + 3) kX6_aimsOf 12 [(0, .ref 0), (1, .int (nI k)), (2, .int (nI (asc s))), (3, .int (nI c)), (4, .int (bI nb)), (5, .int (nI 82)), (6, .int (nI (mset P))), (7, .int (nI 1))] [] I J Q := by
    clear g9 s0
    intro P Q g
    refine ma_1 ?_
    refine wp_iload (pc := 52) dX6_aimsOf_52 rfl ?_
    refine wp_iconst (pc := 54) (v := nI 4) dX6_aimsOf_54 (by decide +kernel) ?_
    first | (refine wp_icmp_neN (pc := 55) (tgt := 67) dX6_aimsOf_55 (by decide) (by first | with_reducible assumption | omega) (by first | with_reducible assumption | omega) (fun c_55 => ?_) (fun c_55 => ?_)) | (refine wp_icmp_ne (pc := 55) (tgt := 67) dX6_aimsOf_55 (by decide) (fun c_55 => ?_) (fun c_55 => ?_))
    · refine wp_iload (pc := 67) dX6_aimsOf_67 rfl ?_
      refine wp_bipush (pc := 69) (v := nI 75) dX6_aimsOf_69 (by decide +kernel) ?_
      first | (refine wp_icmp_neN (pc := 71) (tgt := 91) dX6_aimsOf_71 (by decide) (by first | with_reducible assumption | omega) (by first | with_reducible assumption | omega) (fun c_71 => ?_) (fun c_71 => ?_)) | (refine wp_icmp_ne (pc := 71) (tgt := 91) dX6_aimsOf_71 (by decide) (fun c_71 => ?_) (fun c_71 => ?_))
      · refine wp_iload (pc := 91) dX6_aimsOf_91 rfl ?_
        refine wp_bipush (pc := 93) (v := nI 82) dX6_aimsOf_93 (by decide +kernel) ?_
        first | (refine wp_icmp_neN (pc := 95) (tgt := 103) dX6_aimsOf_95 (by decide) (by first | with_reducible assumption | omega) (by first | with_reducible assumption | omega) (fun c_95 => ?_) (fun c_95 => ?_)) | (refine wp_icmp_ne (pc := 95) (tgt := 103) dX6_aimsOf_95 (by decide) (fun c_95 => ?_) (fun c_95 => ?_))
        · exact absurd rfl c_95
        · refine wp_iload (pc := 98) dX6_aimsOf_98 rfl ?_
          refine wp_if_neN (pc := 100) (tgt := 115) dX6_aimsOf_100 (by decide) (by first | with_reducible assumption | omega) (fun c_100 => ?_) (fun c_100 => ?_)
          · refine wp_iload (pc := 115) dX6_aimsOf_115 rfl ?_
            refine wp_aload_n (pc := 117) (i := 0) dX6_aimsOf_117 rfl rfl (by first | with_reducible assumption | rfl) ?_
            refine wp_iload_n (pc := 118) (i := 1) dX6_aimsOf_118 rfl rfl ?_
            refine wp_iload_n (pc := 119) (i := 3) dX6_aimsOf_119 rfl rfl ?_
            refine wp_iload (pc := 120) dX6_aimsOf_120 rfl ?_
            refine wp_iload (pc := 122) dX6_aimsOf_122 rfl ?_
            refine wp_iload (pc := 124) dX6_aimsOf_124 rfl ?_
            refine wp_cVP5 (pc := 126) (ci := 6) dX6_aimsOf_126 lm_X6_111 m_X6_line (by first | with_reducible assumption | rfl) (by first | with_reducible assumption | rfl) (by decide) rfl (Nat.le_of_ble_eq_true rfl) (sp_X6_line (d := d) (y := 0) hW hL hs hk hc (by decide)) ?_
            first | (refine wp_iorN (pc := 129) dX6_aimsOf_129 ?_) | (refine wp_ior (pc := 129) dX6_aimsOf_129 ?_)
            rw [mset_or]
            refine wp_istore (pc := 130) dX6_aimsOf_130 (by decide) ?_
            refine wp_goto (pc := 132) (tgt := 225) dX6_aimsOf_132 (by decide) ?_
            first | (refine wp_iincN (pc := 225) (m := 1) dX6_aimsOf_225 rfl rfl (by decide) ?_) | (refine wp_iinc (pc := 225) dX6_aimsOf_225 rfl rfl (by decide) ?_)
            refine wp_goto (pc := 228) (tgt := 12) dX6_aimsOf_228 (by decide) ?_
            refine wp_drop 8 ?_
            exact g
          · exact absurd c_100 (by decide)
      · exact absurd c_71 (by decide)
    · exact absurd c_55 (by decide)
  have s2 : ∀ (P : Nat → Bool) (Q : Pst), WP ΩM (d + 3) kX6_aimsOf 12 [(0, .ref 0), (1, .int (nI k)), (2, .int (nI (asc s))), (3, .int (nI c)), (4, .int (bI nb)), (5, .int (nI 82)), (6, .int (nI (mset P))), (7, .int (nI 3))] [] I J Q → WP ΩM (d + 3) kX6_aimsOf 12 [(0, .ref 0), (1, .int (nI k)), (2, .int (nI (asc s))), (3, .int (nI c)), (4, .int (bI nb)), (5, .int (nI 82)), (6, .int (nI (mset P))), (7, .int (nI 2))] [] I J Q := by
    clear g9 s0 s1
    intro P Q g
    refine ma_2 ?_
    refine wp_iload (pc := 52) dX6_aimsOf_52 rfl ?_
    refine wp_iconst (pc := 54) (v := nI 4) dX6_aimsOf_54 (by decide +kernel) ?_
    first | (refine wp_icmp_neN (pc := 55) (tgt := 67) dX6_aimsOf_55 (by decide) (by first | with_reducible assumption | omega) (by first | with_reducible assumption | omega) (fun c_55 => ?_) (fun c_55 => ?_)) | (refine wp_icmp_ne (pc := 55) (tgt := 67) dX6_aimsOf_55 (by decide) (fun c_55 => ?_) (fun c_55 => ?_))
    · refine wp_iload (pc := 67) dX6_aimsOf_67 rfl ?_
      refine wp_bipush (pc := 69) (v := nI 75) dX6_aimsOf_69 (by decide +kernel) ?_
      first | (refine wp_icmp_neN (pc := 71) (tgt := 91) dX6_aimsOf_71 (by decide) (by first | with_reducible assumption | omega) (by first | with_reducible assumption | omega) (fun c_71 => ?_) (fun c_71 => ?_)) | (refine wp_icmp_ne (pc := 71) (tgt := 91) dX6_aimsOf_71 (by decide) (fun c_71 => ?_) (fun c_71 => ?_))
      · refine wp_iload (pc := 91) dX6_aimsOf_91 rfl ?_
        refine wp_bipush (pc := 93) (v := nI 82) dX6_aimsOf_93 (by decide +kernel) ?_
        first | (refine wp_icmp_neN (pc := 95) (tgt := 103) dX6_aimsOf_95 (by decide) (by first | with_reducible assumption | omega) (by first | with_reducible assumption | omega) (fun c_95 => ?_) (fun c_95 => ?_)) | (refine wp_icmp_ne (pc := 95) (tgt := 103) dX6_aimsOf_95 (by decide) (fun c_95 => ?_) (fun c_95 => ?_))
        · exact absurd rfl c_95
        · refine wp_iload (pc := 98) dX6_aimsOf_98 rfl ?_
          refine wp_if_neN (pc := 100) (tgt := 115) dX6_aimsOf_100 (by decide) (by first | with_reducible assumption | omega) (fun c_100 => ?_) (fun c_100 => ?_)
          · exact absurd rfl c_100
          · refine wp_iload (pc := 103) dX6_aimsOf_103 rfl ?_
            refine wp_bipush (pc := 105) (v := nI 66) dX6_aimsOf_105 (by decide +kernel) ?_
            first | (refine wp_icmp_neN (pc := 107) (tgt := 135) dX6_aimsOf_107 (by decide) (by first | with_reducible assumption | omega) (by first | with_reducible assumption | omega) (fun c_107 => ?_) (fun c_107 => ?_)) | (refine wp_icmp_ne (pc := 107) (tgt := 135) dX6_aimsOf_107 (by decide) (fun c_107 => ?_) (fun c_107 => ?_))
            · refine wp_iload (pc := 135) dX6_aimsOf_135 rfl ?_
              refine wp_bipush (pc := 137) (v := nI 78) dX6_aimsOf_137 (by decide +kernel) ?_
              first | (refine wp_icmp_neN (pc := 139) (tgt := 178) dX6_aimsOf_139 (by decide) (by first | with_reducible assumption | omega) (by first | with_reducible assumption | omega) (fun c_139 => ?_) (fun c_139 => ?_)) | (refine wp_icmp_ne (pc := 139) (tgt := 178) dX6_aimsOf_139 (by decide) (fun c_139 => ?_) (fun c_139 => ?_))
              · refine wp_iload (pc := 178) dX6_aimsOf_178 rfl ?_
                refine wp_bipush (pc := 180) (v := nI 80) dX6_aimsOf_180 (by decide +kernel) ?_
                first | (refine wp_icmp_neN (pc := 182) (tgt := 225) dX6_aimsOf_182 (by decide) (by first | with_reducible assumption | omega) (by first | with_reducible assumption | omega) (fun c_182 => ?_) (fun c_182 => ?_)) | (refine wp_icmp_ne (pc := 182) (tgt := 225) dX6_aimsOf_182 (by decide) (fun c_182 => ?_) (fun c_182 => ?_))
                · first | (refine wp_iincN (pc := 225) (m := 1) dX6_aimsOf_225 rfl rfl (by decide) ?_) | (refine wp_iinc (pc := 225) dX6_aimsOf_225 rfl rfl (by decide) ?_)
                  refine wp_goto (pc := 228) (tgt := 12) dX6_aimsOf_228 (by decide) ?_
                  refine wp_drop 8 ?_
                  exact g
                · exact absurd c_182 (by decide)
              · exact absurd c_139 (by decide)
            · exact absurd c_107 (by decide)
      · exact absurd c_71 (by decide)
    · exact absurd c_55 (by decide)
  have s3 : ∀ (P : Nat → Bool) (Q : Pst), WP ΩM (d + 3) kX6_aimsOf 12 [(0, .ref 0), (1, .int (nI k)), (2, .int (nI (asc s))), (3, .int (nI c)), (4, .int (bI nb)), (5, .int (nI 82)), (6, .int (nI (mset (fun t => P t || ray w h (nfr nb b.1) 6 3 (nbr w h c 6) t)))), (7, .int (nI 4))] [] I J Q → WP ΩM (d + 3) kX6_aimsOf 12 [(0, .ref 0), (1, .int (nI k)), (2, .int (nI (asc s))), (3, .int (nI c)), (4, .int (bI nb)), (5, .int (nI 82)), (6, .int (nI (mset P))), (7, .int (nI 3))] [] I J Q := by
    clear g9 s0 s1 s2
    intro P Q g
    refine ma_3 ?_
    refine wp_iload (pc := 52) dX6_aimsOf_52 rfl ?_
    refine wp_iconst (pc := 54) (v := nI 4) dX6_aimsOf_54 (by decide +kernel) ?_
    first | (refine wp_icmp_neN (pc := 55) (tgt := 67) dX6_aimsOf_55 (by decide) (by first | with_reducible assumption | omega) (by first | with_reducible assumption | omega) (fun c_55 => ?_) (fun c_55 => ?_)) | (refine wp_icmp_ne (pc := 55) (tgt := 67) dX6_aimsOf_55 (by decide) (fun c_55 => ?_) (fun c_55 => ?_))
    · refine wp_iload (pc := 67) dX6_aimsOf_67 rfl ?_
      refine wp_bipush (pc := 69) (v := nI 75) dX6_aimsOf_69 (by decide +kernel) ?_
      first | (refine wp_icmp_neN (pc := 71) (tgt := 91) dX6_aimsOf_71 (by decide) (by first | with_reducible assumption | omega) (by first | with_reducible assumption | omega) (fun c_71 => ?_) (fun c_71 => ?_)) | (refine wp_icmp_ne (pc := 71) (tgt := 91) dX6_aimsOf_71 (by decide) (fun c_71 => ?_) (fun c_71 => ?_))
      · refine wp_iload (pc := 91) dX6_aimsOf_91 rfl ?_
        refine wp_bipush (pc := 93) (v := nI 82) dX6_aimsOf_93 (by decide +kernel) ?_
        first | (refine wp_icmp_neN (pc := 95) (tgt := 103) dX6_aimsOf_95 (by decide) (by first | with_reducible assumption | omega) (by first | with_reducible assumption | omega) (fun c_95 => ?_) (fun c_95 => ?_)) | (refine wp_icmp_ne (pc := 95) (tgt := 103) dX6_aimsOf_95 (by decide) (fun c_95 => ?_) (fun c_95 => ?_))
        · exact absurd rfl c_95
        · refine wp_iload (pc := 98) dX6_aimsOf_98 rfl ?_
          refine wp_if_neN (pc := 100) (tgt := 115) dX6_aimsOf_100 (by decide) (by first | with_reducible assumption | omega) (fun c_100 => ?_) (fun c_100 => ?_)
          · refine wp_iload (pc := 115) dX6_aimsOf_115 rfl ?_
            refine wp_aload_n (pc := 117) (i := 0) dX6_aimsOf_117 rfl rfl (by first | with_reducible assumption | rfl) ?_
            refine wp_iload_n (pc := 118) (i := 1) dX6_aimsOf_118 rfl rfl ?_
            refine wp_iload_n (pc := 119) (i := 3) dX6_aimsOf_119 rfl rfl ?_
            refine wp_iload (pc := 120) dX6_aimsOf_120 rfl ?_
            refine wp_iload (pc := 122) dX6_aimsOf_122 rfl ?_
            refine wp_iload (pc := 124) dX6_aimsOf_124 rfl ?_
            refine wp_cVP5 (pc := 126) (ci := 6) dX6_aimsOf_126 lm_X6_111 m_X6_line (by first | with_reducible assumption | rfl) (by first | with_reducible assumption | rfl) (by decide) rfl (Nat.le_of_ble_eq_true rfl) (sp_X6_line (d := d) (y := 6) hW hL hs hk hc (by decide)) ?_
            first | (refine wp_iorN (pc := 129) dX6_aimsOf_129 ?_) | (refine wp_ior (pc := 129) dX6_aimsOf_129 ?_)
            rw [mset_or]
            refine wp_istore (pc := 130) dX6_aimsOf_130 (by decide) ?_
            refine wp_goto (pc := 132) (tgt := 225) dX6_aimsOf_132 (by decide) ?_
            first | (refine wp_iincN (pc := 225) (m := 1) dX6_aimsOf_225 rfl rfl (by decide) ?_) | (refine wp_iinc (pc := 225) dX6_aimsOf_225 rfl rfl (by decide) ?_)
            refine wp_goto (pc := 228) (tgt := 12) dX6_aimsOf_228 (by decide) ?_
            refine wp_drop 8 ?_
            exact g
          · exact absurd c_100 (by decide)
      · exact absurd c_71 (by decide)
    · exact absurd c_55 (by decide)
  have s4 : ∀ (P : Nat → Bool) (Q : Pst), WP ΩM (d + 3) kX6_aimsOf 12 [(0, .ref 0), (1, .int (nI k)), (2, .int (nI (asc s))), (3, .int (nI c)), (4, .int (bI nb)), (5, .int (nI 82)), (6, .int (nI (mset P))), (7, .int (nI 5))] [] I J Q → WP ΩM (d + 3) kX6_aimsOf 12 [(0, .ref 0), (1, .int (nI k)), (2, .int (nI (asc s))), (3, .int (nI c)), (4, .int (bI nb)), (5, .int (nI 82)), (6, .int (nI (mset P))), (7, .int (nI 4))] [] I J Q := by
    clear g9 s0 s1 s2 s3
    intro P Q g
    refine ma_4 ?_
    refine wp_iload (pc := 52) dX6_aimsOf_52 rfl ?_
    refine wp_iconst (pc := 54) (v := nI 4) dX6_aimsOf_54 (by decide +kernel) ?_
    first | (refine wp_icmp_neN (pc := 55) (tgt := 67) dX6_aimsOf_55 (by decide) (by first | with_reducible assumption | omega) (by first | with_reducible assumption | omega) (fun c_55 => ?_) (fun c_55 => ?_)) | (refine wp_icmp_ne (pc := 55) (tgt := 67) dX6_aimsOf_55 (by decide) (fun c_55 => ?_) (fun c_55 => ?_))
    · exact absurd rfl c_55
    · refine wp_iload (pc := 58) dX6_aimsOf_58 rfl ?_
      refine wp_iconst (pc := 60) (v := nI 0) dX6_aimsOf_60 (by decide +kernel) ?_
      refine wp_ior (pc := 61) dX6_aimsOf_61 ?_
      rw [show ∀ x : Int32, x ||| nI 0 = x from fun x => by rw [show nI 0 = (0 : Int32) from rfl, Int32.or_zero]]
      refine wp_istore (pc := 62) dX6_aimsOf_62 (by decide) ?_
      refine wp_goto (pc := 64) (tgt := 225) dX6_aimsOf_64 (by decide) ?_
      first | (refine wp_iincN (pc := 225) (m := 1) dX6_aimsOf_225 rfl rfl (by decide) ?_) | (refine wp_iinc (pc := 225) dX6_aimsOf_225 rfl rfl (by decide) ?_)
      refine wp_goto (pc := 228) (tgt := 12) dX6_aimsOf_228 (by decide) ?_
      refine wp_drop 8 ?_
      exact g
  have s5 : ∀ (P : Nat → Bool) (Q : Pst), WP ΩM (d + 3) kX6_aimsOf 12 [(0, .ref 0), (1, .int (nI k)), (2, .int (nI (asc s))), (3, .int (nI c)), (4, .int (bI nb)), (5, .int (nI 82)), (6, .int (nI (mset (fun t => P t || ray w h (nfr nb b.1) 2 3 (nbr w h c 2) t)))), (7, .int (nI 6))] [] I J Q → WP ΩM (d + 3) kX6_aimsOf 12 [(0, .ref 0), (1, .int (nI k)), (2, .int (nI (asc s))), (3, .int (nI c)), (4, .int (bI nb)), (5, .int (nI 82)), (6, .int (nI (mset P))), (7, .int (nI 5))] [] I J Q := by
    clear g9 s0 s1 s2 s3 s4
    intro P Q g
    refine ma_5 ?_
    refine wp_iload (pc := 52) dX6_aimsOf_52 rfl ?_
    refine wp_iconst (pc := 54) (v := nI 4) dX6_aimsOf_54 (by decide +kernel) ?_
    first | (refine wp_icmp_neN (pc := 55) (tgt := 67) dX6_aimsOf_55 (by decide) (by first | with_reducible assumption | omega) (by first | with_reducible assumption | omega) (fun c_55 => ?_) (fun c_55 => ?_)) | (refine wp_icmp_ne (pc := 55) (tgt := 67) dX6_aimsOf_55 (by decide) (fun c_55 => ?_) (fun c_55 => ?_))
    · refine wp_iload (pc := 67) dX6_aimsOf_67 rfl ?_
      refine wp_bipush (pc := 69) (v := nI 75) dX6_aimsOf_69 (by decide +kernel) ?_
      first | (refine wp_icmp_neN (pc := 71) (tgt := 91) dX6_aimsOf_71 (by decide) (by first | with_reducible assumption | omega) (by first | with_reducible assumption | omega) (fun c_71 => ?_) (fun c_71 => ?_)) | (refine wp_icmp_ne (pc := 71) (tgt := 91) dX6_aimsOf_71 (by decide) (fun c_71 => ?_) (fun c_71 => ?_))
      · refine wp_iload (pc := 91) dX6_aimsOf_91 rfl ?_
        refine wp_bipush (pc := 93) (v := nI 82) dX6_aimsOf_93 (by decide +kernel) ?_
        first | (refine wp_icmp_neN (pc := 95) (tgt := 103) dX6_aimsOf_95 (by decide) (by first | with_reducible assumption | omega) (by first | with_reducible assumption | omega) (fun c_95 => ?_) (fun c_95 => ?_)) | (refine wp_icmp_ne (pc := 95) (tgt := 103) dX6_aimsOf_95 (by decide) (fun c_95 => ?_) (fun c_95 => ?_))
        · exact absurd rfl c_95
        · refine wp_iload (pc := 98) dX6_aimsOf_98 rfl ?_
          refine wp_if_neN (pc := 100) (tgt := 115) dX6_aimsOf_100 (by decide) (by first | with_reducible assumption | omega) (fun c_100 => ?_) (fun c_100 => ?_)
          · refine wp_iload (pc := 115) dX6_aimsOf_115 rfl ?_
            refine wp_aload_n (pc := 117) (i := 0) dX6_aimsOf_117 rfl rfl (by first | with_reducible assumption | rfl) ?_
            refine wp_iload_n (pc := 118) (i := 1) dX6_aimsOf_118 rfl rfl ?_
            refine wp_iload_n (pc := 119) (i := 3) dX6_aimsOf_119 rfl rfl ?_
            refine wp_iload (pc := 120) dX6_aimsOf_120 rfl ?_
            refine wp_iload (pc := 122) dX6_aimsOf_122 rfl ?_
            refine wp_iload (pc := 124) dX6_aimsOf_124 rfl ?_
            refine wp_cVP5 (pc := 126) (ci := 6) dX6_aimsOf_126 lm_X6_111 m_X6_line (by first | with_reducible assumption | rfl) (by first | with_reducible assumption | rfl) (by decide) rfl (Nat.le_of_ble_eq_true rfl) (sp_X6_line (d := d) (y := 2) hW hL hs hk hc (by decide)) ?_
            first | (refine wp_iorN (pc := 129) dX6_aimsOf_129 ?_) | (refine wp_ior (pc := 129) dX6_aimsOf_129 ?_)
            rw [mset_or]
            refine wp_istore (pc := 130) dX6_aimsOf_130 (by decide) ?_
            refine wp_goto (pc := 132) (tgt := 225) dX6_aimsOf_132 (by decide) ?_
            first | (refine wp_iincN (pc := 225) (m := 1) dX6_aimsOf_225 rfl rfl (by decide) ?_) | (refine wp_iinc (pc := 225) dX6_aimsOf_225 rfl rfl (by decide) ?_)
            refine wp_goto (pc := 228) (tgt := 12) dX6_aimsOf_228 (by decide) ?_
            refine wp_drop 8 ?_
            exact g
          · exact absurd c_100 (by decide)
      · exact absurd c_71 (by decide)
    · exact absurd c_55 (by decide)
  have s6 : ∀ (P : Nat → Bool) (Q : Pst), WP ΩM (d + 3) kX6_aimsOf 12 [(0, .ref 0), (1, .int (nI k)), (2, .int (nI (asc s))), (3, .int (nI c)), (4, .int (bI nb)), (5, .int (nI 82)), (6, .int (nI (mset P))), (7, .int (nI 7))] [] I J Q → WP ΩM (d + 3) kX6_aimsOf 12 [(0, .ref 0), (1, .int (nI k)), (2, .int (nI (asc s))), (3, .int (nI c)), (4, .int (bI nb)), (5, .int (nI 82)), (6, .int (nI (mset P))), (7, .int (nI 6))] [] I J Q := by
    clear g9 s0 s1 s2 s3 s4 s5
    intro P Q g
    refine ma_6 ?_
    refine wp_iload (pc := 52) dX6_aimsOf_52 rfl ?_
    refine wp_iconst (pc := 54) (v := nI 4) dX6_aimsOf_54 (by decide +kernel) ?_
    first | (refine wp_icmp_neN (pc := 55) (tgt := 67) dX6_aimsOf_55 (by decide) (by first | with_reducible assumption | omega) (by first | with_reducible assumption | omega) (fun c_55 => ?_) (fun c_55 => ?_)) | (refine wp_icmp_ne (pc := 55) (tgt := 67) dX6_aimsOf_55 (by decide) (fun c_55 => ?_) (fun c_55 => ?_))
    · refine wp_iload (pc := 67) dX6_aimsOf_67 rfl ?_
      refine wp_bipush (pc := 69) (v := nI 75) dX6_aimsOf_69 (by decide +kernel) ?_
      first | (refine wp_icmp_neN (pc := 71) (tgt := 91) dX6_aimsOf_71 (by decide) (by first | with_reducible assumption | omega) (by first | with_reducible assumption | omega) (fun c_71 => ?_) (fun c_71 => ?_)) | (refine wp_icmp_ne (pc := 71) (tgt := 91) dX6_aimsOf_71 (by decide) (fun c_71 => ?_) (fun c_71 => ?_))
      · refine wp_iload (pc := 91) dX6_aimsOf_91 rfl ?_
        refine wp_bipush (pc := 93) (v := nI 82) dX6_aimsOf_93 (by decide +kernel) ?_
        first | (refine wp_icmp_neN (pc := 95) (tgt := 103) dX6_aimsOf_95 (by decide) (by first | with_reducible assumption | omega) (by first | with_reducible assumption | omega) (fun c_95 => ?_) (fun c_95 => ?_)) | (refine wp_icmp_ne (pc := 95) (tgt := 103) dX6_aimsOf_95 (by decide) (fun c_95 => ?_) (fun c_95 => ?_))
        · exact absurd rfl c_95
        · refine wp_iload (pc := 98) dX6_aimsOf_98 rfl ?_
          refine wp_if_neN (pc := 100) (tgt := 115) dX6_aimsOf_100 (by decide) (by first | with_reducible assumption | omega) (fun c_100 => ?_) (fun c_100 => ?_)
          · exact absurd rfl c_100
          · refine wp_iload (pc := 103) dX6_aimsOf_103 rfl ?_
            refine wp_bipush (pc := 105) (v := nI 66) dX6_aimsOf_105 (by decide +kernel) ?_
            first | (refine wp_icmp_neN (pc := 107) (tgt := 135) dX6_aimsOf_107 (by decide) (by first | with_reducible assumption | omega) (by first | with_reducible assumption | omega) (fun c_107 => ?_) (fun c_107 => ?_)) | (refine wp_icmp_ne (pc := 107) (tgt := 135) dX6_aimsOf_107 (by decide) (fun c_107 => ?_) (fun c_107 => ?_))
            · refine wp_iload (pc := 135) dX6_aimsOf_135 rfl ?_
              refine wp_bipush (pc := 137) (v := nI 78) dX6_aimsOf_137 (by decide +kernel) ?_
              first | (refine wp_icmp_neN (pc := 139) (tgt := 178) dX6_aimsOf_139 (by decide) (by first | with_reducible assumption | omega) (by first | with_reducible assumption | omega) (fun c_139 => ?_) (fun c_139 => ?_)) | (refine wp_icmp_ne (pc := 139) (tgt := 178) dX6_aimsOf_139 (by decide) (fun c_139 => ?_) (fun c_139 => ?_))
              · refine wp_iload (pc := 178) dX6_aimsOf_178 rfl ?_
                refine wp_bipush (pc := 180) (v := nI 80) dX6_aimsOf_180 (by decide +kernel) ?_
                first | (refine wp_icmp_neN (pc := 182) (tgt := 225) dX6_aimsOf_182 (by decide) (by first | with_reducible assumption | omega) (by first | with_reducible assumption | omega) (fun c_182 => ?_) (fun c_182 => ?_)) | (refine wp_icmp_ne (pc := 182) (tgt := 225) dX6_aimsOf_182 (by decide) (fun c_182 => ?_) (fun c_182 => ?_))
                · first | (refine wp_iincN (pc := 225) (m := 1) dX6_aimsOf_225 rfl rfl (by decide) ?_) | (refine wp_iinc (pc := 225) dX6_aimsOf_225 rfl rfl (by decide) ?_)
                  refine wp_goto (pc := 228) (tgt := 12) dX6_aimsOf_228 (by decide) ?_
                  refine wp_drop 8 ?_
                  exact g
                · exact absurd c_182 (by decide)
              · exact absurd c_139 (by decide)
            · exact absurd c_107 (by decide)
      · exact absurd c_71 (by decide)
    · exact absurd c_55 (by decide)
  have s7 : ∀ (P : Nat → Bool) (Q : Pst), WP ΩM (d + 3) kX6_aimsOf 12 [(0, .ref 0), (1, .int (nI k)), (2, .int (nI (asc s))), (3, .int (nI c)), (4, .int (bI nb)), (5, .int (nI 82)), (6, .int (nI (mset (fun t => P t || ray w h (nfr nb b.1) 4 3 (nbr w h c 4) t)))), (7, .int (nI 8))] [] I J Q → WP ΩM (d + 3) kX6_aimsOf 12 [(0, .ref 0), (1, .int (nI k)), (2, .int (nI (asc s))), (3, .int (nI c)), (4, .int (bI nb)), (5, .int (nI 82)), (6, .int (nI (mset P))), (7, .int (nI 7))] [] I J Q := by
    clear g9 s0 s1 s2 s3 s4 s5 s6
    intro P Q g
    refine ma_7 ?_
    refine wp_iload (pc := 52) dX6_aimsOf_52 rfl ?_
    refine wp_iconst (pc := 54) (v := nI 4) dX6_aimsOf_54 (by decide +kernel) ?_
    first | (refine wp_icmp_neN (pc := 55) (tgt := 67) dX6_aimsOf_55 (by decide) (by first | with_reducible assumption | omega) (by first | with_reducible assumption | omega) (fun c_55 => ?_) (fun c_55 => ?_)) | (refine wp_icmp_ne (pc := 55) (tgt := 67) dX6_aimsOf_55 (by decide) (fun c_55 => ?_) (fun c_55 => ?_))
    · refine wp_iload (pc := 67) dX6_aimsOf_67 rfl ?_
      refine wp_bipush (pc := 69) (v := nI 75) dX6_aimsOf_69 (by decide +kernel) ?_
      first | (refine wp_icmp_neN (pc := 71) (tgt := 91) dX6_aimsOf_71 (by decide) (by first | with_reducible assumption | omega) (by first | with_reducible assumption | omega) (fun c_71 => ?_) (fun c_71 => ?_)) | (refine wp_icmp_ne (pc := 71) (tgt := 91) dX6_aimsOf_71 (by decide) (fun c_71 => ?_) (fun c_71 => ?_))
      · refine wp_iload (pc := 91) dX6_aimsOf_91 rfl ?_
        refine wp_bipush (pc := 93) (v := nI 82) dX6_aimsOf_93 (by decide +kernel) ?_
        first | (refine wp_icmp_neN (pc := 95) (tgt := 103) dX6_aimsOf_95 (by decide) (by first | with_reducible assumption | omega) (by first | with_reducible assumption | omega) (fun c_95 => ?_) (fun c_95 => ?_)) | (refine wp_icmp_ne (pc := 95) (tgt := 103) dX6_aimsOf_95 (by decide) (fun c_95 => ?_) (fun c_95 => ?_))
        · exact absurd rfl c_95
        · refine wp_iload (pc := 98) dX6_aimsOf_98 rfl ?_
          refine wp_if_neN (pc := 100) (tgt := 115) dX6_aimsOf_100 (by decide) (by first | with_reducible assumption | omega) (fun c_100 => ?_) (fun c_100 => ?_)
          · refine wp_iload (pc := 115) dX6_aimsOf_115 rfl ?_
            refine wp_aload_n (pc := 117) (i := 0) dX6_aimsOf_117 rfl rfl (by first | with_reducible assumption | rfl) ?_
            refine wp_iload_n (pc := 118) (i := 1) dX6_aimsOf_118 rfl rfl ?_
            refine wp_iload_n (pc := 119) (i := 3) dX6_aimsOf_119 rfl rfl ?_
            refine wp_iload (pc := 120) dX6_aimsOf_120 rfl ?_
            refine wp_iload (pc := 122) dX6_aimsOf_122 rfl ?_
            refine wp_iload (pc := 124) dX6_aimsOf_124 rfl ?_
            refine wp_cVP5 (pc := 126) (ci := 6) dX6_aimsOf_126 lm_X6_111 m_X6_line (by first | with_reducible assumption | rfl) (by first | with_reducible assumption | rfl) (by decide) rfl (Nat.le_of_ble_eq_true rfl) (sp_X6_line (d := d) (y := 4) hW hL hs hk hc (by decide)) ?_
            first | (refine wp_iorN (pc := 129) dX6_aimsOf_129 ?_) | (refine wp_ior (pc := 129) dX6_aimsOf_129 ?_)
            rw [mset_or]
            refine wp_istore (pc := 130) dX6_aimsOf_130 (by decide) ?_
            refine wp_goto (pc := 132) (tgt := 225) dX6_aimsOf_132 (by decide) ?_
            first | (refine wp_iincN (pc := 225) (m := 1) dX6_aimsOf_225 rfl rfl (by decide) ?_) | (refine wp_iinc (pc := 225) dX6_aimsOf_225 rfl rfl (by decide) ?_)
            refine wp_goto (pc := 228) (tgt := 12) dX6_aimsOf_228 (by decide) ?_
            refine wp_drop 8 ?_
            exact g
          · exact absurd c_100 (by decide)
      · exact absurd c_71 (by decide)
    · exact absurd c_55 (by decide)
  have s8 : ∀ (P : Nat → Bool) (Q : Pst), WP ΩM (d + 3) kX6_aimsOf 12 [(0, .ref 0), (1, .int (nI k)), (2, .int (nI (asc s))), (3, .int (nI c)), (4, .int (bI nb)), (5, .int (nI 82)), (6, .int (nI (mset P))), (7, .int (nI 9))] [] I J Q → WP ΩM (d + 3) kX6_aimsOf 12 [(0, .ref 0), (1, .int (nI k)), (2, .int (nI (asc s))), (3, .int (nI c)), (4, .int (bI nb)), (5, .int (nI 82)), (6, .int (nI (mset P))), (7, .int (nI 8))] [] I J Q := by
    clear g9 s0 s1 s2 s3 s4 s5 s6 s7
    intro P Q g
    refine ma_8 ?_
    refine wp_iload (pc := 52) dX6_aimsOf_52 rfl ?_
    refine wp_iconst (pc := 54) (v := nI 4) dX6_aimsOf_54 (by decide +kernel) ?_
    first | (refine wp_icmp_neN (pc := 55) (tgt := 67) dX6_aimsOf_55 (by decide) (by first | with_reducible assumption | omega) (by first | with_reducible assumption | omega) (fun c_55 => ?_) (fun c_55 => ?_)) | (refine wp_icmp_ne (pc := 55) (tgt := 67) dX6_aimsOf_55 (by decide) (fun c_55 => ?_) (fun c_55 => ?_))
    · refine wp_iload (pc := 67) dX6_aimsOf_67 rfl ?_
      refine wp_bipush (pc := 69) (v := nI 75) dX6_aimsOf_69 (by decide +kernel) ?_
      first | (refine wp_icmp_neN (pc := 71) (tgt := 91) dX6_aimsOf_71 (by decide) (by first | with_reducible assumption | omega) (by first | with_reducible assumption | omega) (fun c_71 => ?_) (fun c_71 => ?_)) | (refine wp_icmp_ne (pc := 71) (tgt := 91) dX6_aimsOf_71 (by decide) (fun c_71 => ?_) (fun c_71 => ?_))
      · refine wp_iload (pc := 91) dX6_aimsOf_91 rfl ?_
        refine wp_bipush (pc := 93) (v := nI 82) dX6_aimsOf_93 (by decide +kernel) ?_
        first | (refine wp_icmp_neN (pc := 95) (tgt := 103) dX6_aimsOf_95 (by decide) (by first | with_reducible assumption | omega) (by first | with_reducible assumption | omega) (fun c_95 => ?_) (fun c_95 => ?_)) | (refine wp_icmp_ne (pc := 95) (tgt := 103) dX6_aimsOf_95 (by decide) (fun c_95 => ?_) (fun c_95 => ?_))
        · exact absurd rfl c_95
        · refine wp_iload (pc := 98) dX6_aimsOf_98 rfl ?_
          refine wp_if_neN (pc := 100) (tgt := 115) dX6_aimsOf_100 (by decide) (by first | with_reducible assumption | omega) (fun c_100 => ?_) (fun c_100 => ?_)
          · exact absurd rfl c_100
          · refine wp_iload (pc := 103) dX6_aimsOf_103 rfl ?_
            refine wp_bipush (pc := 105) (v := nI 66) dX6_aimsOf_105 (by decide +kernel) ?_
            first | (refine wp_icmp_neN (pc := 107) (tgt := 135) dX6_aimsOf_107 (by decide) (by first | with_reducible assumption | omega) (by first | with_reducible assumption | omega) (fun c_107 => ?_) (fun c_107 => ?_)) | (refine wp_icmp_ne (pc := 107) (tgt := 135) dX6_aimsOf_107 (by decide) (fun c_107 => ?_) (fun c_107 => ?_))
            · refine wp_iload (pc := 135) dX6_aimsOf_135 rfl ?_
              refine wp_bipush (pc := 137) (v := nI 78) dX6_aimsOf_137 (by decide +kernel) ?_
              first | (refine wp_icmp_neN (pc := 139) (tgt := 178) dX6_aimsOf_139 (by decide) (by first | with_reducible assumption | omega) (by first | with_reducible assumption | omega) (fun c_139 => ?_) (fun c_139 => ?_)) | (refine wp_icmp_ne (pc := 139) (tgt := 178) dX6_aimsOf_139 (by decide) (fun c_139 => ?_) (fun c_139 => ?_))
              · refine wp_iload (pc := 178) dX6_aimsOf_178 rfl ?_
                refine wp_bipush (pc := 180) (v := nI 80) dX6_aimsOf_180 (by decide +kernel) ?_
                first | (refine wp_icmp_neN (pc := 182) (tgt := 225) dX6_aimsOf_182 (by decide) (by first | with_reducible assumption | omega) (by first | with_reducible assumption | omega) (fun c_182 => ?_) (fun c_182 => ?_)) | (refine wp_icmp_ne (pc := 182) (tgt := 225) dX6_aimsOf_182 (by decide) (fun c_182 => ?_) (fun c_182 => ?_))
                · first | (refine wp_iincN (pc := 225) (m := 1) dX6_aimsOf_225 rfl rfl (by decide) ?_) | (refine wp_iinc (pc := 225) dX6_aimsOf_225 rfl rfl (by decide) ?_)
                  refine wp_goto (pc := 228) (tgt := 12) dX6_aimsOf_228 (by decide) ?_
                  refine wp_drop 8 ?_
                  exact g
                · exact absurd c_182 (by decide)
              · exact absurd c_139 (by decide)
            · exact absurd c_107 (by decide)
      · exact absurd c_71 (by decide)
    · exact absurd c_55 (by decide)
  have g0 := s0 (fun _ => false) _ (s1 _ _ (s2 _ _ (s3 _ _ (s4 _ _ (s5 _ _ (s6 _ _ (s7 _ _ (s8 _ _ (g9 _)))))))))
  rw [mset_none] at g0
  refine call_of_wp (by decide) (Nat.le_of_ble_eq_true rfl) ?_
  refine wp_iload_n (pc := 0) (i := 2) dX6_aimsOf_0 rfl rfl ?_
  refine wp_cSP1 (pc := 1) dX6_aimsOf_1 lm_X6_105 m_X6_kindOf (Nat.le_of_ble_eq_true rfl) hkf ?_
  refine wp_istore (pc := 4) dX6_aimsOf_4 (by decide) ?_
  refine wp_iconst (pc := 6) (v := nI 0) dX6_aimsOf_6 (by decide +kernel) ?_
  refine wp_istore (pc := 7) dX6_aimsOf_7 (by decide) ?_
  refine wp_iconst (pc := 9) (v := nI 0) dX6_aimsOf_9 (by decide +kernel) ?_
  refine wp_istore (pc := 10) dX6_aimsOf_10 (by decide) ?_
  exact g0
theorem am_B {w h k c s : Nat} {b : Bd} {nb : Bool} (hW : WH w h I) (hL : LV (w * h) k b I) (hs : ∀ c, c < 16 → b.1 c < 12) (hk : k < 4) (hc : c < w * h) (hs12 : s < 12) (hkd : kdA s = 66) : CALL ΩM (d + 3) kX6_aimsOf [.ref 0, .int (nI k), .int (nI (asc s)), .int (nI c), .int (bI nb)] I J (PQ (.int (nI (mset (fun t => ((((false || ray w h (nfr nb b.1) 7 3 (nbr w h c 7) t) || ray w h (nfr nb b.1) 1 3 (nbr w h c 1) t) || ray w h (nfr nb b.1) 5 3 (nbr w h c 5) t) || ray w h (nfr nb b.1) 3 3 (nbr w h c 3) t))))) I J) := by
  have n16 := (WH_n hW).2
  have ha := asc_lt s
  have hkf := sp_X6_kindOf (Ω := ΩM) (d := d + 1) (I := I) (J := J) hs12
  rw [hkd] at hkf
  have g9 : ∀ P : Nat → Bool, WP ΩM (d + 3) kX6_aimsOf 12 [(0, .ref 0), (1, .int (nI k)), (2, .int (nI (asc s))), (3, .int (nI c)), (4, .int (bI nb)), (5, .int (nI 66)), (6, .int (nI (mset P))), (7, .int (nI 9))] [] I J (PQ (.int (nI (mset P))) I J) := by
    intro P
    refine wp_iload (pc := 12) dX6_aimsOf_12 rfl ?_
    refine wp_bipush (pc := 14) (v := nI 9) dX6_aimsOf_14 (by decide +kernel) ?_
    first | (refine wp_icmp_geN (pc := 16) (tgt := 231) dX6_aimsOf_16 (by decide) (by first | with_reducible assumption | omega) (by first | with_reducible assumption | omega) (fun c_16 => ?_) (fun c_16 => ?_)) | (refine wp_icmp_ge (pc := 16) (tgt := 231) dX6_aimsOf_16 (by decide) (fun c_16 => ?_) (fun c_16 => ?_))
    · refine wp_iload (pc := 231) dX6_aimsOf_231 rfl ?_
      refine wp_ireturn (pc := 233) dX6_aimsOf_233 rfl ?_
      exact pq_i rfl
    · exact absurd (Nat.le_refl 9) c_16
  have s0 : ∀ (P : Nat → Bool) (Q : Pst), WP ΩM (d + 3) kX6_aimsOf 12 [(0, .ref 0), (1, .int (nI k)), (2, .int (nI (asc s))), (3, .int (nI c)), (4, .int (bI nb)), (5, .int (nI 66)), (6, .int (nI (mset (fun t => P t || ray w h (nfr nb b.1) 7 3 (nbr w h c 7) t)))), (7, .int (nI 1))] [] I J Q → WP ΩM (d + 3) kX6_aimsOf 12 [(0, .ref 0), (1, .int (nI k)), (2, .int (nI (asc s))), (3, .int (nI c)), (4, .int (bI nb)), (5, .int (nI 66)), (6, .int (nI (mset P))), (7, .int (nI 0))] [] I J Q := by
    intro P Q g
    refine ma_0 ?_
    refine wp_iload (pc := 52) dX6_aimsOf_52 rfl ?_
    refine wp_iconst (pc := 54) (v := nI 4) dX6_aimsOf_54 (by decide +kernel) ?_
    first | (refine wp_icmp_neN (pc := 55) (tgt := 67) dX6_aimsOf_55 (by decide) (by first | with_reducible assumption | omega) (by first | with_reducible assumption | omega) (fun c_55 => ?_) (fun c_55 => ?_)) | (refine wp_icmp_ne (pc := 55) (tgt := 67) dX6_aimsOf_55 (by decide) (fun c_55 => ?_) (fun c_55 => ?_))
    · refine wp_iload (pc := 67) dX6_aimsOf_67 rfl ?_
      refine wp_bipush (pc := 69) (v := nI 75) dX6_aimsOf_69 (by decide +kernel) ?_
      first | (refine wp_icmp_neN (pc := 71) (tgt := 91) dX6_aimsOf_71 (by decide) (by first | with_reducible assumption | omega) (by first | with_reducible assumption | omega) (fun c_71 => ?_) (fun c_71 => ?_)) | (refine wp_icmp_ne (pc := 71) (tgt := 91) dX6_aimsOf_71 (by decide) (fun c_71 => ?_) (fun c_71 => ?_))
      · refine wp_iload (pc := 91) dX6_aimsOf_91 rfl ?_
        refine wp_bipush (pc := 93) (v := nI 82) dX6_aimsOf_93 (by decide +kernel) ?_
        first | (refine wp_icmp_neN (pc := 95) (tgt := 103) dX6_aimsOf_95 (by decide) (by first | with_reducible assumption | omega) (by first | with_reducible assumption | omega) (fun c_95 => ?_) (fun c_95 => ?_)) | (refine wp_icmp_ne (pc := 95) (tgt := 103) dX6_aimsOf_95 (by decide) (fun c_95 => ?_) (fun c_95 => ?_))
        · refine wp_iload (pc := 103) dX6_aimsOf_103 rfl ?_
          refine wp_bipush (pc := 105) (v := nI 66) dX6_aimsOf_105 (by decide +kernel) ?_
          first | (refine wp_icmp_neN (pc := 107) (tgt := 135) dX6_aimsOf_107 (by decide) (by first | with_reducible assumption | omega) (by first | with_reducible assumption | omega) (fun c_107 => ?_) (fun c_107 => ?_)) | (refine wp_icmp_ne (pc := 107) (tgt := 135) dX6_aimsOf_107 (by decide) (fun c_107 => ?_) (fun c_107 => ?_))
          · exact absurd rfl c_107
          · refine wp_iload (pc := 110) dX6_aimsOf_110 rfl ?_
            refine wp_if_neN (pc := 112) (tgt := 135) dX6_aimsOf_112 (by decide) (by first | with_reducible assumption | omega) (fun c_112 => ?_) (fun c_112 => ?_)
            · exact absurd rfl c_112
            · refine wp_iload (pc := 115) dX6_aimsOf_115 rfl ?_
              refine wp_aload_n (pc := 117) (i := 0) dX6_aimsOf_117 rfl rfl (by first | with_reducible assumption | rfl) ?_
              refine wp_iload_n (pc := 118) (i := 1) dX6_aimsOf_118 rfl rfl ?_
              refine wp_iload_n (pc := 119) (i := 3) dX6_aimsOf_119 rfl rfl ?_
              refine wp_iload (pc := 120) dX6_aimsOf_120 rfl ?_
              refine wp_iload (pc := 122) dX6_aimsOf_122 rfl ?_
              refine wp_iload (pc := 124) dX6_aimsOf_124 rfl ?_
              refine wp_cVP5 (pc := 126) (ci := 6) dX6_aimsOf_126 lm_X6_111 m_X6_line (by first | with_reducible assumption | rfl) (by first | with_reducible assumption | rfl) (by decide) rfl (Nat.le_of_ble_eq_true rfl) (sp_X6_line (d := d) (y := 7) hW hL hs hk hc (by decide)) ?_
              first | (refine wp_iorN (pc := 129) dX6_aimsOf_129 ?_) | (refine wp_ior (pc := 129) dX6_aimsOf_129 ?_)
              rw [mset_or]
              refine wp_istore (pc := 130) dX6_aimsOf_130 (by decide) ?_
              refine wp_goto (pc := 132) (tgt := 225) dX6_aimsOf_132 (by decide) ?_
              first | (refine wp_iincN (pc := 225) (m := 1) dX6_aimsOf_225 rfl rfl (by decide) ?_) | (refine wp_iinc (pc := 225) dX6_aimsOf_225 rfl rfl (by decide) ?_)
              refine wp_goto (pc := 228) (tgt := 12) dX6_aimsOf_228 (by decide) ?_
              refine wp_drop 8 ?_
              exact g
        · exact absurd c_95 (by decide)
      · exact absurd c_71 (by decide)
    · exact absurd c_55 (by decide)
  have s1 : ∀ (P : Nat → Bool) (Q : Pst), WP ΩM (d + 3) kX6_aimsOf 12 [(0, .ref 0), (1, .int (nI k)), (2, .int (nI (asc s))), (3, .int (nI c)), (4, .int (bI nb)), (5, .int (nI 66)), (6, .int (nI (mset P))), (7, .int (nI 2))] [] I J Q → WP ΩM (d + 3) kX6_aimsOf 12 [(0, .ref 0), (1, .int (nI k)), (2, .int (nI (asc s))), (3, .int (nI c)), (4, .int (bI nb)), (5, .int (nI 66)), (6, .int (nI (mset P))), (7, .int (nI 1))] [] I J Q := by
    clear g9 s0
    intro P Q g
    refine ma_1 ?_
    refine wp_iload (pc := 52) dX6_aimsOf_52 rfl ?_
    refine wp_iconst (pc := 54) (v := nI 4) dX6_aimsOf_54 (by decide +kernel) ?_
    first | (refine wp_icmp_neN (pc := 55) (tgt := 67) dX6_aimsOf_55 (by decide) (by first | with_reducible assumption | omega) (by first | with_reducible assumption | omega) (fun c_55 => ?_) (fun c_55 => ?_)) | (refine wp_icmp_ne (pc := 55) (tgt := 67) dX6_aimsOf_55 (by decide) (fun c_55 => ?_) (fun c_55 => ?_))
    · refine wp_iload (pc := 67) dX6_aimsOf_67 rfl ?_
      refine wp_bipush (pc := 69) (v := nI 75) dX6_aimsOf_69 (by decide +kernel) ?_
      first | (refine wp_icmp_neN (pc := 71) (tgt := 91) dX6_aimsOf_71 (by decide) (by first | with_reducible assumption | omega) (by first | with_reducible assumption | omega) (fun c_71 => ?_) (fun c_71 => ?_)) | (refine wp_icmp_ne (pc := 71) (tgt := 91) dX6_aimsOf_71 (by decide) (fun c_71 => ?_) (fun c_71 => ?_))
      · refine wp_iload (pc := 91) dX6_aimsOf_91 rfl ?_
        refine wp_bipush (pc := 93) (v := nI 82) dX6_aimsOf_93 (by decide +kernel) ?_
        first | (refine wp_icmp_neN (pc := 95) (tgt := 103) dX6_aimsOf_95 (by decide) (by first | with_reducible assumption | omega) (by first | with_reducible assumption | omega) (fun c_95 => ?_) (fun c_95 => ?_)) | (refine wp_icmp_ne (pc := 95) (tgt := 103) dX6_aimsOf_95 (by decide) (fun c_95 => ?_) (fun c_95 => ?_))
        · refine wp_iload (pc := 103) dX6_aimsOf_103 rfl ?_
          refine wp_bipush (pc := 105) (v := nI 66) dX6_aimsOf_105 (by decide +kernel) ?_
          first | (refine wp_icmp_neN (pc := 107) (tgt := 135) dX6_aimsOf_107 (by decide) (by first | with_reducible assumption | omega) (by first | with_reducible assumption | omega) (fun c_107 => ?_) (fun c_107 => ?_)) | (refine wp_icmp_ne (pc := 107) (tgt := 135) dX6_aimsOf_107 (by decide) (fun c_107 => ?_) (fun c_107 => ?_))
          · exact absurd rfl c_107
          · refine wp_iload (pc := 110) dX6_aimsOf_110 rfl ?_
            refine wp_if_neN (pc := 112) (tgt := 135) dX6_aimsOf_112 (by decide) (by first | with_reducible assumption | omega) (fun c_112 => ?_) (fun c_112 => ?_)
            · refine wp_iload (pc := 135) dX6_aimsOf_135 rfl ?_
              refine wp_bipush (pc := 137) (v := nI 78) dX6_aimsOf_137 (by decide +kernel) ?_
              first | (refine wp_icmp_neN (pc := 139) (tgt := 178) dX6_aimsOf_139 (by decide) (by first | with_reducible assumption | omega) (by first | with_reducible assumption | omega) (fun c_139 => ?_) (fun c_139 => ?_)) | (refine wp_icmp_ne (pc := 139) (tgt := 178) dX6_aimsOf_139 (by decide) (fun c_139 => ?_) (fun c_139 => ?_))
              · refine wp_iload (pc := 178) dX6_aimsOf_178 rfl ?_
                refine wp_bipush (pc := 180) (v := nI 80) dX6_aimsOf_180 (by decide +kernel) ?_
                first | (refine wp_icmp_neN (pc := 182) (tgt := 225) dX6_aimsOf_182 (by decide) (by first | with_reducible assumption | omega) (by first | with_reducible assumption | omega) (fun c_182 => ?_) (fun c_182 => ?_)) | (refine wp_icmp_ne (pc := 182) (tgt := 225) dX6_aimsOf_182 (by decide) (fun c_182 => ?_) (fun c_182 => ?_))
                · first | (refine wp_iincN (pc := 225) (m := 1) dX6_aimsOf_225 rfl rfl (by decide) ?_) | (refine wp_iinc (pc := 225) dX6_aimsOf_225 rfl rfl (by decide) ?_)
                  refine wp_goto (pc := 228) (tgt := 12) dX6_aimsOf_228 (by decide) ?_
                  refine wp_drop 8 ?_
                  exact g
                · exact absurd c_182 (by decide)
              · exact absurd c_139 (by decide)
            · exact absurd c_112 (by decide)
        · exact absurd c_95 (by decide)
      · exact absurd c_71 (by decide)
    · exact absurd c_55 (by decide)
  have s2 : ∀ (P : Nat → Bool) (Q : Pst), WP ΩM (d + 3) kX6_aimsOf 12 [(0, .ref 0), (1, .int (nI k)), (2, .int (nI (asc s))), (3, .int (nI c)), (4, .int (bI nb)), (5, .int (nI 66)), (6, .int (nI (mset (fun t => P t || ray w h (nfr nb b.1) 1 3 (nbr w h c 1) t)))), (7, .int (nI 3))] [] I J Q → WP ΩM (d + 3) kX6_aimsOf 12 [(0, .ref 0), (1, .int (nI k)), (2, .int (nI (asc s))), (3, .int (nI c)), (4, .int (bI nb)), (5, .int (nI 66)), (6, .int (nI (mset P))), (7, .int (nI 2))] [] I J Q := by
    clear g9 s0 s1
    intro P Q g
    refine ma_2 ?_
    refine wp_iload (pc := 52) dX6_aimsOf_52 rfl ?_
    refine wp_iconst (pc := 54) (v := nI 4) dX6_aimsOf_54 (by decide +kernel) ?_
    first | (refine wp_icmp_neN (pc := 55) (tgt := 67) dX6_aimsOf_55 (by decide) (by first | with_reducible assumption | omega) (by first | with_reducible assumption | omega) (fun c_55 => ?_) (fun c_55 => ?_)) | (refine wp_icmp_ne (pc := 55) (tgt := 67) dX6_aimsOf_55 (by decide) (fun c_55 => ?_) (fun c_55 => ?_))
    · refine wp_iload (pc := 67) dX6_aimsOf_67 rfl ?_
      refine wp_bipush (pc := 69) (v := nI 75) dX6_aimsOf_69 (by decide +kernel) ?_
      first | (refine wp_icmp_neN (pc := 71) (tgt := 91) dX6_aimsOf_71 (by decide) (by first | with_reducible assumption | omega) (by first | with_reducible assumption | omega) (fun c_71 => ?_) (fun c_71 => ?_)) | (refine wp_icmp_ne (pc := 71) (tgt := 91) dX6_aimsOf_71 (by decide) (fun c_71 => ?_) (fun c_71 => ?_))
      · refine wp_iload (pc := 91) dX6_aimsOf_91 rfl ?_
        refine wp_bipush (pc := 93) (v := nI 82) dX6_aimsOf_93 (by decide +kernel) ?_
        first | (refine wp_icmp_neN (pc := 95) (tgt := 103) dX6_aimsOf_95 (by decide) (by first | with_reducible assumption | omega) (by first | with_reducible assumption | omega) (fun c_95 => ?_) (fun c_95 => ?_)) | (refine wp_icmp_ne (pc := 95) (tgt := 103) dX6_aimsOf_95 (by decide) (fun c_95 => ?_) (fun c_95 => ?_))
        · refine wp_iload (pc := 103) dX6_aimsOf_103 rfl ?_
          refine wp_bipush (pc := 105) (v := nI 66) dX6_aimsOf_105 (by decide +kernel) ?_
          first | (refine wp_icmp_neN (pc := 107) (tgt := 135) dX6_aimsOf_107 (by decide) (by first | with_reducible assumption | omega) (by first | with_reducible assumption | omega) (fun c_107 => ?_) (fun c_107 => ?_)) | (refine wp_icmp_ne (pc := 107) (tgt := 135) dX6_aimsOf_107 (by decide) (fun c_107 => ?_) (fun c_107 => ?_))
          · exact absurd rfl c_107
          · refine wp_iload (pc := 110) dX6_aimsOf_110 rfl ?_
            refine wp_if_neN (pc := 112) (tgt := 135) dX6_aimsOf_112 (by decide) (by first | with_reducible assumption | omega) (fun c_112 => ?_) (fun c_112 => ?_)
            · exact absurd rfl c_112
            · refine wp_iload (pc := 115) dX6_aimsOf_115 rfl ?_
              refine wp_aload_n (pc := 117) (i := 0) dX6_aimsOf_117 rfl rfl (by first | with_reducible assumption | rfl) ?_
              refine wp_iload_n (pc := 118) (i := 1) dX6_aimsOf_118 rfl rfl ?_
              refine wp_iload_n (pc := 119) (i := 3) dX6_aimsOf_119 rfl rfl ?_
              refine wp_iload (pc := 120) dX6_aimsOf_120 rfl ?_
              refine wp_iload (pc := 122) dX6_aimsOf_122 rfl ?_
              refine wp_iload (pc := 124) dX6_aimsOf_124 rfl ?_
              refine wp_cVP5 (pc := 126) (ci := 6) dX6_aimsOf_126 lm_X6_111 m_X6_line (by first | with_reducible assumption | rfl) (by first | with_reducible assumption | rfl) (by decide) rfl (Nat.le_of_ble_eq_true rfl) (sp_X6_line (d := d) (y := 1) hW hL hs hk hc (by decide)) ?_
              first | (refine wp_iorN (pc := 129) dX6_aimsOf_129 ?_) | (refine wp_ior (pc := 129) dX6_aimsOf_129 ?_)
              rw [mset_or]
              refine wp_istore (pc := 130) dX6_aimsOf_130 (by decide) ?_
              refine wp_goto (pc := 132) (tgt := 225) dX6_aimsOf_132 (by decide) ?_
              first | (refine wp_iincN (pc := 225) (m := 1) dX6_aimsOf_225 rfl rfl (by decide) ?_) | (refine wp_iinc (pc := 225) dX6_aimsOf_225 rfl rfl (by decide) ?_)
              refine wp_goto (pc := 228) (tgt := 12) dX6_aimsOf_228 (by decide) ?_
              refine wp_drop 8 ?_
              exact g
        · exact absurd c_95 (by decide)
      · exact absurd c_71 (by decide)
    · exact absurd c_55 (by decide)
  have s3 : ∀ (P : Nat → Bool) (Q : Pst), WP ΩM (d + 3) kX6_aimsOf 12 [(0, .ref 0), (1, .int (nI k)), (2, .int (nI (asc s))), (3, .int (nI c)), (4, .int (bI nb)), (5, .int (nI 66)), (6, .int (nI (mset P))), (7, .int (nI 4))] [] I J Q → WP ΩM (d + 3) kX6_aimsOf 12 [(0, .ref 0), (1, .int (nI k)), (2, .int (nI (asc s))), (3, .int (nI c)), (4, .int (bI nb)), (5, .int (nI 66)), (6, .int (nI (mset P))), (7, .int (nI 3))] [] I J Q := by
    clear g9 s0 s1 s2
    intro P Q g
    refine ma_3 ?_
    refine wp_iload (pc := 52) dX6_aimsOf_52 rfl ?_
    refine wp_iconst (pc := 54) (v := nI 4) dX6_aimsOf_54 (by decide +kernel) ?_
    first | (refine wp_icmp_neN (pc := 55) (tgt := 67) dX6_aimsOf_55 (by decide) (by first | with_reducible assumption | omega) (by first | with_reducible assumption | omega) (fun c_55 => ?_) (fun c_55 => ?_)) | (refine wp_icmp_ne (pc := 55) (tgt := 67) dX6_aimsOf_55 (by decide) (fun c_55 => ?_) (fun c_55 => ?_))
    · refine wp_iload (pc := 67) dX6_aimsOf_67 rfl ?_
      refine wp_bipush (pc := 69) (v := nI 75) dX6_aimsOf_69 (by decide +kernel) ?_
      first | (refine wp_icmp_neN (pc := 71) (tgt := 91) dX6_aimsOf_71 (by decide) (by first | with_reducible assumption | omega) (by first | with_reducible assumption | omega) (fun c_71 => ?_) (fun c_71 => ?_)) | (refine wp_icmp_ne (pc := 71) (tgt := 91) dX6_aimsOf_71 (by decide) (fun c_71 => ?_) (fun c_71 => ?_))
      · refine wp_iload (pc := 91) dX6_aimsOf_91 rfl ?_
        refine wp_bipush (pc := 93) (v := nI 82) dX6_aimsOf_93 (by decide +kernel) ?_
        first | (refine wp_icmp_neN (pc := 95) (tgt := 103) dX6_aimsOf_95 (by decide) (by first | with_reducible assumption | omega) (by first | with_reducible assumption | omega) (fun c_95 => ?_) (fun c_95 => ?_)) | (refine wp_icmp_ne (pc := 95) (tgt := 103) dX6_aimsOf_95 (by decide) (fun c_95 => ?_) (fun c_95 => ?_))
        · refine wp_iload (pc := 103) dX6_aimsOf_103 rfl ?_
          refine wp_bipush (pc := 105) (v := nI 66) dX6_aimsOf_105 (by decide +kernel) ?_
          first | (refine wp_icmp_neN (pc := 107) (tgt := 135) dX6_aimsOf_107 (by decide) (by first | with_reducible assumption | omega) (by first | with_reducible assumption | omega) (fun c_107 => ?_) (fun c_107 => ?_)) | (refine wp_icmp_ne (pc := 107) (tgt := 135) dX6_aimsOf_107 (by decide) (fun c_107 => ?_) (fun c_107 => ?_))
          · exact absurd rfl c_107
          · refine wp_iload (pc := 110) dX6_aimsOf_110 rfl ?_
            refine wp_if_neN (pc := 112) (tgt := 135) dX6_aimsOf_112 (by decide) (by first | with_reducible assumption | omega) (fun c_112 => ?_) (fun c_112 => ?_)
            · refine wp_iload (pc := 135) dX6_aimsOf_135 rfl ?_
              refine wp_bipush (pc := 137) (v := nI 78) dX6_aimsOf_137 (by decide +kernel) ?_
              first | (refine wp_icmp_neN (pc := 139) (tgt := 178) dX6_aimsOf_139 (by decide) (by first | with_reducible assumption | omega) (by first | with_reducible assumption | omega) (fun c_139 => ?_) (fun c_139 => ?_)) | (refine wp_icmp_ne (pc := 139) (tgt := 178) dX6_aimsOf_139 (by decide) (fun c_139 => ?_) (fun c_139 => ?_))
              · refine wp_iload (pc := 178) dX6_aimsOf_178 rfl ?_
                refine wp_bipush (pc := 180) (v := nI 80) dX6_aimsOf_180 (by decide +kernel) ?_
                first | (refine wp_icmp_neN (pc := 182) (tgt := 225) dX6_aimsOf_182 (by decide) (by first | with_reducible assumption | omega) (by first | with_reducible assumption | omega) (fun c_182 => ?_) (fun c_182 => ?_)) | (refine wp_icmp_ne (pc := 182) (tgt := 225) dX6_aimsOf_182 (by decide) (fun c_182 => ?_) (fun c_182 => ?_))
                · first | (refine wp_iincN (pc := 225) (m := 1) dX6_aimsOf_225 rfl rfl (by decide) ?_) | (refine wp_iinc (pc := 225) dX6_aimsOf_225 rfl rfl (by decide) ?_)
                  refine wp_goto (pc := 228) (tgt := 12) dX6_aimsOf_228 (by decide) ?_
                  refine wp_drop 8 ?_
                  exact g
                · exact absurd c_182 (by decide)
              · exact absurd c_139 (by decide)
            · exact absurd c_112 (by decide)
        · exact absurd c_95 (by decide)
      · exact absurd c_71 (by decide)
    · exact absurd c_55 (by decide)
  have s4 : ∀ (P : Nat → Bool) (Q : Pst), WP ΩM (d + 3) kX6_aimsOf 12 [(0, .ref 0), (1, .int (nI k)), (2, .int (nI (asc s))), (3, .int (nI c)), (4, .int (bI nb)), (5, .int (nI 66)), (6, .int (nI (mset P))), (7, .int (nI 5))] [] I J Q → WP ΩM (d + 3) kX6_aimsOf 12 [(0, .ref 0), (1, .int (nI k)), (2, .int (nI (asc s))), (3, .int (nI c)), (4, .int (bI nb)), (5, .int (nI 66)), (6, .int (nI (mset P))), (7, .int (nI 4))] [] I J Q := by
    clear g9 s0 s1 s2 s3
    intro P Q g
    refine ma_4 ?_
    refine wp_iload (pc := 52) dX6_aimsOf_52 rfl ?_
    refine wp_iconst (pc := 54) (v := nI 4) dX6_aimsOf_54 (by decide +kernel) ?_
    first | (refine wp_icmp_neN (pc := 55) (tgt := 67) dX6_aimsOf_55 (by decide) (by first | with_reducible assumption | omega) (by first | with_reducible assumption | omega) (fun c_55 => ?_) (fun c_55 => ?_)) | (refine wp_icmp_ne (pc := 55) (tgt := 67) dX6_aimsOf_55 (by decide) (fun c_55 => ?_) (fun c_55 => ?_))
    · exact absurd rfl c_55
    · refine wp_iload (pc := 58) dX6_aimsOf_58 rfl ?_
      refine wp_iconst (pc := 60) (v := nI 0) dX6_aimsOf_60 (by decide +kernel) ?_
      refine wp_ior (pc := 61) dX6_aimsOf_61 ?_
      rw [show ∀ x : Int32, x ||| nI 0 = x from fun x => by rw [show nI 0 = (0 : Int32) from rfl, Int32.or_zero]]
      refine wp_istore (pc := 62) dX6_aimsOf_62 (by decide) ?_
      refine wp_goto (pc := 64) (tgt := 225) dX6_aimsOf_64 (by decide) ?_
      first | (refine wp_iincN (pc := 225) (m := 1) dX6_aimsOf_225 rfl rfl (by decide) ?_) | (refine wp_iinc (pc := 225) dX6_aimsOf_225 rfl rfl (by decide) ?_)
      refine wp_goto (pc := 228) (tgt := 12) dX6_aimsOf_228 (by decide) ?_
      refine wp_drop 8 ?_
      exact g
  have s5 : ∀ (P : Nat → Bool) (Q : Pst), WP ΩM (d + 3) kX6_aimsOf 12 [(0, .ref 0), (1, .int (nI k)), (2, .int (nI (asc s))), (3, .int (nI c)), (4, .int (bI nb)), (5, .int (nI 66)), (6, .int (nI (mset P))), (7, .int (nI 6))] [] I J Q → WP ΩM (d + 3) kX6_aimsOf 12 [(0, .ref 0), (1, .int (nI k)), (2, .int (nI (asc s))), (3, .int (nI c)), (4, .int (bI nb)), (5, .int (nI 66)), (6, .int (nI (mset P))), (7, .int (nI 5))] [] I J Q := by
    clear g9 s0 s1 s2 s3 s4
    intro P Q g
    refine ma_5 ?_
    refine wp_iload (pc := 52) dX6_aimsOf_52 rfl ?_
    refine wp_iconst (pc := 54) (v := nI 4) dX6_aimsOf_54 (by decide +kernel) ?_
    first | (refine wp_icmp_neN (pc := 55) (tgt := 67) dX6_aimsOf_55 (by decide) (by first | with_reducible assumption | omega) (by first | with_reducible assumption | omega) (fun c_55 => ?_) (fun c_55 => ?_)) | (refine wp_icmp_ne (pc := 55) (tgt := 67) dX6_aimsOf_55 (by decide) (fun c_55 => ?_) (fun c_55 => ?_))
    · refine wp_iload (pc := 67) dX6_aimsOf_67 rfl ?_
      refine wp_bipush (pc := 69) (v := nI 75) dX6_aimsOf_69 (by decide +kernel) ?_
      first | (refine wp_icmp_neN (pc := 71) (tgt := 91) dX6_aimsOf_71 (by decide) (by first | with_reducible assumption | omega) (by first | with_reducible assumption | omega) (fun c_71 => ?_) (fun c_71 => ?_)) | (refine wp_icmp_ne (pc := 71) (tgt := 91) dX6_aimsOf_71 (by decide) (fun c_71 => ?_) (fun c_71 => ?_))
      · refine wp_iload (pc := 91) dX6_aimsOf_91 rfl ?_
        refine wp_bipush (pc := 93) (v := nI 82) dX6_aimsOf_93 (by decide +kernel) ?_
        first | (refine wp_icmp_neN (pc := 95) (tgt := 103) dX6_aimsOf_95 (by decide) (by first | with_reducible assumption | omega) (by first | with_reducible assumption | omega) (fun c_95 => ?_) (fun c_95 => ?_)) | (refine wp_icmp_ne (pc := 95) (tgt := 103) dX6_aimsOf_95 (by decide) (fun c_95 => ?_) (fun c_95 => ?_))
        · refine wp_iload (pc := 103) dX6_aimsOf_103 rfl ?_
          refine wp_bipush (pc := 105) (v := nI 66) dX6_aimsOf_105 (by decide +kernel) ?_
          first | (refine wp_icmp_neN (pc := 107) (tgt := 135) dX6_aimsOf_107 (by decide) (by first | with_reducible assumption | omega) (by first | with_reducible assumption | omega) (fun c_107 => ?_) (fun c_107 => ?_)) | (refine wp_icmp_ne (pc := 107) (tgt := 135) dX6_aimsOf_107 (by decide) (fun c_107 => ?_) (fun c_107 => ?_))
          · exact absurd rfl c_107
          · refine wp_iload (pc := 110) dX6_aimsOf_110 rfl ?_
            refine wp_if_neN (pc := 112) (tgt := 135) dX6_aimsOf_112 (by decide) (by first | with_reducible assumption | omega) (fun c_112 => ?_) (fun c_112 => ?_)
            · refine wp_iload (pc := 135) dX6_aimsOf_135 rfl ?_
              refine wp_bipush (pc := 137) (v := nI 78) dX6_aimsOf_137 (by decide +kernel) ?_
              first | (refine wp_icmp_neN (pc := 139) (tgt := 178) dX6_aimsOf_139 (by decide) (by first | with_reducible assumption | omega) (by first | with_reducible assumption | omega) (fun c_139 => ?_) (fun c_139 => ?_)) | (refine wp_icmp_ne (pc := 139) (tgt := 178) dX6_aimsOf_139 (by decide) (fun c_139 => ?_) (fun c_139 => ?_))
              · refine wp_iload (pc := 178) dX6_aimsOf_178 rfl ?_
                refine wp_bipush (pc := 180) (v := nI 80) dX6_aimsOf_180 (by decide +kernel) ?_
                first | (refine wp_icmp_neN (pc := 182) (tgt := 225) dX6_aimsOf_182 (by decide) (by first | with_reducible assumption | omega) (by first | with_reducible assumption | omega) (fun c_182 => ?_) (fun c_182 => ?_)) | (refine wp_icmp_ne (pc := 182) (tgt := 225) dX6_aimsOf_182 (by decide) (fun c_182 => ?_) (fun c_182 => ?_))
                · first | (refine wp_iincN (pc := 225) (m := 1) dX6_aimsOf_225 rfl rfl (by decide) ?_) | (refine wp_iinc (pc := 225) dX6_aimsOf_225 rfl rfl (by decide) ?_)
                  refine wp_goto (pc := 228) (tgt := 12) dX6_aimsOf_228 (by decide) ?_
                  refine wp_drop 8 ?_
                  exact g
                · exact absurd c_182 (by decide)
              · exact absurd c_139 (by decide)
            · exact absurd c_112 (by decide)
        · exact absurd c_95 (by decide)
      · exact absurd c_71 (by decide)
    · exact absurd c_55 (by decide)
  have s6 : ∀ (P : Nat → Bool) (Q : Pst), WP ΩM (d + 3) kX6_aimsOf 12 [(0, .ref 0), (1, .int (nI k)), (2, .int (nI (asc s))), (3, .int (nI c)), (4, .int (bI nb)), (5, .int (nI 66)), (6, .int (nI (mset (fun t => P t || ray w h (nfr nb b.1) 5 3 (nbr w h c 5) t)))), (7, .int (nI 7))] [] I J Q → WP ΩM (d + 3) kX6_aimsOf 12 [(0, .ref 0), (1, .int (nI k)), (2, .int (nI (asc s))), (3, .int (nI c)), (4, .int (bI nb)), (5, .int (nI 66)), (6, .int (nI (mset P))), (7, .int (nI 6))] [] I J Q := by
    clear g9 s0 s1 s2 s3 s4 s5
    intro P Q g
    refine ma_6 ?_
    refine wp_iload (pc := 52) dX6_aimsOf_52 rfl ?_
    refine wp_iconst (pc := 54) (v := nI 4) dX6_aimsOf_54 (by decide +kernel) ?_
    first | (refine wp_icmp_neN (pc := 55) (tgt := 67) dX6_aimsOf_55 (by decide) (by first | with_reducible assumption | omega) (by first | with_reducible assumption | omega) (fun c_55 => ?_) (fun c_55 => ?_)) | (refine wp_icmp_ne (pc := 55) (tgt := 67) dX6_aimsOf_55 (by decide) (fun c_55 => ?_) (fun c_55 => ?_))
    · refine wp_iload (pc := 67) dX6_aimsOf_67 rfl ?_
      refine wp_bipush (pc := 69) (v := nI 75) dX6_aimsOf_69 (by decide +kernel) ?_
      first | (refine wp_icmp_neN (pc := 71) (tgt := 91) dX6_aimsOf_71 (by decide) (by first | with_reducible assumption | omega) (by first | with_reducible assumption | omega) (fun c_71 => ?_) (fun c_71 => ?_)) | (refine wp_icmp_ne (pc := 71) (tgt := 91) dX6_aimsOf_71 (by decide) (fun c_71 => ?_) (fun c_71 => ?_))
      · refine wp_iload (pc := 91) dX6_aimsOf_91 rfl ?_
        refine wp_bipush (pc := 93) (v := nI 82) dX6_aimsOf_93 (by decide +kernel) ?_
        first | (refine wp_icmp_neN (pc := 95) (tgt := 103) dX6_aimsOf_95 (by decide) (by first | with_reducible assumption | omega) (by first | with_reducible assumption | omega) (fun c_95 => ?_) (fun c_95 => ?_)) | (refine wp_icmp_ne (pc := 95) (tgt := 103) dX6_aimsOf_95 (by decide) (fun c_95 => ?_) (fun c_95 => ?_))
        · refine wp_iload (pc := 103) dX6_aimsOf_103 rfl ?_
          refine wp_bipush (pc := 105) (v := nI 66) dX6_aimsOf_105 (by decide +kernel) ?_
          first | (refine wp_icmp_neN (pc := 107) (tgt := 135) dX6_aimsOf_107 (by decide) (by first | with_reducible assumption | omega) (by first | with_reducible assumption | omega) (fun c_107 => ?_) (fun c_107 => ?_)) | (refine wp_icmp_ne (pc := 107) (tgt := 135) dX6_aimsOf_107 (by decide) (fun c_107 => ?_) (fun c_107 => ?_))
          · exact absurd rfl c_107
          · refine wp_iload (pc := 110) dX6_aimsOf_110 rfl ?_
            refine wp_if_neN (pc := 112) (tgt := 135) dX6_aimsOf_112 (by decide) (by first | with_reducible assumption | omega) (fun c_112 => ?_) (fun c_112 => ?_)
            · exact absurd rfl c_112
            · refine wp_iload (pc := 115) dX6_aimsOf_115 rfl ?_
              refine wp_aload_n (pc := 117) (i := 0) dX6_aimsOf_117 rfl rfl (by first | with_reducible assumption | rfl) ?_
              refine wp_iload_n (pc := 118) (i := 1) dX6_aimsOf_118 rfl rfl ?_
              refine wp_iload_n (pc := 119) (i := 3) dX6_aimsOf_119 rfl rfl ?_
              refine wp_iload (pc := 120) dX6_aimsOf_120 rfl ?_
              refine wp_iload (pc := 122) dX6_aimsOf_122 rfl ?_
              refine wp_iload (pc := 124) dX6_aimsOf_124 rfl ?_
              refine wp_cVP5 (pc := 126) (ci := 6) dX6_aimsOf_126 lm_X6_111 m_X6_line (by first | with_reducible assumption | rfl) (by first | with_reducible assumption | rfl) (by decide) rfl (Nat.le_of_ble_eq_true rfl) (sp_X6_line (d := d) (y := 5) hW hL hs hk hc (by decide)) ?_
              first | (refine wp_iorN (pc := 129) dX6_aimsOf_129 ?_) | (refine wp_ior (pc := 129) dX6_aimsOf_129 ?_)
              rw [mset_or]
              refine wp_istore (pc := 130) dX6_aimsOf_130 (by decide) ?_
              refine wp_goto (pc := 132) (tgt := 225) dX6_aimsOf_132 (by decide) ?_
              first | (refine wp_iincN (pc := 225) (m := 1) dX6_aimsOf_225 rfl rfl (by decide) ?_) | (refine wp_iinc (pc := 225) dX6_aimsOf_225 rfl rfl (by decide) ?_)
              refine wp_goto (pc := 228) (tgt := 12) dX6_aimsOf_228 (by decide) ?_
              refine wp_drop 8 ?_
              exact g
        · exact absurd c_95 (by decide)
      · exact absurd c_71 (by decide)
    · exact absurd c_55 (by decide)
  have s7 : ∀ (P : Nat → Bool) (Q : Pst), WP ΩM (d + 3) kX6_aimsOf 12 [(0, .ref 0), (1, .int (nI k)), (2, .int (nI (asc s))), (3, .int (nI c)), (4, .int (bI nb)), (5, .int (nI 66)), (6, .int (nI (mset P))), (7, .int (nI 8))] [] I J Q → WP ΩM (d + 3) kX6_aimsOf 12 [(0, .ref 0), (1, .int (nI k)), (2, .int (nI (asc s))), (3, .int (nI c)), (4, .int (bI nb)), (5, .int (nI 66)), (6, .int (nI (mset P))), (7, .int (nI 7))] [] I J Q := by
    clear g9 s0 s1 s2 s3 s4 s5 s6
    intro P Q g
    refine ma_7 ?_
    refine wp_iload (pc := 52) dX6_aimsOf_52 rfl ?_
    refine wp_iconst (pc := 54) (v := nI 4) dX6_aimsOf_54 (by decide +kernel) ?_
    first | (refine wp_icmp_neN (pc := 55) (tgt := 67) dX6_aimsOf_55 (by decide) (by first | with_reducible assumption | omega) (by first | with_reducible assumption | omega) (fun c_55 => ?_) (fun c_55 => ?_)) | (refine wp_icmp_ne (pc := 55) (tgt := 67) dX6_aimsOf_55 (by decide) (fun c_55 => ?_) (fun c_55 => ?_))
    · refine wp_iload (pc := 67) dX6_aimsOf_67 rfl ?_
      refine wp_bipush (pc := 69) (v := nI 75) dX6_aimsOf_69 (by decide +kernel) ?_
      first | (refine wp_icmp_neN (pc := 71) (tgt := 91) dX6_aimsOf_71 (by decide) (by first | with_reducible assumption | omega) (by first | with_reducible assumption | omega) (fun c_71 => ?_) (fun c_71 => ?_)) | (refine wp_icmp_ne (pc := 71) (tgt := 91) dX6_aimsOf_71 (by decide) (fun c_71 => ?_) (fun c_71 => ?_))
      · refine wp_iload (pc := 91) dX6_aimsOf_91 rfl ?_
        refine wp_bipush (pc := 93) (v := nI 82) dX6_aimsOf_93 (by decide +kernel) ?_
        first | (refine wp_icmp_neN (pc := 95) (tgt := 103) dX6_aimsOf_95 (by decide) (by first | with_reducible assumption | omega) (by first | with_reducible assumption | omega) (fun c_95 => ?_) (fun c_95 => ?_)) | (refine wp_icmp_ne (pc := 95) (tgt := 103) dX6_aimsOf_95 (by decide) (fun c_95 => ?_) (fun c_95 => ?_))
        · refine wp_iload (pc := 103) dX6_aimsOf_103 rfl ?_
          refine wp_bipush (pc := 105) (v := nI 66) dX6_aimsOf_105 (by decide +kernel) ?_
          first | (refine wp_icmp_neN (pc := 107) (tgt := 135) dX6_aimsOf_107 (by decide) (by first | with_reducible assumption | omega) (by first | with_reducible assumption | omega) (fun c_107 => ?_) (fun c_107 => ?_)) | (refine wp_icmp_ne (pc := 107) (tgt := 135) dX6_aimsOf_107 (by decide) (fun c_107 => ?_) (fun c_107 => ?_))
          · exact absurd rfl c_107
          · refine wp_iload (pc := 110) dX6_aimsOf_110 rfl ?_
            refine wp_if_neN (pc := 112) (tgt := 135) dX6_aimsOf_112 (by decide) (by first | with_reducible assumption | omega) (fun c_112 => ?_) (fun c_112 => ?_)
            · refine wp_iload (pc := 135) dX6_aimsOf_135 rfl ?_
              refine wp_bipush (pc := 137) (v := nI 78) dX6_aimsOf_137 (by decide +kernel) ?_
              first | (refine wp_icmp_neN (pc := 139) (tgt := 178) dX6_aimsOf_139 (by decide) (by first | with_reducible assumption | omega) (by first | with_reducible assumption | omega) (fun c_139 => ?_) (fun c_139 => ?_)) | (refine wp_icmp_ne (pc := 139) (tgt := 178) dX6_aimsOf_139 (by decide) (fun c_139 => ?_) (fun c_139 => ?_))
              · refine wp_iload (pc := 178) dX6_aimsOf_178 rfl ?_
                refine wp_bipush (pc := 180) (v := nI 80) dX6_aimsOf_180 (by decide +kernel) ?_
                first | (refine wp_icmp_neN (pc := 182) (tgt := 225) dX6_aimsOf_182 (by decide) (by first | with_reducible assumption | omega) (by first | with_reducible assumption | omega) (fun c_182 => ?_) (fun c_182 => ?_)) | (refine wp_icmp_ne (pc := 182) (tgt := 225) dX6_aimsOf_182 (by decide) (fun c_182 => ?_) (fun c_182 => ?_))
                · first | (refine wp_iincN (pc := 225) (m := 1) dX6_aimsOf_225 rfl rfl (by decide) ?_) | (refine wp_iinc (pc := 225) dX6_aimsOf_225 rfl rfl (by decide) ?_)
                  refine wp_goto (pc := 228) (tgt := 12) dX6_aimsOf_228 (by decide) ?_
                  refine wp_drop 8 ?_
                  exact g
                · exact absurd c_182 (by decide)
              · exact absurd c_139 (by decide)
            · exact absurd c_112 (by decide)
        · exact absurd c_95 (by decide)
      · exact absurd c_71 (by decide)
    · exact absurd c_55 (by decide)
  have s8 : ∀ (P : Nat → Bool) (Q : Pst), WP ΩM (d + 3) kX6_aimsOf 12 [(0, .ref 0), (1, .int (nI k)), (2, .int (nI (asc s))), (3, .int (nI c)), (4, .int (bI nb)), (5, .int (nI 66)), (6, .int (nI (mset (fun t => P t || ray w h (nfr nb b.1) 3 3 (nbr w h c 3) t)))), (7, .int (nI 9))] [] I J Q → WP ΩM (d + 3) kX6_aimsOf 12 [(0, .ref 0), (1, .int (nI k)), (2, .int (nI (asc s))), (3, .int (nI c)), (4, .int (bI nb)), (5, .int (nI 66)), (6, .int (nI (mset P))), (7, .int (nI 8))] [] I J Q := by
    clear g9 s0 s1 s2 s3 s4 s5 s6 s7
    intro P Q g
    refine ma_8 ?_
    refine wp_iload (pc := 52) dX6_aimsOf_52 rfl ?_
    refine wp_iconst (pc := 54) (v := nI 4) dX6_aimsOf_54 (by decide +kernel) ?_
    first | (refine wp_icmp_neN (pc := 55) (tgt := 67) dX6_aimsOf_55 (by decide) (by first | with_reducible assumption | omega) (by first | with_reducible assumption | omega) (fun c_55 => ?_) (fun c_55 => ?_)) | (refine wp_icmp_ne (pc := 55) (tgt := 67) dX6_aimsOf_55 (by decide) (fun c_55 => ?_) (fun c_55 => ?_))
    · refine wp_iload (pc := 67) dX6_aimsOf_67 rfl ?_
      refine wp_bipush (pc := 69) (v := nI 75) dX6_aimsOf_69 (by decide +kernel) ?_
      first | (refine wp_icmp_neN (pc := 71) (tgt := 91) dX6_aimsOf_71 (by decide) (by first | with_reducible assumption | omega) (by first | with_reducible assumption | omega) (fun c_71 => ?_) (fun c_71 => ?_)) | (refine wp_icmp_ne (pc := 71) (tgt := 91) dX6_aimsOf_71 (by decide) (fun c_71 => ?_) (fun c_71 => ?_))
      · refine wp_iload (pc := 91) dX6_aimsOf_91 rfl ?_
        refine wp_bipush (pc := 93) (v := nI 82) dX6_aimsOf_93 (by decide +kernel) ?_
        first | (refine wp_icmp_neN (pc := 95) (tgt := 103) dX6_aimsOf_95 (by decide) (by first | with_reducible assumption | omega) (by first | with_reducible assumption | omega) (fun c_95 => ?_) (fun c_95 => ?_)) | (refine wp_icmp_ne (pc := 95) (tgt := 103) dX6_aimsOf_95 (by decide) (fun c_95 => ?_) (fun c_95 => ?_))
        · refine wp_iload (pc := 103) dX6_aimsOf_103 rfl ?_
          refine wp_bipush (pc := 105) (v := nI 66) dX6_aimsOf_105 (by decide +kernel) ?_
          first | (refine wp_icmp_neN (pc := 107) (tgt := 135) dX6_aimsOf_107 (by decide) (by first | with_reducible assumption | omega) (by first | with_reducible assumption | omega) (fun c_107 => ?_) (fun c_107 => ?_)) | (refine wp_icmp_ne (pc := 107) (tgt := 135) dX6_aimsOf_107 (by decide) (fun c_107 => ?_) (fun c_107 => ?_))
          · exact absurd rfl c_107
          · refine wp_iload (pc := 110) dX6_aimsOf_110 rfl ?_
            refine wp_if_neN (pc := 112) (tgt := 135) dX6_aimsOf_112 (by decide) (by first | with_reducible assumption | omega) (fun c_112 => ?_) (fun c_112 => ?_)
            · exact absurd rfl c_112
            · refine wp_iload (pc := 115) dX6_aimsOf_115 rfl ?_
              refine wp_aload_n (pc := 117) (i := 0) dX6_aimsOf_117 rfl rfl (by first | with_reducible assumption | rfl) ?_
              refine wp_iload_n (pc := 118) (i := 1) dX6_aimsOf_118 rfl rfl ?_
              refine wp_iload_n (pc := 119) (i := 3) dX6_aimsOf_119 rfl rfl ?_
              refine wp_iload (pc := 120) dX6_aimsOf_120 rfl ?_
              refine wp_iload (pc := 122) dX6_aimsOf_122 rfl ?_
              refine wp_iload (pc := 124) dX6_aimsOf_124 rfl ?_
              refine wp_cVP5 (pc := 126) (ci := 6) dX6_aimsOf_126 lm_X6_111 m_X6_line (by first | with_reducible assumption | rfl) (by first | with_reducible assumption | rfl) (by decide) rfl (Nat.le_of_ble_eq_true rfl) (sp_X6_line (d := d) (y := 3) hW hL hs hk hc (by decide)) ?_
              first | (refine wp_iorN (pc := 129) dX6_aimsOf_129 ?_) | (refine wp_ior (pc := 129) dX6_aimsOf_129 ?_)
              rw [mset_or]
              refine wp_istore (pc := 130) dX6_aimsOf_130 (by decide) ?_
              refine wp_goto (pc := 132) (tgt := 225) dX6_aimsOf_132 (by decide) ?_
              first | (refine wp_iincN (pc := 225) (m := 1) dX6_aimsOf_225 rfl rfl (by decide) ?_) | (refine wp_iinc (pc := 225) dX6_aimsOf_225 rfl rfl (by decide) ?_)
              refine wp_goto (pc := 228) (tgt := 12) dX6_aimsOf_228 (by decide) ?_
              refine wp_drop 8 ?_
              exact g
        · exact absurd c_95 (by decide)
      · exact absurd c_71 (by decide)
    · exact absurd c_55 (by decide)
  have g0 := s0 (fun _ => false) _ (s1 _ _ (s2 _ _ (s3 _ _ (s4 _ _ (s5 _ _ (s6 _ _ (s7 _ _ (s8 _ _ (g9 _)))))))))
  rw [mset_none] at g0
  refine call_of_wp (by decide) (Nat.le_of_ble_eq_true rfl) ?_
  refine wp_iload_n (pc := 0) (i := 2) dX6_aimsOf_0 rfl rfl ?_
  refine wp_cSP1 (pc := 1) dX6_aimsOf_1 lm_X6_105 m_X6_kindOf (Nat.le_of_ble_eq_true rfl) hkf ?_
  refine wp_istore (pc := 4) dX6_aimsOf_4 (by decide) ?_
  refine wp_iconst (pc := 6) (v := nI 0) dX6_aimsOf_6 (by decide +kernel) ?_
  refine wp_istore (pc := 7) dX6_aimsOf_7 (by decide) ?_
  refine wp_iconst (pc := 9) (v := nI 0) dX6_aimsOf_9 (by decide +kernel) ?_
  refine wp_istore (pc := 10) dX6_aimsOf_10 (by decide) ?_
  exact g0
theorem am_N {w h k c s : Nat} {b : Bd} {nb : Bool} (hW : WH w h I) (hL : LV (w * h) k b I) (hs : ∀ c, c < 16 → b.1 c < 12) (hk : k < 4) (hc : c < w * h) (hs12 : s < 12) (hkd : kdA s = 78) : CALL ΩM (d + 3) kX6_aimsOf [.ref 0, .int (nI k), .int (nI (asc s)), .int (nI c), .int (bI nb)] I J (PQ (.int (nI (mset (fun t => ((((false || ((cat w h (cxx w c + (-2)) (cyy w c + (-1)) == some t) || (cat w h (cxx w c + (-1)) (cyy w c + (-2)) == some t))) || ((cat w h (cxx w c + (2)) (cyy w c + (-1)) == some t) || (cat w h (cxx w c + (1)) (cyy w c + (-2)) == some t))) || ((cat w h (cxx w c + (-2)) (cyy w c + (1)) == some t) || (cat w h (cxx w c + (-1)) (cyy w c + (2)) == some t))) || ((cat w h (cxx w c + (2)) (cyy w c + (1)) == some t) || (cat w h (cxx w c + (1)) (cyy w c + (2)) == some t))))))) I J) := by
  have n16 := (WH_n hW).2
  have ha := asc_lt s
  have hkf := sp_X6_kindOf (Ω := ΩM) (d := d + 1) (I := I) (J := J) hs12
  rw [hkd] at hkf
  have g9 : ∀ P : Nat → Bool, WP ΩM (d + 3) kX6_aimsOf 12 [(0, .ref 0), (1, .int (nI k)), (2, .int (nI (asc s))), (3, .int (nI c)), (4, .int (bI nb)), (5, .int (nI 78)), (6, .int (nI (mset P))), (7, .int (nI 9))] [] I J (PQ (.int (nI (mset P))) I J) := by
    intro P
    refine wp_iload (pc := 12) dX6_aimsOf_12 rfl ?_
    refine wp_bipush (pc := 14) (v := nI 9) dX6_aimsOf_14 (by decide +kernel) ?_
    first | (refine wp_icmp_geN (pc := 16) (tgt := 231) dX6_aimsOf_16 (by decide) (by first | with_reducible assumption | omega) (by first | with_reducible assumption | omega) (fun c_16 => ?_) (fun c_16 => ?_)) | (refine wp_icmp_ge (pc := 16) (tgt := 231) dX6_aimsOf_16 (by decide) (fun c_16 => ?_) (fun c_16 => ?_))
    · refine wp_iload (pc := 231) dX6_aimsOf_231 rfl ?_
      refine wp_ireturn (pc := 233) dX6_aimsOf_233 rfl ?_
      exact pq_i rfl
    · exact absurd (Nat.le_refl 9) c_16
  have s0 : ∀ (P : Nat → Bool) (Q : Pst), WP ΩM (d + 3) kX6_aimsOf 12 [(0, .ref 0), (1, .int (nI k)), (2, .int (nI (asc s))), (3, .int (nI c)), (4, .int (bI nb)), (5, .int (nI 78)), (6, .int (nI (mset (fun t => P t || ((cat w h (cxx w c + (-2)) (cyy w c + (-1)) == some t) || (cat w h (cxx w c + (-1)) (cyy w c + (-2)) == some t)))))), (7, .int (nI 1))] [] I J Q → WP ΩM (d + 3) kX6_aimsOf 12 [(0, .ref 0), (1, .int (nI k)), (2, .int (nI (asc s))), (3, .int (nI c)), (4, .int (bI nb)), (5, .int (nI 78)), (6, .int (nI (mset P))), (7, .int (nI 0))] [] I J Q := by
    intro P Q g
    refine ma_0 ?_
    refine wp_iload (pc := 52) dX6_aimsOf_52 rfl ?_
    refine wp_iconst (pc := 54) (v := nI 4) dX6_aimsOf_54 (by decide +kernel) ?_
    first | (refine wp_icmp_neN (pc := 55) (tgt := 67) dX6_aimsOf_55 (by decide) (by first | with_reducible assumption | omega) (by first | with_reducible assumption | omega) (fun c_55 => ?_) (fun c_55 => ?_)) | (refine wp_icmp_ne (pc := 55) (tgt := 67) dX6_aimsOf_55 (by decide) (fun c_55 => ?_) (fun c_55 => ?_))
    · refine wp_iload (pc := 67) dX6_aimsOf_67 rfl ?_
      refine wp_bipush (pc := 69) (v := nI 75) dX6_aimsOf_69 (by decide +kernel) ?_
      first | (refine wp_icmp_neN (pc := 71) (tgt := 91) dX6_aimsOf_71 (by decide) (by first | with_reducible assumption | omega) (by first | with_reducible assumption | omega) (fun c_71 => ?_) (fun c_71 => ?_)) | (refine wp_icmp_ne (pc := 71) (tgt := 91) dX6_aimsOf_71 (by decide) (fun c_71 => ?_) (fun c_71 => ?_))
      · refine wp_iload (pc := 91) dX6_aimsOf_91 rfl ?_
        refine wp_bipush (pc := 93) (v := nI 82) dX6_aimsOf_93 (by decide +kernel) ?_
        first | (refine wp_icmp_neN (pc := 95) (tgt := 103) dX6_aimsOf_95 (by decide) (by first | with_reducible assumption | omega) (by first | with_reducible assumption | omega) (fun c_95 => ?_) (fun c_95 => ?_)) | (refine wp_icmp_ne (pc := 95) (tgt := 103) dX6_aimsOf_95 (by decide) (fun c_95 => ?_) (fun c_95 => ?_))
        · refine wp_iload (pc := 103) dX6_aimsOf_103 rfl ?_
          refine wp_bipush (pc := 105) (v := nI 66) dX6_aimsOf_105 (by decide +kernel) ?_
          first | (refine wp_icmp_neN (pc := 107) (tgt := 135) dX6_aimsOf_107 (by decide) (by first | with_reducible assumption | omega) (by first | with_reducible assumption | omega) (fun c_107 => ?_) (fun c_107 => ?_)) | (refine wp_icmp_ne (pc := 107) (tgt := 135) dX6_aimsOf_107 (by decide) (fun c_107 => ?_) (fun c_107 => ?_))
          · refine wp_iload (pc := 135) dX6_aimsOf_135 rfl ?_
            refine wp_bipush (pc := 137) (v := nI 78) dX6_aimsOf_137 (by decide +kernel) ?_
            first | (refine wp_icmp_neN (pc := 139) (tgt := 178) dX6_aimsOf_139 (by decide) (by first | with_reducible assumption | omega) (by first | with_reducible assumption | omega) (fun c_139 => ?_) (fun c_139 => ?_)) | (refine wp_icmp_ne (pc := 139) (tgt := 178) dX6_aimsOf_139 (by decide) (fun c_139 => ?_) (fun c_139 => ?_))
            · exact absurd rfl c_139
            · refine wp_iload (pc := 142) dX6_aimsOf_142 rfl ?_
              refine wp_if_neN (pc := 144) (tgt := 178) dX6_aimsOf_144 (by decide) (by first | with_reducible assumption | omega) (fun c_144 => ?_) (fun c_144 => ?_)
              · exact absurd rfl c_144
              · refine wp_iload (pc := 147) dX6_aimsOf_147 rfl ?_
                refine wp_aload_n (pc := 149) (i := 0) dX6_aimsOf_149 rfl rfl (by first | with_reducible assumption | rfl) ?_
                refine wp_iload_n (pc := 150) (i := 3) dX6_aimsOf_150 rfl rfl ?_
                refine wp_iconst (pc := 151) (v := nI 2) dX6_aimsOf_151 (by decide +kernel) ?_
                refine wp_iload (pc := 152) dX6_aimsOf_152 rfl ?_
                refine wp_imul (pc := 154) dX6_aimsOf_154 ?_
                rw [show nI 2 * zI (-1) = zI (-2) by decide +kernel]
                refine wp_iload (pc := 155) dX6_aimsOf_155 rfl ?_
                refine wp_cVP3 (pc := 157) (ci := 6) dX6_aimsOf_157 lm_X6_108 m_X6_step (by first | with_reducible assumption | rfl) (by first | with_reducible assumption | rfl) (by decide) rfl (Nat.le_of_ble_eq_true rfl) (sp_X6_step (d := d) hW hc (by omega) (by omega)) ?_
                refine wp_aload_n (pc := 160) (i := 0) dX6_aimsOf_160 rfl rfl (by first | with_reducible assumption | rfl) ?_
                refine wp_iload_n (pc := 161) (i := 3) dX6_aimsOf_161 rfl rfl ?_
                refine wp_iload (pc := 162) dX6_aimsOf_162 rfl ?_
                refine wp_iconst (pc := 164) (v := nI 2) dX6_aimsOf_164 (by decide +kernel) ?_
                refine wp_iload (pc := 165) dX6_aimsOf_165 rfl ?_
                refine wp_imul (pc := 167) dX6_aimsOf_167 ?_
                rw [show nI 2 * zI (-1) = zI (-2) by decide +kernel]
                refine wp_cVP3 (pc := 168) (ci := 6) dX6_aimsOf_168 lm_X6_108 m_X6_step (by first | with_reducible assumption | rfl) (by first | with_reducible assumption | rfl) (by decide) rfl (Nat.le_of_ble_eq_true rfl) (sp_X6_step (d := d) hW hc (by omega) (by omega)) ?_
                first | (refine wp_iorN (pc := 171) dX6_aimsOf_171 ?_) | (refine wp_ior (pc := 171) dX6_aimsOf_171 ?_)
                rw [st_or2 n16]
                first | (refine wp_iorN (pc := 172) dX6_aimsOf_172 ?_) | (refine wp_ior (pc := 172) dX6_aimsOf_172 ?_)
                rw [mset_or]
                refine wp_istore (pc := 173) dX6_aimsOf_173 (by decide) ?_
                refine wp_goto (pc := 175) (tgt := 225) dX6_aimsOf_175 (by decide) ?_
                first | (refine wp_iincN (pc := 225) (m := 1) dX6_aimsOf_225 rfl rfl (by decide) ?_) | (refine wp_iinc (pc := 225) dX6_aimsOf_225 rfl rfl (by decide) ?_)
                refine wp_goto (pc := 228) (tgt := 12) dX6_aimsOf_228 (by decide) ?_
                refine wp_drop 8 ?_
                exact g
          · exact absurd c_107 (by decide)
        · exact absurd c_95 (by decide)
      · exact absurd c_71 (by decide)
    · exact absurd c_55 (by decide)
  have s1 : ∀ (P : Nat → Bool) (Q : Pst), WP ΩM (d + 3) kX6_aimsOf 12 [(0, .ref 0), (1, .int (nI k)), (2, .int (nI (asc s))), (3, .int (nI c)), (4, .int (bI nb)), (5, .int (nI 78)), (6, .int (nI (mset P))), (7, .int (nI 2))] [] I J Q → WP ΩM (d + 3) kX6_aimsOf 12 [(0, .ref 0), (1, .int (nI k)), (2, .int (nI (asc s))), (3, .int (nI c)), (4, .int (bI nb)), (5, .int (nI 78)), (6, .int (nI (mset P))), (7, .int (nI 1))] [] I J Q := by
    clear g9 s0
    intro P Q g
    refine ma_1 ?_
    refine wp_iload (pc := 52) dX6_aimsOf_52 rfl ?_
    refine wp_iconst (pc := 54) (v := nI 4) dX6_aimsOf_54 (by decide +kernel) ?_
    first | (refine wp_icmp_neN (pc := 55) (tgt := 67) dX6_aimsOf_55 (by decide) (by first | with_reducible assumption | omega) (by first | with_reducible assumption | omega) (fun c_55 => ?_) (fun c_55 => ?_)) | (refine wp_icmp_ne (pc := 55) (tgt := 67) dX6_aimsOf_55 (by decide) (fun c_55 => ?_) (fun c_55 => ?_))
    · refine wp_iload (pc := 67) dX6_aimsOf_67 rfl ?_
      refine wp_bipush (pc := 69) (v := nI 75) dX6_aimsOf_69 (by decide +kernel) ?_
      first | (refine wp_icmp_neN (pc := 71) (tgt := 91) dX6_aimsOf_71 (by decide) (by first | with_reducible assumption | omega) (by first | with_reducible assumption | omega) (fun c_71 => ?_) (fun c_71 => ?_)) | (refine wp_icmp_ne (pc := 71) (tgt := 91) dX6_aimsOf_71 (by decide) (fun c_71 => ?_) (fun c_71 => ?_))
      · refine wp_iload (pc := 91) dX6_aimsOf_91 rfl ?_
        refine wp_bipush (pc := 93) (v := nI 82) dX6_aimsOf_93 (by decide +kernel) ?_
        first | (refine wp_icmp_neN (pc := 95) (tgt := 103) dX6_aimsOf_95 (by decide) (by first | with_reducible assumption | omega) (by first | with_reducible assumption | omega) (fun c_95 => ?_) (fun c_95 => ?_)) | (refine wp_icmp_ne (pc := 95) (tgt := 103) dX6_aimsOf_95 (by decide) (fun c_95 => ?_) (fun c_95 => ?_))
        · refine wp_iload (pc := 103) dX6_aimsOf_103 rfl ?_
          refine wp_bipush (pc := 105) (v := nI 66) dX6_aimsOf_105 (by decide +kernel) ?_
          first | (refine wp_icmp_neN (pc := 107) (tgt := 135) dX6_aimsOf_107 (by decide) (by first | with_reducible assumption | omega) (by first | with_reducible assumption | omega) (fun c_107 => ?_) (fun c_107 => ?_)) | (refine wp_icmp_ne (pc := 107) (tgt := 135) dX6_aimsOf_107 (by decide) (fun c_107 => ?_) (fun c_107 => ?_))
          · refine wp_iload (pc := 135) dX6_aimsOf_135 rfl ?_
            refine wp_bipush (pc := 137) (v := nI 78) dX6_aimsOf_137 (by decide +kernel) ?_
            first | (refine wp_icmp_neN (pc := 139) (tgt := 178) dX6_aimsOf_139 (by decide) (by first | with_reducible assumption | omega) (by first | with_reducible assumption | omega) (fun c_139 => ?_) (fun c_139 => ?_)) | (refine wp_icmp_ne (pc := 139) (tgt := 178) dX6_aimsOf_139 (by decide) (fun c_139 => ?_) (fun c_139 => ?_))
            · exact absurd rfl c_139
            · refine wp_iload (pc := 142) dX6_aimsOf_142 rfl ?_
              refine wp_if_neN (pc := 144) (tgt := 178) dX6_aimsOf_144 (by decide) (by first | with_reducible assumption | omega) (fun c_144 => ?_) (fun c_144 => ?_)
              · refine wp_iload (pc := 178) dX6_aimsOf_178 rfl ?_
                refine wp_bipush (pc := 180) (v := nI 80) dX6_aimsOf_180 (by decide +kernel) ?_
                first | (refine wp_icmp_neN (pc := 182) (tgt := 225) dX6_aimsOf_182 (by decide) (by first | with_reducible assumption | omega) (by first | with_reducible assumption | omega) (fun c_182 => ?_) (fun c_182 => ?_)) | (refine wp_icmp_ne (pc := 182) (tgt := 225) dX6_aimsOf_182 (by decide) (fun c_182 => ?_) (fun c_182 => ?_))
                · first | (refine wp_iincN (pc := 225) (m := 1) dX6_aimsOf_225 rfl rfl (by decide) ?_) | (refine wp_iinc (pc := 225) dX6_aimsOf_225 rfl rfl (by decide) ?_)
                  refine wp_goto (pc := 228) (tgt := 12) dX6_aimsOf_228 (by decide) ?_
                  refine wp_drop 8 ?_
                  exact g
                · exact absurd c_182 (by decide)
              · exact absurd c_144 (by decide)
          · exact absurd c_107 (by decide)
        · exact absurd c_95 (by decide)
      · exact absurd c_71 (by decide)
    · exact absurd c_55 (by decide)
  have s2 : ∀ (P : Nat → Bool) (Q : Pst), WP ΩM (d + 3) kX6_aimsOf 12 [(0, .ref 0), (1, .int (nI k)), (2, .int (nI (asc s))), (3, .int (nI c)), (4, .int (bI nb)), (5, .int (nI 78)), (6, .int (nI (mset (fun t => P t || ((cat w h (cxx w c + (2)) (cyy w c + (-1)) == some t) || (cat w h (cxx w c + (1)) (cyy w c + (-2)) == some t)))))), (7, .int (nI 3))] [] I J Q → WP ΩM (d + 3) kX6_aimsOf 12 [(0, .ref 0), (1, .int (nI k)), (2, .int (nI (asc s))), (3, .int (nI c)), (4, .int (bI nb)), (5, .int (nI 78)), (6, .int (nI (mset P))), (7, .int (nI 2))] [] I J Q := by
    clear g9 s0 s1
    intro P Q g
    refine ma_2 ?_
    refine wp_iload (pc := 52) dX6_aimsOf_52 rfl ?_
    refine wp_iconst (pc := 54) (v := nI 4) dX6_aimsOf_54 (by decide +kernel) ?_
    first | (refine wp_icmp_neN (pc := 55) (tgt := 67) dX6_aimsOf_55 (by decide) (by first | with_reducible assumption | omega) (by first | with_reducible assumption | omega) (fun c_55 => ?_) (fun c_55 => ?_)) | (refine wp_icmp_ne (pc := 55) (tgt := 67) dX6_aimsOf_55 (by decide) (fun c_55 => ?_) (fun c_55 => ?_))
    · refine wp_iload (pc := 67) dX6_aimsOf_67 rfl ?_
      refine wp_bipush (pc := 69) (v := nI 75) dX6_aimsOf_69 (by decide +kernel) ?_
      first | (refine wp_icmp_neN (pc := 71) (tgt := 91) dX6_aimsOf_71 (by decide) (by first | with_reducible assumption | omega) (by first | with_reducible assumption | omega) (fun c_71 => ?_) (fun c_71 => ?_)) | (refine wp_icmp_ne (pc := 71) (tgt := 91) dX6_aimsOf_71 (by decide) (fun c_71 => ?_) (fun c_71 => ?_))
      · refine wp_iload (pc := 91) dX6_aimsOf_91 rfl ?_
        refine wp_bipush (pc := 93) (v := nI 82) dX6_aimsOf_93 (by decide +kernel) ?_
        first | (refine wp_icmp_neN (pc := 95) (tgt := 103) dX6_aimsOf_95 (by decide) (by first | with_reducible assumption | omega) (by first | with_reducible assumption | omega) (fun c_95 => ?_) (fun c_95 => ?_)) | (refine wp_icmp_ne (pc := 95) (tgt := 103) dX6_aimsOf_95 (by decide) (fun c_95 => ?_) (fun c_95 => ?_))
        · refine wp_iload (pc := 103) dX6_aimsOf_103 rfl ?_
          refine wp_bipush (pc := 105) (v := nI 66) dX6_aimsOf_105 (by decide +kernel) ?_
          first | (refine wp_icmp_neN (pc := 107) (tgt := 135) dX6_aimsOf_107 (by decide) (by first | with_reducible assumption | omega) (by first | with_reducible assumption | omega) (fun c_107 => ?_) (fun c_107 => ?_)) | (refine wp_icmp_ne (pc := 107) (tgt := 135) dX6_aimsOf_107 (by decide) (fun c_107 => ?_) (fun c_107 => ?_))
          · refine wp_iload (pc := 135) dX6_aimsOf_135 rfl ?_
            refine wp_bipush (pc := 137) (v := nI 78) dX6_aimsOf_137 (by decide +kernel) ?_
            first | (refine wp_icmp_neN (pc := 139) (tgt := 178) dX6_aimsOf_139 (by decide) (by first | with_reducible assumption | omega) (by first | with_reducible assumption | omega) (fun c_139 => ?_) (fun c_139 => ?_)) | (refine wp_icmp_ne (pc := 139) (tgt := 178) dX6_aimsOf_139 (by decide) (fun c_139 => ?_) (fun c_139 => ?_))
            · exact absurd rfl c_139
            · refine wp_iload (pc := 142) dX6_aimsOf_142 rfl ?_
              refine wp_if_neN (pc := 144) (tgt := 178) dX6_aimsOf_144 (by decide) (by first | with_reducible assumption | omega) (fun c_144 => ?_) (fun c_144 => ?_)
              · exact absurd rfl c_144
              · refine wp_iload (pc := 147) dX6_aimsOf_147 rfl ?_
                refine wp_aload_n (pc := 149) (i := 0) dX6_aimsOf_149 rfl rfl (by first | with_reducible assumption | rfl) ?_
                refine wp_iload_n (pc := 150) (i := 3) dX6_aimsOf_150 rfl rfl ?_
                refine wp_iconst (pc := 151) (v := nI 2) dX6_aimsOf_151 (by decide +kernel) ?_
                refine wp_iload (pc := 152) dX6_aimsOf_152 rfl ?_
                refine wp_imul (pc := 154) dX6_aimsOf_154 ?_
                rw [show nI 2 * zI (1) = zI (2) by decide +kernel]
                refine wp_iload (pc := 155) dX6_aimsOf_155 rfl ?_
                refine wp_cVP3 (pc := 157) (ci := 6) dX6_aimsOf_157 lm_X6_108 m_X6_step (by first | with_reducible assumption | rfl) (by first | with_reducible assumption | rfl) (by decide) rfl (Nat.le_of_ble_eq_true rfl) (sp_X6_step (d := d) hW hc (by omega) (by omega)) ?_
                refine wp_aload_n (pc := 160) (i := 0) dX6_aimsOf_160 rfl rfl (by first | with_reducible assumption | rfl) ?_
                refine wp_iload_n (pc := 161) (i := 3) dX6_aimsOf_161 rfl rfl ?_
                refine wp_iload (pc := 162) dX6_aimsOf_162 rfl ?_
                refine wp_iconst (pc := 164) (v := nI 2) dX6_aimsOf_164 (by decide +kernel) ?_
                refine wp_iload (pc := 165) dX6_aimsOf_165 rfl ?_
                refine wp_imul (pc := 167) dX6_aimsOf_167 ?_
                rw [show nI 2 * zI (-1) = zI (-2) by decide +kernel]
                refine wp_cVP3 (pc := 168) (ci := 6) dX6_aimsOf_168 lm_X6_108 m_X6_step (by first | with_reducible assumption | rfl) (by first | with_reducible assumption | rfl) (by decide) rfl (Nat.le_of_ble_eq_true rfl) (sp_X6_step (d := d) hW hc (by omega) (by omega)) ?_
                first | (refine wp_iorN (pc := 171) dX6_aimsOf_171 ?_) | (refine wp_ior (pc := 171) dX6_aimsOf_171 ?_)
                rw [st_or2 n16]
                first | (refine wp_iorN (pc := 172) dX6_aimsOf_172 ?_) | (refine wp_ior (pc := 172) dX6_aimsOf_172 ?_)
                rw [mset_or]
                refine wp_istore (pc := 173) dX6_aimsOf_173 (by decide) ?_
                refine wp_goto (pc := 175) (tgt := 225) dX6_aimsOf_175 (by decide) ?_
                first | (refine wp_iincN (pc := 225) (m := 1) dX6_aimsOf_225 rfl rfl (by decide) ?_) | (refine wp_iinc (pc := 225) dX6_aimsOf_225 rfl rfl (by decide) ?_)
                refine wp_goto (pc := 228) (tgt := 12) dX6_aimsOf_228 (by decide) ?_
                refine wp_drop 8 ?_
                exact g
          · exact absurd c_107 (by decide)
        · exact absurd c_95 (by decide)
      · exact absurd c_71 (by decide)
    · exact absurd c_55 (by decide)
  have s3 : ∀ (P : Nat → Bool) (Q : Pst), WP ΩM (d + 3) kX6_aimsOf 12 [(0, .ref 0), (1, .int (nI k)), (2, .int (nI (asc s))), (3, .int (nI c)), (4, .int (bI nb)), (5, .int (nI 78)), (6, .int (nI (mset P))), (7, .int (nI 4))] [] I J Q → WP ΩM (d + 3) kX6_aimsOf 12 [(0, .ref 0), (1, .int (nI k)), (2, .int (nI (asc s))), (3, .int (nI c)), (4, .int (bI nb)), (5, .int (nI 78)), (6, .int (nI (mset P))), (7, .int (nI 3))] [] I J Q := by
    clear g9 s0 s1 s2
    intro P Q g
    refine ma_3 ?_
    refine wp_iload (pc := 52) dX6_aimsOf_52 rfl ?_
    refine wp_iconst (pc := 54) (v := nI 4) dX6_aimsOf_54 (by decide +kernel) ?_
    first | (refine wp_icmp_neN (pc := 55) (tgt := 67) dX6_aimsOf_55 (by decide) (by first | with_reducible assumption | omega) (by first | with_reducible assumption | omega) (fun c_55 => ?_) (fun c_55 => ?_)) | (refine wp_icmp_ne (pc := 55) (tgt := 67) dX6_aimsOf_55 (by decide) (fun c_55 => ?_) (fun c_55 => ?_))
    · refine wp_iload (pc := 67) dX6_aimsOf_67 rfl ?_
      refine wp_bipush (pc := 69) (v := nI 75) dX6_aimsOf_69 (by decide +kernel) ?_
      first | (refine wp_icmp_neN (pc := 71) (tgt := 91) dX6_aimsOf_71 (by decide) (by first | with_reducible assumption | omega) (by first | with_reducible assumption | omega) (fun c_71 => ?_) (fun c_71 => ?_)) | (refine wp_icmp_ne (pc := 71) (tgt := 91) dX6_aimsOf_71 (by decide) (fun c_71 => ?_) (fun c_71 => ?_))
      · refine wp_iload (pc := 91) dX6_aimsOf_91 rfl ?_
        refine wp_bipush (pc := 93) (v := nI 82) dX6_aimsOf_93 (by decide +kernel) ?_
        first | (refine wp_icmp_neN (pc := 95) (tgt := 103) dX6_aimsOf_95 (by decide) (by first | with_reducible assumption | omega) (by first | with_reducible assumption | omega) (fun c_95 => ?_) (fun c_95 => ?_)) | (refine wp_icmp_ne (pc := 95) (tgt := 103) dX6_aimsOf_95 (by decide) (fun c_95 => ?_) (fun c_95 => ?_))
        · refine wp_iload (pc := 103) dX6_aimsOf_103 rfl ?_
          refine wp_bipush (pc := 105) (v := nI 66) dX6_aimsOf_105 (by decide +kernel) ?_
          first | (refine wp_icmp_neN (pc := 107) (tgt := 135) dX6_aimsOf_107 (by decide) (by first | with_reducible assumption | omega) (by first | with_reducible assumption | omega) (fun c_107 => ?_) (fun c_107 => ?_)) | (refine wp_icmp_ne (pc := 107) (tgt := 135) dX6_aimsOf_107 (by decide) (fun c_107 => ?_) (fun c_107 => ?_))
          · refine wp_iload (pc := 135) dX6_aimsOf_135 rfl ?_
            refine wp_bipush (pc := 137) (v := nI 78) dX6_aimsOf_137 (by decide +kernel) ?_
            first | (refine wp_icmp_neN (pc := 139) (tgt := 178) dX6_aimsOf_139 (by decide) (by first | with_reducible assumption | omega) (by first | with_reducible assumption | omega) (fun c_139 => ?_) (fun c_139 => ?_)) | (refine wp_icmp_ne (pc := 139) (tgt := 178) dX6_aimsOf_139 (by decide) (fun c_139 => ?_) (fun c_139 => ?_))
            · exact absurd rfl c_139
            · refine wp_iload (pc := 142) dX6_aimsOf_142 rfl ?_
              refine wp_if_neN (pc := 144) (tgt := 178) dX6_aimsOf_144 (by decide) (by first | with_reducible assumption | omega) (fun c_144 => ?_) (fun c_144 => ?_)
              · refine wp_iload (pc := 178) dX6_aimsOf_178 rfl ?_
                refine wp_bipush (pc := 180) (v := nI 80) dX6_aimsOf_180 (by decide +kernel) ?_
                first | (refine wp_icmp_neN (pc := 182) (tgt := 225) dX6_aimsOf_182 (by decide) (by first | with_reducible assumption | omega) (by first | with_reducible assumption | omega) (fun c_182 => ?_) (fun c_182 => ?_)) | (refine wp_icmp_ne (pc := 182) (tgt := 225) dX6_aimsOf_182 (by decide) (fun c_182 => ?_) (fun c_182 => ?_))
                · first | (refine wp_iincN (pc := 225) (m := 1) dX6_aimsOf_225 rfl rfl (by decide) ?_) | (refine wp_iinc (pc := 225) dX6_aimsOf_225 rfl rfl (by decide) ?_)
                  refine wp_goto (pc := 228) (tgt := 12) dX6_aimsOf_228 (by decide) ?_
                  refine wp_drop 8 ?_
                  exact g
                · exact absurd c_182 (by decide)
              · exact absurd c_144 (by decide)
          · exact absurd c_107 (by decide)
        · exact absurd c_95 (by decide)
      · exact absurd c_71 (by decide)
    · exact absurd c_55 (by decide)
  have s4 : ∀ (P : Nat → Bool) (Q : Pst), WP ΩM (d + 3) kX6_aimsOf 12 [(0, .ref 0), (1, .int (nI k)), (2, .int (nI (asc s))), (3, .int (nI c)), (4, .int (bI nb)), (5, .int (nI 78)), (6, .int (nI (mset P))), (7, .int (nI 5))] [] I J Q → WP ΩM (d + 3) kX6_aimsOf 12 [(0, .ref 0), (1, .int (nI k)), (2, .int (nI (asc s))), (3, .int (nI c)), (4, .int (bI nb)), (5, .int (nI 78)), (6, .int (nI (mset P))), (7, .int (nI 4))] [] I J Q := by
    clear g9 s0 s1 s2 s3
    intro P Q g
    refine ma_4 ?_
    refine wp_iload (pc := 52) dX6_aimsOf_52 rfl ?_
    refine wp_iconst (pc := 54) (v := nI 4) dX6_aimsOf_54 (by decide +kernel) ?_
    first | (refine wp_icmp_neN (pc := 55) (tgt := 67) dX6_aimsOf_55 (by decide) (by first | with_reducible assumption | omega) (by first | with_reducible assumption | omega) (fun c_55 => ?_) (fun c_55 => ?_)) | (refine wp_icmp_ne (pc := 55) (tgt := 67) dX6_aimsOf_55 (by decide) (fun c_55 => ?_) (fun c_55 => ?_))
    · exact absurd rfl c_55
    · refine wp_iload (pc := 58) dX6_aimsOf_58 rfl ?_
      refine wp_iconst (pc := 60) (v := nI 0) dX6_aimsOf_60 (by decide +kernel) ?_
      refine wp_ior (pc := 61) dX6_aimsOf_61 ?_
      rw [show ∀ x : Int32, x ||| nI 0 = x from fun x => by rw [show nI 0 = (0 : Int32) from rfl, Int32.or_zero]]
      refine wp_istore (pc := 62) dX6_aimsOf_62 (by decide) ?_
      refine wp_goto (pc := 64) (tgt := 225) dX6_aimsOf_64 (by decide) ?_
      first | (refine wp_iincN (pc := 225) (m := 1) dX6_aimsOf_225 rfl rfl (by decide) ?_) | (refine wp_iinc (pc := 225) dX6_aimsOf_225 rfl rfl (by decide) ?_)
      refine wp_goto (pc := 228) (tgt := 12) dX6_aimsOf_228 (by decide) ?_
      refine wp_drop 8 ?_
      exact g
  have s5 : ∀ (P : Nat → Bool) (Q : Pst), WP ΩM (d + 3) kX6_aimsOf 12 [(0, .ref 0), (1, .int (nI k)), (2, .int (nI (asc s))), (3, .int (nI c)), (4, .int (bI nb)), (5, .int (nI 78)), (6, .int (nI (mset P))), (7, .int (nI 6))] [] I J Q → WP ΩM (d + 3) kX6_aimsOf 12 [(0, .ref 0), (1, .int (nI k)), (2, .int (nI (asc s))), (3, .int (nI c)), (4, .int (bI nb)), (5, .int (nI 78)), (6, .int (nI (mset P))), (7, .int (nI 5))] [] I J Q := by
    clear g9 s0 s1 s2 s3 s4
    intro P Q g
    refine ma_5 ?_
    refine wp_iload (pc := 52) dX6_aimsOf_52 rfl ?_
    refine wp_iconst (pc := 54) (v := nI 4) dX6_aimsOf_54 (by decide +kernel) ?_
    first | (refine wp_icmp_neN (pc := 55) (tgt := 67) dX6_aimsOf_55 (by decide) (by first | with_reducible assumption | omega) (by first | with_reducible assumption | omega) (fun c_55 => ?_) (fun c_55 => ?_)) | (refine wp_icmp_ne (pc := 55) (tgt := 67) dX6_aimsOf_55 (by decide) (fun c_55 => ?_) (fun c_55 => ?_))
    · refine wp_iload (pc := 67) dX6_aimsOf_67 rfl ?_
      refine wp_bipush (pc := 69) (v := nI 75) dX6_aimsOf_69 (by decide +kernel) ?_
      first | (refine wp_icmp_neN (pc := 71) (tgt := 91) dX6_aimsOf_71 (by decide) (by first | with_reducible assumption | omega) (by first | with_reducible assumption | omega) (fun c_71 => ?_) (fun c_71 => ?_)) | (refine wp_icmp_ne (pc := 71) (tgt := 91) dX6_aimsOf_71 (by decide) (fun c_71 => ?_) (fun c_71 => ?_))
      · refine wp_iload (pc := 91) dX6_aimsOf_91 rfl ?_
        refine wp_bipush (pc := 93) (v := nI 82) dX6_aimsOf_93 (by decide +kernel) ?_
        first | (refine wp_icmp_neN (pc := 95) (tgt := 103) dX6_aimsOf_95 (by decide) (by first | with_reducible assumption | omega) (by first | with_reducible assumption | omega) (fun c_95 => ?_) (fun c_95 => ?_)) | (refine wp_icmp_ne (pc := 95) (tgt := 103) dX6_aimsOf_95 (by decide) (fun c_95 => ?_) (fun c_95 => ?_))
        · refine wp_iload (pc := 103) dX6_aimsOf_103 rfl ?_
          refine wp_bipush (pc := 105) (v := nI 66) dX6_aimsOf_105 (by decide +kernel) ?_
          first | (refine wp_icmp_neN (pc := 107) (tgt := 135) dX6_aimsOf_107 (by decide) (by first | with_reducible assumption | omega) (by first | with_reducible assumption | omega) (fun c_107 => ?_) (fun c_107 => ?_)) | (refine wp_icmp_ne (pc := 107) (tgt := 135) dX6_aimsOf_107 (by decide) (fun c_107 => ?_) (fun c_107 => ?_))
          · refine wp_iload (pc := 135) dX6_aimsOf_135 rfl ?_
            refine wp_bipush (pc := 137) (v := nI 78) dX6_aimsOf_137 (by decide +kernel) ?_
            first | (refine wp_icmp_neN (pc := 139) (tgt := 178) dX6_aimsOf_139 (by decide) (by first | with_reducible assumption | omega) (by first | with_reducible assumption | omega) (fun c_139 => ?_) (fun c_139 => ?_)) | (refine wp_icmp_ne (pc := 139) (tgt := 178) dX6_aimsOf_139 (by decide) (fun c_139 => ?_) (fun c_139 => ?_))
            · exact absurd rfl c_139
            · refine wp_iload (pc := 142) dX6_aimsOf_142 rfl ?_
              refine wp_if_neN (pc := 144) (tgt := 178) dX6_aimsOf_144 (by decide) (by first | with_reducible assumption | omega) (fun c_144 => ?_) (fun c_144 => ?_)
              · refine wp_iload (pc := 178) dX6_aimsOf_178 rfl ?_
                refine wp_bipush (pc := 180) (v := nI 80) dX6_aimsOf_180 (by decide +kernel) ?_
                first | (refine wp_icmp_neN (pc := 182) (tgt := 225) dX6_aimsOf_182 (by decide) (by first | with_reducible assumption | omega) (by first | with_reducible assumption | omega) (fun c_182 => ?_) (fun c_182 => ?_)) | (refine wp_icmp_ne (pc := 182) (tgt := 225) dX6_aimsOf_182 (by decide) (fun c_182 => ?_) (fun c_182 => ?_))
                · first | (refine wp_iincN (pc := 225) (m := 1) dX6_aimsOf_225 rfl rfl (by decide) ?_) | (refine wp_iinc (pc := 225) dX6_aimsOf_225 rfl rfl (by decide) ?_)
                  refine wp_goto (pc := 228) (tgt := 12) dX6_aimsOf_228 (by decide) ?_
                  refine wp_drop 8 ?_
                  exact g
                · exact absurd c_182 (by decide)
              · exact absurd c_144 (by decide)
          · exact absurd c_107 (by decide)
        · exact absurd c_95 (by decide)
      · exact absurd c_71 (by decide)
    · exact absurd c_55 (by decide)
  have s6 : ∀ (P : Nat → Bool) (Q : Pst), WP ΩM (d + 3) kX6_aimsOf 12 [(0, .ref 0), (1, .int (nI k)), (2, .int (nI (asc s))), (3, .int (nI c)), (4, .int (bI nb)), (5, .int (nI 78)), (6, .int (nI (mset (fun t => P t || ((cat w h (cxx w c + (-2)) (cyy w c + (1)) == some t) || (cat w h (cxx w c + (-1)) (cyy w c + (2)) == some t)))))), (7, .int (nI 7))] [] I J Q → WP ΩM (d + 3) kX6_aimsOf 12 [(0, .ref 0), (1, .int (nI k)), (2, .int (nI (asc s))), (3, .int (nI c)), (4, .int (bI nb)), (5, .int (nI 78)), (6, .int (nI (mset P))), (7, .int (nI 6))] [] I J Q := by
    clear g9 s0 s1 s2 s3 s4 s5
    intro P Q g
    refine ma_6 ?_
    refine wp_iload (pc := 52) dX6_aimsOf_52 rfl ?_
    refine wp_iconst (pc := 54) (v := nI 4) dX6_aimsOf_54 (by decide +kernel) ?_
    first | (refine wp_icmp_neN (pc := 55) (tgt := 67) dX6_aimsOf_55 (by decide) (by first | with_reducible assumption | omega) (by first | with_reducible assumption | omega) (fun c_55 => ?_) (fun c_55 => ?_)) | (refine wp_icmp_ne (pc := 55) (tgt := 67) dX6_aimsOf_55 (by decide) (fun c_55 => ?_) (fun c_55 => ?_))
    · refine wp_iload (pc := 67) dX6_aimsOf_67 rfl ?_
      refine wp_bipush (pc := 69) (v := nI 75) dX6_aimsOf_69 (by decide +kernel) ?_
      first | (refine wp_icmp_neN (pc := 71) (tgt := 91) dX6_aimsOf_71 (by decide) (by first | with_reducible assumption | omega) (by first | with_reducible assumption | omega) (fun c_71 => ?_) (fun c_71 => ?_)) | (refine wp_icmp_ne (pc := 71) (tgt := 91) dX6_aimsOf_71 (by decide) (fun c_71 => ?_) (fun c_71 => ?_))
      · refine wp_iload (pc := 91) dX6_aimsOf_91 rfl ?_
        refine wp_bipush (pc := 93) (v := nI 82) dX6_aimsOf_93 (by decide +kernel) ?_
        first | (refine wp_icmp_neN (pc := 95) (tgt := 103) dX6_aimsOf_95 (by decide) (by first | with_reducible assumption | omega) (by first | with_reducible assumption | omega) (fun c_95 => ?_) (fun c_95 => ?_)) | (refine wp_icmp_ne (pc := 95) (tgt := 103) dX6_aimsOf_95 (by decide) (fun c_95 => ?_) (fun c_95 => ?_))
        · refine wp_iload (pc := 103) dX6_aimsOf_103 rfl ?_
          refine wp_bipush (pc := 105) (v := nI 66) dX6_aimsOf_105 (by decide +kernel) ?_
          first | (refine wp_icmp_neN (pc := 107) (tgt := 135) dX6_aimsOf_107 (by decide) (by first | with_reducible assumption | omega) (by first | with_reducible assumption | omega) (fun c_107 => ?_) (fun c_107 => ?_)) | (refine wp_icmp_ne (pc := 107) (tgt := 135) dX6_aimsOf_107 (by decide) (fun c_107 => ?_) (fun c_107 => ?_))
          · refine wp_iload (pc := 135) dX6_aimsOf_135 rfl ?_
            refine wp_bipush (pc := 137) (v := nI 78) dX6_aimsOf_137 (by decide +kernel) ?_
            first | (refine wp_icmp_neN (pc := 139) (tgt := 178) dX6_aimsOf_139 (by decide) (by first | with_reducible assumption | omega) (by first | with_reducible assumption | omega) (fun c_139 => ?_) (fun c_139 => ?_)) | (refine wp_icmp_ne (pc := 139) (tgt := 178) dX6_aimsOf_139 (by decide) (fun c_139 => ?_) (fun c_139 => ?_))
            · exact absurd rfl c_139
            · refine wp_iload (pc := 142) dX6_aimsOf_142 rfl ?_
              refine wp_if_neN (pc := 144) (tgt := 178) dX6_aimsOf_144 (by decide) (by first | with_reducible assumption | omega) (fun c_144 => ?_) (fun c_144 => ?_)
              · exact absurd rfl c_144
              · refine wp_iload (pc := 147) dX6_aimsOf_147 rfl ?_
                refine wp_aload_n (pc := 149) (i := 0) dX6_aimsOf_149 rfl rfl (by first | with_reducible assumption | rfl) ?_
                refine wp_iload_n (pc := 150) (i := 3) dX6_aimsOf_150 rfl rfl ?_
                refine wp_iconst (pc := 151) (v := nI 2) dX6_aimsOf_151 (by decide +kernel) ?_
                refine wp_iload (pc := 152) dX6_aimsOf_152 rfl ?_
                refine wp_imul (pc := 154) dX6_aimsOf_154 ?_
                rw [show nI 2 * zI (-1) = zI (-2) by decide +kernel]
                refine wp_iload (pc := 155) dX6_aimsOf_155 rfl ?_
                refine wp_cVP3 (pc := 157) (ci := 6) dX6_aimsOf_157 lm_X6_108 m_X6_step (by first | with_reducible assumption | rfl) (by first | with_reducible assumption | rfl) (by decide) rfl (Nat.le_of_ble_eq_true rfl) (sp_X6_step (d := d) hW hc (by omega) (by omega)) ?_
                refine wp_aload_n (pc := 160) (i := 0) dX6_aimsOf_160 rfl rfl (by first | with_reducible assumption | rfl) ?_
                refine wp_iload_n (pc := 161) (i := 3) dX6_aimsOf_161 rfl rfl ?_
                refine wp_iload (pc := 162) dX6_aimsOf_162 rfl ?_
                refine wp_iconst (pc := 164) (v := nI 2) dX6_aimsOf_164 (by decide +kernel) ?_
                refine wp_iload (pc := 165) dX6_aimsOf_165 rfl ?_
                refine wp_imul (pc := 167) dX6_aimsOf_167 ?_
                rw [show nI 2 * zI (1) = zI (2) by decide +kernel]
                refine wp_cVP3 (pc := 168) (ci := 6) dX6_aimsOf_168 lm_X6_108 m_X6_step (by first | with_reducible assumption | rfl) (by first | with_reducible assumption | rfl) (by decide) rfl (Nat.le_of_ble_eq_true rfl) (sp_X6_step (d := d) hW hc (by omega) (by omega)) ?_
                first | (refine wp_iorN (pc := 171) dX6_aimsOf_171 ?_) | (refine wp_ior (pc := 171) dX6_aimsOf_171 ?_)
                rw [st_or2 n16]
                first | (refine wp_iorN (pc := 172) dX6_aimsOf_172 ?_) | (refine wp_ior (pc := 172) dX6_aimsOf_172 ?_)
                rw [mset_or]
                refine wp_istore (pc := 173) dX6_aimsOf_173 (by decide) ?_
                refine wp_goto (pc := 175) (tgt := 225) dX6_aimsOf_175 (by decide) ?_
                first | (refine wp_iincN (pc := 225) (m := 1) dX6_aimsOf_225 rfl rfl (by decide) ?_) | (refine wp_iinc (pc := 225) dX6_aimsOf_225 rfl rfl (by decide) ?_)
                refine wp_goto (pc := 228) (tgt := 12) dX6_aimsOf_228 (by decide) ?_
                refine wp_drop 8 ?_
                exact g
          · exact absurd c_107 (by decide)
        · exact absurd c_95 (by decide)
      · exact absurd c_71 (by decide)
    · exact absurd c_55 (by decide)
  have s7 : ∀ (P : Nat → Bool) (Q : Pst), WP ΩM (d + 3) kX6_aimsOf 12 [(0, .ref 0), (1, .int (nI k)), (2, .int (nI (asc s))), (3, .int (nI c)), (4, .int (bI nb)), (5, .int (nI 78)), (6, .int (nI (mset P))), (7, .int (nI 8))] [] I J Q → WP ΩM (d + 3) kX6_aimsOf 12 [(0, .ref 0), (1, .int (nI k)), (2, .int (nI (asc s))), (3, .int (nI c)), (4, .int (bI nb)), (5, .int (nI 78)), (6, .int (nI (mset P))), (7, .int (nI 7))] [] I J Q := by
    clear g9 s0 s1 s2 s3 s4 s5 s6
    intro P Q g
    refine ma_7 ?_
    refine wp_iload (pc := 52) dX6_aimsOf_52 rfl ?_
    refine wp_iconst (pc := 54) (v := nI 4) dX6_aimsOf_54 (by decide +kernel) ?_
    first | (refine wp_icmp_neN (pc := 55) (tgt := 67) dX6_aimsOf_55 (by decide) (by first | with_reducible assumption | omega) (by first | with_reducible assumption | omega) (fun c_55 => ?_) (fun c_55 => ?_)) | (refine wp_icmp_ne (pc := 55) (tgt := 67) dX6_aimsOf_55 (by decide) (fun c_55 => ?_) (fun c_55 => ?_))
    · refine wp_iload (pc := 67) dX6_aimsOf_67 rfl ?_
      refine wp_bipush (pc := 69) (v := nI 75) dX6_aimsOf_69 (by decide +kernel) ?_
      first | (refine wp_icmp_neN (pc := 71) (tgt := 91) dX6_aimsOf_71 (by decide) (by first | with_reducible assumption | omega) (by first | with_reducible assumption | omega) (fun c_71 => ?_) (fun c_71 => ?_)) | (refine wp_icmp_ne (pc := 71) (tgt := 91) dX6_aimsOf_71 (by decide) (fun c_71 => ?_) (fun c_71 => ?_))
      · refine wp_iload (pc := 91) dX6_aimsOf_91 rfl ?_
        refine wp_bipush (pc := 93) (v := nI 82) dX6_aimsOf_93 (by decide +kernel) ?_
        first | (refine wp_icmp_neN (pc := 95) (tgt := 103) dX6_aimsOf_95 (by decide) (by first | with_reducible assumption | omega) (by first | with_reducible assumption | omega) (fun c_95 => ?_) (fun c_95 => ?_)) | (refine wp_icmp_ne (pc := 95) (tgt := 103) dX6_aimsOf_95 (by decide) (fun c_95 => ?_) (fun c_95 => ?_))
        · refine wp_iload (pc := 103) dX6_aimsOf_103 rfl ?_
          refine wp_bipush (pc := 105) (v := nI 66) dX6_aimsOf_105 (by decide +kernel) ?_
          first | (refine wp_icmp_neN (pc := 107) (tgt := 135) dX6_aimsOf_107 (by decide) (by first | with_reducible assumption | omega) (by first | with_reducible assumption | omega) (fun c_107 => ?_) (fun c_107 => ?_)) | (refine wp_icmp_ne (pc := 107) (tgt := 135) dX6_aimsOf_107 (by decide) (fun c_107 => ?_) (fun c_107 => ?_))
          · refine wp_iload (pc := 135) dX6_aimsOf_135 rfl ?_
            refine wp_bipush (pc := 137) (v := nI 78) dX6_aimsOf_137 (by decide +kernel) ?_
            first | (refine wp_icmp_neN (pc := 139) (tgt := 178) dX6_aimsOf_139 (by decide) (by first | with_reducible assumption | omega) (by first | with_reducible assumption | omega) (fun c_139 => ?_) (fun c_139 => ?_)) | (refine wp_icmp_ne (pc := 139) (tgt := 178) dX6_aimsOf_139 (by decide) (fun c_139 => ?_) (fun c_139 => ?_))
            · exact absurd rfl c_139
            · refine wp_iload (pc := 142) dX6_aimsOf_142 rfl ?_
              refine wp_if_neN (pc := 144) (tgt := 178) dX6_aimsOf_144 (by decide) (by first | with_reducible assumption | omega) (fun c_144 => ?_) (fun c_144 => ?_)
              · refine wp_iload (pc := 178) dX6_aimsOf_178 rfl ?_
                refine wp_bipush (pc := 180) (v := nI 80) dX6_aimsOf_180 (by decide +kernel) ?_
                first | (refine wp_icmp_neN (pc := 182) (tgt := 225) dX6_aimsOf_182 (by decide) (by first | with_reducible assumption | omega) (by first | with_reducible assumption | omega) (fun c_182 => ?_) (fun c_182 => ?_)) | (refine wp_icmp_ne (pc := 182) (tgt := 225) dX6_aimsOf_182 (by decide) (fun c_182 => ?_) (fun c_182 => ?_))
                · first | (refine wp_iincN (pc := 225) (m := 1) dX6_aimsOf_225 rfl rfl (by decide) ?_) | (refine wp_iinc (pc := 225) dX6_aimsOf_225 rfl rfl (by decide) ?_)
                  refine wp_goto (pc := 228) (tgt := 12) dX6_aimsOf_228 (by decide) ?_
                  refine wp_drop 8 ?_
                  exact g
                · exact absurd c_182 (by decide)
              · exact absurd c_144 (by decide)
          · exact absurd c_107 (by decide)
        · exact absurd c_95 (by decide)
      · exact absurd c_71 (by decide)
    · exact absurd c_55 (by decide)
  have s8 : ∀ (P : Nat → Bool) (Q : Pst), WP ΩM (d + 3) kX6_aimsOf 12 [(0, .ref 0), (1, .int (nI k)), (2, .int (nI (asc s))), (3, .int (nI c)), (4, .int (bI nb)), (5, .int (nI 78)), (6, .int (nI (mset (fun t => P t || ((cat w h (cxx w c + (2)) (cyy w c + (1)) == some t) || (cat w h (cxx w c + (1)) (cyy w c + (2)) == some t)))))), (7, .int (nI 9))] [] I J Q → WP ΩM (d + 3) kX6_aimsOf 12 [(0, .ref 0), (1, .int (nI k)), (2, .int (nI (asc s))), (3, .int (nI c)), (4, .int (bI nb)), (5, .int (nI 78)), (6, .int (nI (mset P))), (7, .int (nI 8))] [] I J Q := by
    clear g9 s0 s1 s2 s3 s4 s5 s6 s7
    intro P Q g
    refine ma_8 ?_
    refine wp_iload (pc := 52) dX6_aimsOf_52 rfl ?_
    refine wp_iconst (pc := 54) (v := nI 4) dX6_aimsOf_54 (by decide +kernel) ?_
    first | (refine wp_icmp_neN (pc := 55) (tgt := 67) dX6_aimsOf_55 (by decide) (by first | with_reducible assumption | omega) (by first | with_reducible assumption | omega) (fun c_55 => ?_) (fun c_55 => ?_)) | (refine wp_icmp_ne (pc := 55) (tgt := 67) dX6_aimsOf_55 (by decide) (fun c_55 => ?_) (fun c_55 => ?_))
    · refine wp_iload (pc := 67) dX6_aimsOf_67 rfl ?_
      refine wp_bipush (pc := 69) (v := nI 75) dX6_aimsOf_69 (by decide +kernel) ?_
      first | (refine wp_icmp_neN (pc := 71) (tgt := 91) dX6_aimsOf_71 (by decide) (by first | with_reducible assumption | omega) (by first | with_reducible assumption | omega) (fun c_71 => ?_) (fun c_71 => ?_)) | (refine wp_icmp_ne (pc := 71) (tgt := 91) dX6_aimsOf_71 (by decide) (fun c_71 => ?_) (fun c_71 => ?_))
      · refine wp_iload (pc := 91) dX6_aimsOf_91 rfl ?_
        refine wp_bipush (pc := 93) (v := nI 82) dX6_aimsOf_93 (by decide +kernel) ?_
        first | (refine wp_icmp_neN (pc := 95) (tgt := 103) dX6_aimsOf_95 (by decide) (by first | with_reducible assumption | omega) (by first | with_reducible assumption | omega) (fun c_95 => ?_) (fun c_95 => ?_)) | (refine wp_icmp_ne (pc := 95) (tgt := 103) dX6_aimsOf_95 (by decide) (fun c_95 => ?_) (fun c_95 => ?_))
        · refine wp_iload (pc := 103) dX6_aimsOf_103 rfl ?_
          refine wp_bipush (pc := 105) (v := nI 66) dX6_aimsOf_105 (by decide +kernel) ?_
          first | (refine wp_icmp_neN (pc := 107) (tgt := 135) dX6_aimsOf_107 (by decide) (by first | with_reducible assumption | omega) (by first | with_reducible assumption | omega) (fun c_107 => ?_) (fun c_107 => ?_)) | (refine wp_icmp_ne (pc := 107) (tgt := 135) dX6_aimsOf_107 (by decide) (fun c_107 => ?_) (fun c_107 => ?_))
          · refine wp_iload (pc := 135) dX6_aimsOf_135 rfl ?_
            refine wp_bipush (pc := 137) (v := nI 78) dX6_aimsOf_137 (by decide +kernel) ?_
            first | (refine wp_icmp_neN (pc := 139) (tgt := 178) dX6_aimsOf_139 (by decide) (by first | with_reducible assumption | omega) (by first | with_reducible assumption | omega) (fun c_139 => ?_) (fun c_139 => ?_)) | (refine wp_icmp_ne (pc := 139) (tgt := 178) dX6_aimsOf_139 (by decide) (fun c_139 => ?_) (fun c_139 => ?_))
            · exact absurd rfl c_139
            · refine wp_iload (pc := 142) dX6_aimsOf_142 rfl ?_
              refine wp_if_neN (pc := 144) (tgt := 178) dX6_aimsOf_144 (by decide) (by first | with_reducible assumption | omega) (fun c_144 => ?_) (fun c_144 => ?_)
              · exact absurd rfl c_144
              · refine wp_iload (pc := 147) dX6_aimsOf_147 rfl ?_
                refine wp_aload_n (pc := 149) (i := 0) dX6_aimsOf_149 rfl rfl (by first | with_reducible assumption | rfl) ?_
                refine wp_iload_n (pc := 150) (i := 3) dX6_aimsOf_150 rfl rfl ?_
                refine wp_iconst (pc := 151) (v := nI 2) dX6_aimsOf_151 (by decide +kernel) ?_
                refine wp_iload (pc := 152) dX6_aimsOf_152 rfl ?_
                refine wp_imul (pc := 154) dX6_aimsOf_154 ?_
                rw [show nI 2 * zI (1) = zI (2) by decide +kernel]
                refine wp_iload (pc := 155) dX6_aimsOf_155 rfl ?_
                refine wp_cVP3 (pc := 157) (ci := 6) dX6_aimsOf_157 lm_X6_108 m_X6_step (by first | with_reducible assumption | rfl) (by first | with_reducible assumption | rfl) (by decide) rfl (Nat.le_of_ble_eq_true rfl) (sp_X6_step (d := d) hW hc (by omega) (by omega)) ?_
                refine wp_aload_n (pc := 160) (i := 0) dX6_aimsOf_160 rfl rfl (by first | with_reducible assumption | rfl) ?_
                refine wp_iload_n (pc := 161) (i := 3) dX6_aimsOf_161 rfl rfl ?_
                refine wp_iload (pc := 162) dX6_aimsOf_162 rfl ?_
                refine wp_iconst (pc := 164) (v := nI 2) dX6_aimsOf_164 (by decide +kernel) ?_
                refine wp_iload (pc := 165) dX6_aimsOf_165 rfl ?_
                refine wp_imul (pc := 167) dX6_aimsOf_167 ?_
                rw [show nI 2 * zI (1) = zI (2) by decide +kernel]
                refine wp_cVP3 (pc := 168) (ci := 6) dX6_aimsOf_168 lm_X6_108 m_X6_step (by first | with_reducible assumption | rfl) (by first | with_reducible assumption | rfl) (by decide) rfl (Nat.le_of_ble_eq_true rfl) (sp_X6_step (d := d) hW hc (by omega) (by omega)) ?_
                first | (refine wp_iorN (pc := 171) dX6_aimsOf_171 ?_) | (refine wp_ior (pc := 171) dX6_aimsOf_171 ?_)
                rw [st_or2 n16]
                first | (refine wp_iorN (pc := 172) dX6_aimsOf_172 ?_) | (refine wp_ior (pc := 172) dX6_aimsOf_172 ?_)
                rw [mset_or]
                refine wp_istore (pc := 173) dX6_aimsOf_173 (by decide) ?_
                refine wp_goto (pc := 175) (tgt := 225) dX6_aimsOf_175 (by decide) ?_
                first | (refine wp_iincN (pc := 225) (m := 1) dX6_aimsOf_225 rfl rfl (by decide) ?_) | (refine wp_iinc (pc := 225) dX6_aimsOf_225 rfl rfl (by decide) ?_)
                refine wp_goto (pc := 228) (tgt := 12) dX6_aimsOf_228 (by decide) ?_
                refine wp_drop 8 ?_
                exact g
          · exact absurd c_107 (by decide)
        · exact absurd c_95 (by decide)
      · exact absurd c_71 (by decide)
    · exact absurd c_55 (by decide)
  have g0 := s0 (fun _ => false) _ (s1 _ _ (s2 _ _ (s3 _ _ (s4 _ _ (s5 _ _ (s6 _ _ (s7 _ _ (s8 _ _ (g9 _)))))))))
  rw [mset_none] at g0
  refine call_of_wp (by decide) (Nat.le_of_ble_eq_true rfl) ?_
  refine wp_iload_n (pc := 0) (i := 2) dX6_aimsOf_0 rfl rfl ?_
  refine wp_cSP1 (pc := 1) dX6_aimsOf_1 lm_X6_105 m_X6_kindOf (Nat.le_of_ble_eq_true rfl) hkf ?_
  refine wp_istore (pc := 4) dX6_aimsOf_4 (by decide) ?_
  refine wp_iconst (pc := 6) (v := nI 0) dX6_aimsOf_6 (by decide +kernel) ?_
  refine wp_istore (pc := 7) dX6_aimsOf_7 (by decide) ?_
  refine wp_iconst (pc := 9) (v := nI 0) dX6_aimsOf_9 (by decide +kernel) ?_
  refine wp_istore (pc := 10) dX6_aimsOf_10 (by decide) ?_
  exact g0
theorem am_P {w h k c s : Nat} {b : Bd} {nb : Bool} (hW : WH w h I) (hL : LV (w * h) k b I) (hs : ∀ c, c < 16 → b.1 c < 12) (hk : k < 4) (hc : c < w * h) (hs12 : s < 12) (hkd : kdA s = 80) (hsd : sdI s = nI 0) : CALL ΩM (d + 3) kX6_aimsOf [.ref 0, .int (nI k), .int (nI (asc s)), .int (nI c), .int (bI nb)] I J (PQ (.int (nI (mset (fun t => ((false || (cat w h (cxx w c + (-1)) (cyy w c + (-1)) == some t)) || (cat w h (cxx w c + (1)) (cyy w c + (-1)) == some t)))))) I J) := by
  have n16 := (WH_n hW).2
  have ha := asc_lt s
  have hkf := sp_X6_kindOf (Ω := ΩM) (d := d + 1) (I := I) (J := J) hs12
  rw [hkd] at hkf
  have hsf := sp_X6_sideOf (Ω := ΩM) (d := d + 2) (I := I) (J := J) (b := asc s) (by omega)
  rw [sdB_asc s hs12, hsd] at hsf
  have g9 : ∀ P : Nat → Bool, WP ΩM (d + 3) kX6_aimsOf 12 [(0, .ref 0), (1, .int (nI k)), (2, .int (nI (asc s))), (3, .int (nI c)), (4, .int (bI nb)), (5, .int (nI 80)), (6, .int (nI (mset P))), (7, .int (nI 9))] [] I J (PQ (.int (nI (mset P))) I J) := by
    intro P
    refine wp_iload (pc := 12) dX6_aimsOf_12 rfl ?_
    refine wp_bipush (pc := 14) (v := nI 9) dX6_aimsOf_14 (by decide +kernel) ?_
    first | (refine wp_icmp_geN (pc := 16) (tgt := 231) dX6_aimsOf_16 (by decide) (by first | with_reducible assumption | omega) (by first | with_reducible assumption | omega) (fun c_16 => ?_) (fun c_16 => ?_)) | (refine wp_icmp_ge (pc := 16) (tgt := 231) dX6_aimsOf_16 (by decide) (fun c_16 => ?_) (fun c_16 => ?_))
    · refine wp_iload (pc := 231) dX6_aimsOf_231 rfl ?_
      refine wp_ireturn (pc := 233) dX6_aimsOf_233 rfl ?_
      exact pq_i rfl
    · exact absurd (Nat.le_refl 9) c_16
  have s0 : ∀ (P : Nat → Bool) (Q : Pst), WP ΩM (d + 3) kX6_aimsOf 12 [(0, .ref 0), (1, .int (nI k)), (2, .int (nI (asc s))), (3, .int (nI c)), (4, .int (bI nb)), (5, .int (nI 80)), (6, .int (nI (mset (fun t => P t || (cat w h (cxx w c + (-1)) (cyy w c + (-1)) == some t))))), (7, .int (nI 1))] [] I J Q → WP ΩM (d + 3) kX6_aimsOf 12 [(0, .ref 0), (1, .int (nI k)), (2, .int (nI (asc s))), (3, .int (nI c)), (4, .int (bI nb)), (5, .int (nI 80)), (6, .int (nI (mset P))), (7, .int (nI 0))] [] I J Q := by
    intro P Q g
    refine ma_0 ?_
    refine wp_iload (pc := 52) dX6_aimsOf_52 rfl ?_
    refine wp_iconst (pc := 54) (v := nI 4) dX6_aimsOf_54 (by decide +kernel) ?_
    first | (refine wp_icmp_neN (pc := 55) (tgt := 67) dX6_aimsOf_55 (by decide) (by first | with_reducible assumption | omega) (by first | with_reducible assumption | omega) (fun c_55 => ?_) (fun c_55 => ?_)) | (refine wp_icmp_ne (pc := 55) (tgt := 67) dX6_aimsOf_55 (by decide) (fun c_55 => ?_) (fun c_55 => ?_))
    · refine wp_iload (pc := 67) dX6_aimsOf_67 rfl ?_
      refine wp_bipush (pc := 69) (v := nI 75) dX6_aimsOf_69 (by decide +kernel) ?_
      first | (refine wp_icmp_neN (pc := 71) (tgt := 91) dX6_aimsOf_71 (by decide) (by first | with_reducible assumption | omega) (by first | with_reducible assumption | omega) (fun c_71 => ?_) (fun c_71 => ?_)) | (refine wp_icmp_ne (pc := 71) (tgt := 91) dX6_aimsOf_71 (by decide) (fun c_71 => ?_) (fun c_71 => ?_))
      · refine wp_iload (pc := 91) dX6_aimsOf_91 rfl ?_
        refine wp_bipush (pc := 93) (v := nI 82) dX6_aimsOf_93 (by decide +kernel) ?_
        first | (refine wp_icmp_neN (pc := 95) (tgt := 103) dX6_aimsOf_95 (by decide) (by first | with_reducible assumption | omega) (by first | with_reducible assumption | omega) (fun c_95 => ?_) (fun c_95 => ?_)) | (refine wp_icmp_ne (pc := 95) (tgt := 103) dX6_aimsOf_95 (by decide) (fun c_95 => ?_) (fun c_95 => ?_))
        · refine wp_iload (pc := 103) dX6_aimsOf_103 rfl ?_
          refine wp_bipush (pc := 105) (v := nI 66) dX6_aimsOf_105 (by decide +kernel) ?_
          first | (refine wp_icmp_neN (pc := 107) (tgt := 135) dX6_aimsOf_107 (by decide) (by first | with_reducible assumption | omega) (by first | with_reducible assumption | omega) (fun c_107 => ?_) (fun c_107 => ?_)) | (refine wp_icmp_ne (pc := 107) (tgt := 135) dX6_aimsOf_107 (by decide) (fun c_107 => ?_) (fun c_107 => ?_))
          · refine wp_iload (pc := 135) dX6_aimsOf_135 rfl ?_
            refine wp_bipush (pc := 137) (v := nI 78) dX6_aimsOf_137 (by decide +kernel) ?_
            first | (refine wp_icmp_neN (pc := 139) (tgt := 178) dX6_aimsOf_139 (by decide) (by first | with_reducible assumption | omega) (by first | with_reducible assumption | omega) (fun c_139 => ?_) (fun c_139 => ?_)) | (refine wp_icmp_ne (pc := 139) (tgt := 178) dX6_aimsOf_139 (by decide) (fun c_139 => ?_) (fun c_139 => ?_))
            · refine wp_iload (pc := 178) dX6_aimsOf_178 rfl ?_
              refine wp_bipush (pc := 180) (v := nI 80) dX6_aimsOf_180 (by decide +kernel) ?_
              first | (refine wp_icmp_neN (pc := 182) (tgt := 225) dX6_aimsOf_182 (by decide) (by first | with_reducible assumption | omega) (by first | with_reducible assumption | omega) (fun c_182 => ?_) (fun c_182 => ?_)) | (refine wp_icmp_ne (pc := 182) (tgt := 225) dX6_aimsOf_182 (by decide) (fun c_182 => ?_) (fun c_182 => ?_))
              · exact absurd rfl c_182
              · refine wp_iload (pc := 185) dX6_aimsOf_185 rfl ?_
                refine wp_if_neN (pc := 187) (tgt := 225) dX6_aimsOf_187 (by decide) (by first | with_reducible assumption | omega) (fun c_187 => ?_) (fun c_187 => ?_)
                · exact absurd rfl c_187
                · refine wp_iload (pc := 190) dX6_aimsOf_190 rfl ?_
                  refine wp_iload (pc := 192) dX6_aimsOf_192 rfl ?_
                  refine wp_iload_n (pc := 194) (i := 2) dX6_aimsOf_194 rfl rfl ?_
                  refine wp_cSP1 (pc := 195) dX6_aimsOf_195 lm_X6_65 m_X6_sideOf (Nat.le_of_ble_eq_true rfl) hsf ?_
                  refine wp_if_neN (pc := 198) (tgt := 205) dX6_aimsOf_198 (by decide) (by first | with_reducible assumption | omega) (fun c_198 => ?_) (fun c_198 => ?_)
                  · exact absurd rfl c_198
                  · refine wp_iconst (pc := 201) (v := (-1)) dX6_aimsOf_201 (by decide +kernel) ?_
                    refine wp_goto (pc := 202) (tgt := 206) dX6_aimsOf_202 (by decide) ?_
                    refine wp_icmp_ne (pc := 206) (tgt := 221) dX6_aimsOf_206 (by decide) (fun c_206 => ?_) (fun c_206 => ?_)
                    · exact absurd (by decide +kernel) c_206
                    · refine wp_aload_n (pc := 209) (i := 0) dX6_aimsOf_209 rfl rfl (by first | with_reducible assumption | rfl) ?_
                      refine wp_iload_n (pc := 210) (i := 3) dX6_aimsOf_210 rfl rfl ?_
                      refine wp_iload (pc := 211) dX6_aimsOf_211 rfl ?_
                      refine wp_iload (pc := 213) dX6_aimsOf_213 rfl ?_
                      refine wp_cVP3 (pc := 215) (ci := 6) dX6_aimsOf_215 lm_X6_108 m_X6_step (by first | with_reducible assumption | rfl) (by first | with_reducible assumption | rfl) (by decide) rfl (Nat.le_of_ble_eq_true rfl) (sp_X6_step (d := d) hW hc (by omega) (by omega)) ?_
                      refine wp_goto (pc := 218) (tgt := 222) dX6_aimsOf_218 (by decide) ?_
                      first | (refine wp_iorN (pc := 222) dX6_aimsOf_222 ?_) | (refine wp_ior (pc := 222) dX6_aimsOf_222 ?_)
                      rw [st_or n16]
                      refine wp_istore (pc := 223) dX6_aimsOf_223 (by decide) ?_
                      first | (refine wp_iincN (pc := 225) (m := 1) dX6_aimsOf_225 rfl rfl (by decide) ?_) | (refine wp_iinc (pc := 225) dX6_aimsOf_225 rfl rfl (by decide) ?_)
                      refine wp_goto (pc := 228) (tgt := 12) dX6_aimsOf_228 (by decide) ?_
                      refine wp_drop 8 ?_
                      exact g
            · exact absurd c_139 (by decide)
          · exact absurd c_107 (by decide)
        · exact absurd c_95 (by decide)
      · exact absurd c_71 (by decide)
    · exact absurd c_55 (by decide)
  have s1 : ∀ (P : Nat → Bool) (Q : Pst), WP ΩM (d + 3) kX6_aimsOf 12 [(0, .ref 0), (1, .int (nI k)), (2, .int (nI (asc s))), (3, .int (nI c)), (4, .int (bI nb)), (5, .int (nI 80)), (6, .int (nI (mset P))), (7, .int (nI 2))] [] I J Q → WP ΩM (d + 3) kX6_aimsOf 12 [(0, .ref 0), (1, .int (nI k)), (2, .int (nI (asc s))), (3, .int (nI c)), (4, .int (bI nb)), (5, .int (nI 80)), (6, .int (nI (mset P))), (7, .int (nI 1))] [] I J Q := by
    clear g9 s0
    intro P Q g
    refine ma_1 ?_
    refine wp_iload (pc := 52) dX6_aimsOf_52 rfl ?_
    refine wp_iconst (pc := 54) (v := nI 4) dX6_aimsOf_54 (by decide +kernel) ?_
    first | (refine wp_icmp_neN (pc := 55) (tgt := 67) dX6_aimsOf_55 (by decide) (by first | with_reducible assumption | omega) (by first | with_reducible assumption | omega) (fun c_55 => ?_) (fun c_55 => ?_)) | (refine wp_icmp_ne (pc := 55) (tgt := 67) dX6_aimsOf_55 (by decide) (fun c_55 => ?_) (fun c_55 => ?_))
    · refine wp_iload (pc := 67) dX6_aimsOf_67 rfl ?_
      refine wp_bipush (pc := 69) (v := nI 75) dX6_aimsOf_69 (by decide +kernel) ?_
      first | (refine wp_icmp_neN (pc := 71) (tgt := 91) dX6_aimsOf_71 (by decide) (by first | with_reducible assumption | omega) (by first | with_reducible assumption | omega) (fun c_71 => ?_) (fun c_71 => ?_)) | (refine wp_icmp_ne (pc := 71) (tgt := 91) dX6_aimsOf_71 (by decide) (fun c_71 => ?_) (fun c_71 => ?_))
      · refine wp_iload (pc := 91) dX6_aimsOf_91 rfl ?_
        refine wp_bipush (pc := 93) (v := nI 82) dX6_aimsOf_93 (by decide +kernel) ?_
        first | (refine wp_icmp_neN (pc := 95) (tgt := 103) dX6_aimsOf_95 (by decide) (by first | with_reducible assumption | omega) (by first | with_reducible assumption | omega) (fun c_95 => ?_) (fun c_95 => ?_)) | (refine wp_icmp_ne (pc := 95) (tgt := 103) dX6_aimsOf_95 (by decide) (fun c_95 => ?_) (fun c_95 => ?_))
        · refine wp_iload (pc := 103) dX6_aimsOf_103 rfl ?_
          refine wp_bipush (pc := 105) (v := nI 66) dX6_aimsOf_105 (by decide +kernel) ?_
          first | (refine wp_icmp_neN (pc := 107) (tgt := 135) dX6_aimsOf_107 (by decide) (by first | with_reducible assumption | omega) (by first | with_reducible assumption | omega) (fun c_107 => ?_) (fun c_107 => ?_)) | (refine wp_icmp_ne (pc := 107) (tgt := 135) dX6_aimsOf_107 (by decide) (fun c_107 => ?_) (fun c_107 => ?_))
          · refine wp_iload (pc := 135) dX6_aimsOf_135 rfl ?_
            refine wp_bipush (pc := 137) (v := nI 78) dX6_aimsOf_137 (by decide +kernel) ?_
            first | (refine wp_icmp_neN (pc := 139) (tgt := 178) dX6_aimsOf_139 (by decide) (by first | with_reducible assumption | omega) (by first | with_reducible assumption | omega) (fun c_139 => ?_) (fun c_139 => ?_)) | (refine wp_icmp_ne (pc := 139) (tgt := 178) dX6_aimsOf_139 (by decide) (fun c_139 => ?_) (fun c_139 => ?_))
            · refine wp_iload (pc := 178) dX6_aimsOf_178 rfl ?_
              refine wp_bipush (pc := 180) (v := nI 80) dX6_aimsOf_180 (by decide +kernel) ?_
              first | (refine wp_icmp_neN (pc := 182) (tgt := 225) dX6_aimsOf_182 (by decide) (by first | with_reducible assumption | omega) (by first | with_reducible assumption | omega) (fun c_182 => ?_) (fun c_182 => ?_)) | (refine wp_icmp_ne (pc := 182) (tgt := 225) dX6_aimsOf_182 (by decide) (fun c_182 => ?_) (fun c_182 => ?_))
              · exact absurd rfl c_182
              · refine wp_iload (pc := 185) dX6_aimsOf_185 rfl ?_
                refine wp_if_neN (pc := 187) (tgt := 225) dX6_aimsOf_187 (by decide) (by first | with_reducible assumption | omega) (fun c_187 => ?_) (fun c_187 => ?_)
                · first | (refine wp_iincN (pc := 225) (m := 1) dX6_aimsOf_225 rfl rfl (by decide) ?_) | (refine wp_iinc (pc := 225) dX6_aimsOf_225 rfl rfl (by decide) ?_)
                  refine wp_goto (pc := 228) (tgt := 12) dX6_aimsOf_228 (by decide) ?_
                  refine wp_drop 8 ?_
                  exact g
                · exact absurd c_187 (by decide)
            · exact absurd c_139 (by decide)
          · exact absurd c_107 (by decide)
        · exact absurd c_95 (by decide)
      · exact absurd c_71 (by decide)
    · exact absurd c_55 (by decide)
  have s2 : ∀ (P : Nat → Bool) (Q : Pst), WP ΩM (d + 3) kX6_aimsOf 12 [(0, .ref 0), (1, .int (nI k)), (2, .int (nI (asc s))), (3, .int (nI c)), (4, .int (bI nb)), (5, .int (nI 80)), (6, .int (nI (mset (fun t => P t || (cat w h (cxx w c + (1)) (cyy w c + (-1)) == some t))))), (7, .int (nI 3))] [] I J Q → WP ΩM (d + 3) kX6_aimsOf 12 [(0, .ref 0), (1, .int (nI k)), (2, .int (nI (asc s))), (3, .int (nI c)), (4, .int (bI nb)), (5, .int (nI 80)), (6, .int (nI (mset P))), (7, .int (nI 2))] [] I J Q := by
    clear g9 s0 s1
    intro P Q g
    refine ma_2 ?_
    refine wp_iload (pc := 52) dX6_aimsOf_52 rfl ?_
    refine wp_iconst (pc := 54) (v := nI 4) dX6_aimsOf_54 (by decide +kernel) ?_
    first | (refine wp_icmp_neN (pc := 55) (tgt := 67) dX6_aimsOf_55 (by decide) (by first | with_reducible assumption | omega) (by first | with_reducible assumption | omega) (fun c_55 => ?_) (fun c_55 => ?_)) | (refine wp_icmp_ne (pc := 55) (tgt := 67) dX6_aimsOf_55 (by decide) (fun c_55 => ?_) (fun c_55 => ?_))
    · refine wp_iload (pc := 67) dX6_aimsOf_67 rfl ?_
      refine wp_bipush (pc := 69) (v := nI 75) dX6_aimsOf_69 (by decide +kernel) ?_
      first | (refine wp_icmp_neN (pc := 71) (tgt := 91) dX6_aimsOf_71 (by decide) (by first | with_reducible assumption | omega) (by first | with_reducible assumption | omega) (fun c_71 => ?_) (fun c_71 => ?_)) | (refine wp_icmp_ne (pc := 71) (tgt := 91) dX6_aimsOf_71 (by decide) (fun c_71 => ?_) (fun c_71 => ?_))
      · refine wp_iload (pc := 91) dX6_aimsOf_91 rfl ?_
        refine wp_bipush (pc := 93) (v := nI 82) dX6_aimsOf_93 (by decide +kernel) ?_
        first | (refine wp_icmp_neN (pc := 95) (tgt := 103) dX6_aimsOf_95 (by decide) (by first | with_reducible assumption | omega) (by first | with_reducible assumption | omega) (fun c_95 => ?_) (fun c_95 => ?_)) | (refine wp_icmp_ne (pc := 95) (tgt := 103) dX6_aimsOf_95 (by decide) (fun c_95 => ?_) (fun c_95 => ?_))
        · refine wp_iload (pc := 103) dX6_aimsOf_103 rfl ?_
          refine wp_bipush (pc := 105) (v := nI 66) dX6_aimsOf_105 (by decide +kernel) ?_
          first | (refine wp_icmp_neN (pc := 107) (tgt := 135) dX6_aimsOf_107 (by decide) (by first | with_reducible assumption | omega) (by first | with_reducible assumption | omega) (fun c_107 => ?_) (fun c_107 => ?_)) | (refine wp_icmp_ne (pc := 107) (tgt := 135) dX6_aimsOf_107 (by decide) (fun c_107 => ?_) (fun c_107 => ?_))
          · refine wp_iload (pc := 135) dX6_aimsOf_135 rfl ?_
            refine wp_bipush (pc := 137) (v := nI 78) dX6_aimsOf_137 (by decide +kernel) ?_
            first | (refine wp_icmp_neN (pc := 139) (tgt := 178) dX6_aimsOf_139 (by decide) (by first | with_reducible assumption | omega) (by first | with_reducible assumption | omega) (fun c_139 => ?_) (fun c_139 => ?_)) | (refine wp_icmp_ne (pc := 139) (tgt := 178) dX6_aimsOf_139 (by decide) (fun c_139 => ?_) (fun c_139 => ?_))
            · refine wp_iload (pc := 178) dX6_aimsOf_178 rfl ?_
              refine wp_bipush (pc := 180) (v := nI 80) dX6_aimsOf_180 (by decide +kernel) ?_
              first | (refine wp_icmp_neN (pc := 182) (tgt := 225) dX6_aimsOf_182 (by decide) (by first | with_reducible assumption | omega) (by first | with_reducible assumption | omega) (fun c_182 => ?_) (fun c_182 => ?_)) | (refine wp_icmp_ne (pc := 182) (tgt := 225) dX6_aimsOf_182 (by decide) (fun c_182 => ?_) (fun c_182 => ?_))
              · exact absurd rfl c_182
              · refine wp_iload (pc := 185) dX6_aimsOf_185 rfl ?_
                refine wp_if_neN (pc := 187) (tgt := 225) dX6_aimsOf_187 (by decide) (by first | with_reducible assumption | omega) (fun c_187 => ?_) (fun c_187 => ?_)
                · exact absurd rfl c_187
                · refine wp_iload (pc := 190) dX6_aimsOf_190 rfl ?_
                  refine wp_iload (pc := 192) dX6_aimsOf_192 rfl ?_
                  refine wp_iload_n (pc := 194) (i := 2) dX6_aimsOf_194 rfl rfl ?_
                  refine wp_cSP1 (pc := 195) dX6_aimsOf_195 lm_X6_65 m_X6_sideOf (Nat.le_of_ble_eq_true rfl) hsf ?_
                  refine wp_if_neN (pc := 198) (tgt := 205) dX6_aimsOf_198 (by decide) (by first | with_reducible assumption | omega) (fun c_198 => ?_) (fun c_198 => ?_)
                  · exact absurd rfl c_198
                  · refine wp_iconst (pc := 201) (v := (-1)) dX6_aimsOf_201 (by decide +kernel) ?_
                    refine wp_goto (pc := 202) (tgt := 206) dX6_aimsOf_202 (by decide) ?_
                    refine wp_icmp_ne (pc := 206) (tgt := 221) dX6_aimsOf_206 (by decide) (fun c_206 => ?_) (fun c_206 => ?_)
                    · exact absurd (by decide +kernel) c_206
                    · refine wp_aload_n (pc := 209) (i := 0) dX6_aimsOf_209 rfl rfl (by first | with_reducible assumption | rfl) ?_
                      refine wp_iload_n (pc := 210) (i := 3) dX6_aimsOf_210 rfl rfl ?_
                      refine wp_iload (pc := 211) dX6_aimsOf_211 rfl ?_
                      refine wp_iload (pc := 213) dX6_aimsOf_213 rfl ?_
                      refine wp_cVP3 (pc := 215) (ci := 6) dX6_aimsOf_215 lm_X6_108 m_X6_step (by first | with_reducible assumption | rfl) (by first | with_reducible assumption | rfl) (by decide) rfl (Nat.le_of_ble_eq_true rfl) (sp_X6_step (d := d) hW hc (by omega) (by omega)) ?_
                      refine wp_goto (pc := 218) (tgt := 222) dX6_aimsOf_218 (by decide) ?_
                      first | (refine wp_iorN (pc := 222) dX6_aimsOf_222 ?_) | (refine wp_ior (pc := 222) dX6_aimsOf_222 ?_)
                      rw [st_or n16]
                      refine wp_istore (pc := 223) dX6_aimsOf_223 (by decide) ?_
                      first | (refine wp_iincN (pc := 225) (m := 1) dX6_aimsOf_225 rfl rfl (by decide) ?_) | (refine wp_iinc (pc := 225) dX6_aimsOf_225 rfl rfl (by decide) ?_)
                      refine wp_goto (pc := 228) (tgt := 12) dX6_aimsOf_228 (by decide) ?_
                      refine wp_drop 8 ?_
                      exact g
            · exact absurd c_139 (by decide)
          · exact absurd c_107 (by decide)
        · exact absurd c_95 (by decide)
      · exact absurd c_71 (by decide)
    · exact absurd c_55 (by decide)
  have s3 : ∀ (P : Nat → Bool) (Q : Pst), WP ΩM (d + 3) kX6_aimsOf 12 [(0, .ref 0), (1, .int (nI k)), (2, .int (nI (asc s))), (3, .int (nI c)), (4, .int (bI nb)), (5, .int (nI 80)), (6, .int (nI (mset P))), (7, .int (nI 4))] [] I J Q → WP ΩM (d + 3) kX6_aimsOf 12 [(0, .ref 0), (1, .int (nI k)), (2, .int (nI (asc s))), (3, .int (nI c)), (4, .int (bI nb)), (5, .int (nI 80)), (6, .int (nI (mset P))), (7, .int (nI 3))] [] I J Q := by
    clear g9 s0 s1 s2
    intro P Q g
    refine ma_3 ?_
    refine wp_iload (pc := 52) dX6_aimsOf_52 rfl ?_
    refine wp_iconst (pc := 54) (v := nI 4) dX6_aimsOf_54 (by decide +kernel) ?_
    first | (refine wp_icmp_neN (pc := 55) (tgt := 67) dX6_aimsOf_55 (by decide) (by first | with_reducible assumption | omega) (by first | with_reducible assumption | omega) (fun c_55 => ?_) (fun c_55 => ?_)) | (refine wp_icmp_ne (pc := 55) (tgt := 67) dX6_aimsOf_55 (by decide) (fun c_55 => ?_) (fun c_55 => ?_))
    · refine wp_iload (pc := 67) dX6_aimsOf_67 rfl ?_
      refine wp_bipush (pc := 69) (v := nI 75) dX6_aimsOf_69 (by decide +kernel) ?_
      first | (refine wp_icmp_neN (pc := 71) (tgt := 91) dX6_aimsOf_71 (by decide) (by first | with_reducible assumption | omega) (by first | with_reducible assumption | omega) (fun c_71 => ?_) (fun c_71 => ?_)) | (refine wp_icmp_ne (pc := 71) (tgt := 91) dX6_aimsOf_71 (by decide) (fun c_71 => ?_) (fun c_71 => ?_))
      · refine wp_iload (pc := 91) dX6_aimsOf_91 rfl ?_
        refine wp_bipush (pc := 93) (v := nI 82) dX6_aimsOf_93 (by decide +kernel) ?_
        first | (refine wp_icmp_neN (pc := 95) (tgt := 103) dX6_aimsOf_95 (by decide) (by first | with_reducible assumption | omega) (by first | with_reducible assumption | omega) (fun c_95 => ?_) (fun c_95 => ?_)) | (refine wp_icmp_ne (pc := 95) (tgt := 103) dX6_aimsOf_95 (by decide) (fun c_95 => ?_) (fun c_95 => ?_))
        · refine wp_iload (pc := 103) dX6_aimsOf_103 rfl ?_
          refine wp_bipush (pc := 105) (v := nI 66) dX6_aimsOf_105 (by decide +kernel) ?_
          first | (refine wp_icmp_neN (pc := 107) (tgt := 135) dX6_aimsOf_107 (by decide) (by first | with_reducible assumption | omega) (by first | with_reducible assumption | omega) (fun c_107 => ?_) (fun c_107 => ?_)) | (refine wp_icmp_ne (pc := 107) (tgt := 135) dX6_aimsOf_107 (by decide) (fun c_107 => ?_) (fun c_107 => ?_))
          · refine wp_iload (pc := 135) dX6_aimsOf_135 rfl ?_
            refine wp_bipush (pc := 137) (v := nI 78) dX6_aimsOf_137 (by decide +kernel) ?_
            first | (refine wp_icmp_neN (pc := 139) (tgt := 178) dX6_aimsOf_139 (by decide) (by first | with_reducible assumption | omega) (by first | with_reducible assumption | omega) (fun c_139 => ?_) (fun c_139 => ?_)) | (refine wp_icmp_ne (pc := 139) (tgt := 178) dX6_aimsOf_139 (by decide) (fun c_139 => ?_) (fun c_139 => ?_))
            · refine wp_iload (pc := 178) dX6_aimsOf_178 rfl ?_
              refine wp_bipush (pc := 180) (v := nI 80) dX6_aimsOf_180 (by decide +kernel) ?_
              first | (refine wp_icmp_neN (pc := 182) (tgt := 225) dX6_aimsOf_182 (by decide) (by first | with_reducible assumption | omega) (by first | with_reducible assumption | omega) (fun c_182 => ?_) (fun c_182 => ?_)) | (refine wp_icmp_ne (pc := 182) (tgt := 225) dX6_aimsOf_182 (by decide) (fun c_182 => ?_) (fun c_182 => ?_))
              · exact absurd rfl c_182
              · refine wp_iload (pc := 185) dX6_aimsOf_185 rfl ?_
                refine wp_if_neN (pc := 187) (tgt := 225) dX6_aimsOf_187 (by decide) (by first | with_reducible assumption | omega) (fun c_187 => ?_) (fun c_187 => ?_)
                · first | (refine wp_iincN (pc := 225) (m := 1) dX6_aimsOf_225 rfl rfl (by decide) ?_) | (refine wp_iinc (pc := 225) dX6_aimsOf_225 rfl rfl (by decide) ?_)
                  refine wp_goto (pc := 228) (tgt := 12) dX6_aimsOf_228 (by decide) ?_
                  refine wp_drop 8 ?_
                  exact g
                · exact absurd c_187 (by decide)
            · exact absurd c_139 (by decide)
          · exact absurd c_107 (by decide)
        · exact absurd c_95 (by decide)
      · exact absurd c_71 (by decide)
    · exact absurd c_55 (by decide)
  have s4 : ∀ (P : Nat → Bool) (Q : Pst), WP ΩM (d + 3) kX6_aimsOf 12 [(0, .ref 0), (1, .int (nI k)), (2, .int (nI (asc s))), (3, .int (nI c)), (4, .int (bI nb)), (5, .int (nI 80)), (6, .int (nI (mset P))), (7, .int (nI 5))] [] I J Q → WP ΩM (d + 3) kX6_aimsOf 12 [(0, .ref 0), (1, .int (nI k)), (2, .int (nI (asc s))), (3, .int (nI c)), (4, .int (bI nb)), (5, .int (nI 80)), (6, .int (nI (mset P))), (7, .int (nI 4))] [] I J Q := by
    clear g9 s0 s1 s2 s3
    intro P Q g
    refine ma_4 ?_
    refine wp_iload (pc := 52) dX6_aimsOf_52 rfl ?_
    refine wp_iconst (pc := 54) (v := nI 4) dX6_aimsOf_54 (by decide +kernel) ?_
    first | (refine wp_icmp_neN (pc := 55) (tgt := 67) dX6_aimsOf_55 (by decide) (by first | with_reducible assumption | omega) (by first | with_reducible assumption | omega) (fun c_55 => ?_) (fun c_55 => ?_)) | (refine wp_icmp_ne (pc := 55) (tgt := 67) dX6_aimsOf_55 (by decide) (fun c_55 => ?_) (fun c_55 => ?_))
    · exact absurd rfl c_55
    · refine wp_iload (pc := 58) dX6_aimsOf_58 rfl ?_
      refine wp_iconst (pc := 60) (v := nI 0) dX6_aimsOf_60 (by decide +kernel) ?_
      refine wp_ior (pc := 61) dX6_aimsOf_61 ?_
      rw [show ∀ x : Int32, x ||| nI 0 = x from fun x => by rw [show nI 0 = (0 : Int32) from rfl, Int32.or_zero]]
      refine wp_istore (pc := 62) dX6_aimsOf_62 (by decide) ?_
      refine wp_goto (pc := 64) (tgt := 225) dX6_aimsOf_64 (by decide) ?_
      first | (refine wp_iincN (pc := 225) (m := 1) dX6_aimsOf_225 rfl rfl (by decide) ?_) | (refine wp_iinc (pc := 225) dX6_aimsOf_225 rfl rfl (by decide) ?_)
      refine wp_goto (pc := 228) (tgt := 12) dX6_aimsOf_228 (by decide) ?_
      refine wp_drop 8 ?_
      exact g
  have s5 : ∀ (P : Nat → Bool) (Q : Pst), WP ΩM (d + 3) kX6_aimsOf 12 [(0, .ref 0), (1, .int (nI k)), (2, .int (nI (asc s))), (3, .int (nI c)), (4, .int (bI nb)), (5, .int (nI 80)), (6, .int (nI (mset P))), (7, .int (nI 6))] [] I J Q → WP ΩM (d + 3) kX6_aimsOf 12 [(0, .ref 0), (1, .int (nI k)), (2, .int (nI (asc s))), (3, .int (nI c)), (4, .int (bI nb)), (5, .int (nI 80)), (6, .int (nI (mset P))), (7, .int (nI 5))] [] I J Q := by
    clear g9 s0 s1 s2 s3 s4
    intro P Q g
    refine ma_5 ?_
    refine wp_iload (pc := 52) dX6_aimsOf_52 rfl ?_
    refine wp_iconst (pc := 54) (v := nI 4) dX6_aimsOf_54 (by decide +kernel) ?_
    first | (refine wp_icmp_neN (pc := 55) (tgt := 67) dX6_aimsOf_55 (by decide) (by first | with_reducible assumption | omega) (by first | with_reducible assumption | omega) (fun c_55 => ?_) (fun c_55 => ?_)) | (refine wp_icmp_ne (pc := 55) (tgt := 67) dX6_aimsOf_55 (by decide) (fun c_55 => ?_) (fun c_55 => ?_))
    · refine wp_iload (pc := 67) dX6_aimsOf_67 rfl ?_
      refine wp_bipush (pc := 69) (v := nI 75) dX6_aimsOf_69 (by decide +kernel) ?_
      first | (refine wp_icmp_neN (pc := 71) (tgt := 91) dX6_aimsOf_71 (by decide) (by first | with_reducible assumption | omega) (by first | with_reducible assumption | omega) (fun c_71 => ?_) (fun c_71 => ?_)) | (refine wp_icmp_ne (pc := 71) (tgt := 91) dX6_aimsOf_71 (by decide) (fun c_71 => ?_) (fun c_71 => ?_))
      · refine wp_iload (pc := 91) dX6_aimsOf_91 rfl ?_
        refine wp_bipush (pc := 93) (v := nI 82) dX6_aimsOf_93 (by decide +kernel) ?_
        first | (refine wp_icmp_neN (pc := 95) (tgt := 103) dX6_aimsOf_95 (by decide) (by first | with_reducible assumption | omega) (by first | with_reducible assumption | omega) (fun c_95 => ?_) (fun c_95 => ?_)) | (refine wp_icmp_ne (pc := 95) (tgt := 103) dX6_aimsOf_95 (by decide) (fun c_95 => ?_) (fun c_95 => ?_))
        · refine wp_iload (pc := 103) dX6_aimsOf_103 rfl ?_
          refine wp_bipush (pc := 105) (v := nI 66) dX6_aimsOf_105 (by decide +kernel) ?_
          first | (refine wp_icmp_neN (pc := 107) (tgt := 135) dX6_aimsOf_107 (by decide) (by first | with_reducible assumption | omega) (by first | with_reducible assumption | omega) (fun c_107 => ?_) (fun c_107 => ?_)) | (refine wp_icmp_ne (pc := 107) (tgt := 135) dX6_aimsOf_107 (by decide) (fun c_107 => ?_) (fun c_107 => ?_))
          · refine wp_iload (pc := 135) dX6_aimsOf_135 rfl ?_
            refine wp_bipush (pc := 137) (v := nI 78) dX6_aimsOf_137 (by decide +kernel) ?_
            first | (refine wp_icmp_neN (pc := 139) (tgt := 178) dX6_aimsOf_139 (by decide) (by first | with_reducible assumption | omega) (by first | with_reducible assumption | omega) (fun c_139 => ?_) (fun c_139 => ?_)) | (refine wp_icmp_ne (pc := 139) (tgt := 178) dX6_aimsOf_139 (by decide) (fun c_139 => ?_) (fun c_139 => ?_))
            · refine wp_iload (pc := 178) dX6_aimsOf_178 rfl ?_
              refine wp_bipush (pc := 180) (v := nI 80) dX6_aimsOf_180 (by decide +kernel) ?_
              first | (refine wp_icmp_neN (pc := 182) (tgt := 225) dX6_aimsOf_182 (by decide) (by first | with_reducible assumption | omega) (by first | with_reducible assumption | omega) (fun c_182 => ?_) (fun c_182 => ?_)) | (refine wp_icmp_ne (pc := 182) (tgt := 225) dX6_aimsOf_182 (by decide) (fun c_182 => ?_) (fun c_182 => ?_))
              · exact absurd rfl c_182
              · refine wp_iload (pc := 185) dX6_aimsOf_185 rfl ?_
                refine wp_if_neN (pc := 187) (tgt := 225) dX6_aimsOf_187 (by decide) (by first | with_reducible assumption | omega) (fun c_187 => ?_) (fun c_187 => ?_)
                · first | (refine wp_iincN (pc := 225) (m := 1) dX6_aimsOf_225 rfl rfl (by decide) ?_) | (refine wp_iinc (pc := 225) dX6_aimsOf_225 rfl rfl (by decide) ?_)
                  refine wp_goto (pc := 228) (tgt := 12) dX6_aimsOf_228 (by decide) ?_
                  refine wp_drop 8 ?_
                  exact g
                · exact absurd c_187 (by decide)
            · exact absurd c_139 (by decide)
          · exact absurd c_107 (by decide)
        · exact absurd c_95 (by decide)
      · exact absurd c_71 (by decide)
    · exact absurd c_55 (by decide)
  have s6 : ∀ (P : Nat → Bool) (Q : Pst), WP ΩM (d + 3) kX6_aimsOf 12 [(0, .ref 0), (1, .int (nI k)), (2, .int (nI (asc s))), (3, .int (nI c)), (4, .int (bI nb)), (5, .int (nI 80)), (6, .int (nI (mset P))), (7, .int (nI 7))] [] I J Q → WP ΩM (d + 3) kX6_aimsOf 12 [(0, .ref 0), (1, .int (nI k)), (2, .int (nI (asc s))), (3, .int (nI c)), (4, .int (bI nb)), (5, .int (nI 80)), (6, .int (nI (mset P))), (7, .int (nI 6))] [] I J Q := by
    clear g9 s0 s1 s2 s3 s4 s5
    intro P Q g
    refine ma_6 ?_
    refine wp_iload (pc := 52) dX6_aimsOf_52 rfl ?_
    refine wp_iconst (pc := 54) (v := nI 4) dX6_aimsOf_54 (by decide +kernel) ?_
    first | (refine wp_icmp_neN (pc := 55) (tgt := 67) dX6_aimsOf_55 (by decide) (by first | with_reducible assumption | omega) (by first | with_reducible assumption | omega) (fun c_55 => ?_) (fun c_55 => ?_)) | (refine wp_icmp_ne (pc := 55) (tgt := 67) dX6_aimsOf_55 (by decide) (fun c_55 => ?_) (fun c_55 => ?_))
    · refine wp_iload (pc := 67) dX6_aimsOf_67 rfl ?_
      refine wp_bipush (pc := 69) (v := nI 75) dX6_aimsOf_69 (by decide +kernel) ?_
      first | (refine wp_icmp_neN (pc := 71) (tgt := 91) dX6_aimsOf_71 (by decide) (by first | with_reducible assumption | omega) (by first | with_reducible assumption | omega) (fun c_71 => ?_) (fun c_71 => ?_)) | (refine wp_icmp_ne (pc := 71) (tgt := 91) dX6_aimsOf_71 (by decide) (fun c_71 => ?_) (fun c_71 => ?_))
      · refine wp_iload (pc := 91) dX6_aimsOf_91 rfl ?_
        refine wp_bipush (pc := 93) (v := nI 82) dX6_aimsOf_93 (by decide +kernel) ?_
        first | (refine wp_icmp_neN (pc := 95) (tgt := 103) dX6_aimsOf_95 (by decide) (by first | with_reducible assumption | omega) (by first | with_reducible assumption | omega) (fun c_95 => ?_) (fun c_95 => ?_)) | (refine wp_icmp_ne (pc := 95) (tgt := 103) dX6_aimsOf_95 (by decide) (fun c_95 => ?_) (fun c_95 => ?_))
        · refine wp_iload (pc := 103) dX6_aimsOf_103 rfl ?_
          refine wp_bipush (pc := 105) (v := nI 66) dX6_aimsOf_105 (by decide +kernel) ?_
          first | (refine wp_icmp_neN (pc := 107) (tgt := 135) dX6_aimsOf_107 (by decide) (by first | with_reducible assumption | omega) (by first | with_reducible assumption | omega) (fun c_107 => ?_) (fun c_107 => ?_)) | (refine wp_icmp_ne (pc := 107) (tgt := 135) dX6_aimsOf_107 (by decide) (fun c_107 => ?_) (fun c_107 => ?_))
          · refine wp_iload (pc := 135) dX6_aimsOf_135 rfl ?_
            refine wp_bipush (pc := 137) (v := nI 78) dX6_aimsOf_137 (by decide +kernel) ?_
            first | (refine wp_icmp_neN (pc := 139) (tgt := 178) dX6_aimsOf_139 (by decide) (by first | with_reducible assumption | omega) (by first | with_reducible assumption | omega) (fun c_139 => ?_) (fun c_139 => ?_)) | (refine wp_icmp_ne (pc := 139) (tgt := 178) dX6_aimsOf_139 (by decide) (fun c_139 => ?_) (fun c_139 => ?_))
            · refine wp_iload (pc := 178) dX6_aimsOf_178 rfl ?_
              refine wp_bipush (pc := 180) (v := nI 80) dX6_aimsOf_180 (by decide +kernel) ?_
              first | (refine wp_icmp_neN (pc := 182) (tgt := 225) dX6_aimsOf_182 (by decide) (by first | with_reducible assumption | omega) (by first | with_reducible assumption | omega) (fun c_182 => ?_) (fun c_182 => ?_)) | (refine wp_icmp_ne (pc := 182) (tgt := 225) dX6_aimsOf_182 (by decide) (fun c_182 => ?_) (fun c_182 => ?_))
              · exact absurd rfl c_182
              · refine wp_iload (pc := 185) dX6_aimsOf_185 rfl ?_
                refine wp_if_neN (pc := 187) (tgt := 225) dX6_aimsOf_187 (by decide) (by first | with_reducible assumption | omega) (fun c_187 => ?_) (fun c_187 => ?_)
                · exact absurd rfl c_187
                · refine wp_iload (pc := 190) dX6_aimsOf_190 rfl ?_
                  refine wp_iload (pc := 192) dX6_aimsOf_192 rfl ?_
                  refine wp_iload_n (pc := 194) (i := 2) dX6_aimsOf_194 rfl rfl ?_
                  refine wp_cSP1 (pc := 195) dX6_aimsOf_195 lm_X6_65 m_X6_sideOf (Nat.le_of_ble_eq_true rfl) hsf ?_
                  refine wp_if_neN (pc := 198) (tgt := 205) dX6_aimsOf_198 (by decide) (by first | with_reducible assumption | omega) (fun c_198 => ?_) (fun c_198 => ?_)
                  · exact absurd rfl c_198
                  · refine wp_iconst (pc := 201) (v := (-1)) dX6_aimsOf_201 (by decide +kernel) ?_
                    refine wp_goto (pc := 202) (tgt := 206) dX6_aimsOf_202 (by decide) ?_
                    refine wp_icmp_ne (pc := 206) (tgt := 221) dX6_aimsOf_206 (by decide) (fun c_206 => ?_) (fun c_206 => ?_)
                    · refine wp_iconst (pc := 221) (v := nI 0) dX6_aimsOf_221 (by decide +kernel) ?_
                      refine wp_ior (pc := 222) dX6_aimsOf_222 ?_
                      rw [show ∀ x : Int32, x ||| nI 0 = x from fun x => by rw [show nI 0 = (0 : Int32) from rfl, Int32.or_zero]]
                      refine wp_istore (pc := 223) dX6_aimsOf_223 (by decide) ?_
                      first | (refine wp_iincN (pc := 225) (m := 1) dX6_aimsOf_225 rfl rfl (by decide) ?_) | (refine wp_iinc (pc := 225) dX6_aimsOf_225 rfl rfl (by decide) ?_)
                      refine wp_goto (pc := 228) (tgt := 12) dX6_aimsOf_228 (by decide) ?_
                      refine wp_drop 8 ?_
                      exact g
                    · exact absurd c_206 (by decide +kernel)
            · exact absurd c_139 (by decide)
          · exact absurd c_107 (by decide)
        · exact absurd c_95 (by decide)
      · exact absurd c_71 (by decide)
    · exact absurd c_55 (by decide)
  have s7 : ∀ (P : Nat → Bool) (Q : Pst), WP ΩM (d + 3) kX6_aimsOf 12 [(0, .ref 0), (1, .int (nI k)), (2, .int (nI (asc s))), (3, .int (nI c)), (4, .int (bI nb)), (5, .int (nI 80)), (6, .int (nI (mset P))), (7, .int (nI 8))] [] I J Q → WP ΩM (d + 3) kX6_aimsOf 12 [(0, .ref 0), (1, .int (nI k)), (2, .int (nI (asc s))), (3, .int (nI c)), (4, .int (bI nb)), (5, .int (nI 80)), (6, .int (nI (mset P))), (7, .int (nI 7))] [] I J Q := by
    clear g9 s0 s1 s2 s3 s4 s5 s6
    intro P Q g
    refine ma_7 ?_
    refine wp_iload (pc := 52) dX6_aimsOf_52 rfl ?_
    refine wp_iconst (pc := 54) (v := nI 4) dX6_aimsOf_54 (by decide +kernel) ?_
    first | (refine wp_icmp_neN (pc := 55) (tgt := 67) dX6_aimsOf_55 (by decide) (by first | with_reducible assumption | omega) (by first | with_reducible assumption | omega) (fun c_55 => ?_) (fun c_55 => ?_)) | (refine wp_icmp_ne (pc := 55) (tgt := 67) dX6_aimsOf_55 (by decide) (fun c_55 => ?_) (fun c_55 => ?_))
    · refine wp_iload (pc := 67) dX6_aimsOf_67 rfl ?_
      refine wp_bipush (pc := 69) (v := nI 75) dX6_aimsOf_69 (by decide +kernel) ?_
      first | (refine wp_icmp_neN (pc := 71) (tgt := 91) dX6_aimsOf_71 (by decide) (by first | with_reducible assumption | omega) (by first | with_reducible assumption | omega) (fun c_71 => ?_) (fun c_71 => ?_)) | (refine wp_icmp_ne (pc := 71) (tgt := 91) dX6_aimsOf_71 (by decide) (fun c_71 => ?_) (fun c_71 => ?_))
      · refine wp_iload (pc := 91) dX6_aimsOf_91 rfl ?_
        refine wp_bipush (pc := 93) (v := nI 82) dX6_aimsOf_93 (by decide +kernel) ?_
        first | (refine wp_icmp_neN (pc := 95) (tgt := 103) dX6_aimsOf_95 (by decide) (by first | with_reducible assumption | omega) (by first | with_reducible assumption | omega) (fun c_95 => ?_) (fun c_95 => ?_)) | (refine wp_icmp_ne (pc := 95) (tgt := 103) dX6_aimsOf_95 (by decide) (fun c_95 => ?_) (fun c_95 => ?_))
        · refine wp_iload (pc := 103) dX6_aimsOf_103 rfl ?_
          refine wp_bipush (pc := 105) (v := nI 66) dX6_aimsOf_105 (by decide +kernel) ?_
          first | (refine wp_icmp_neN (pc := 107) (tgt := 135) dX6_aimsOf_107 (by decide) (by first | with_reducible assumption | omega) (by first | with_reducible assumption | omega) (fun c_107 => ?_) (fun c_107 => ?_)) | (refine wp_icmp_ne (pc := 107) (tgt := 135) dX6_aimsOf_107 (by decide) (fun c_107 => ?_) (fun c_107 => ?_))
          · refine wp_iload (pc := 135) dX6_aimsOf_135 rfl ?_
            refine wp_bipush (pc := 137) (v := nI 78) dX6_aimsOf_137 (by decide +kernel) ?_
            first | (refine wp_icmp_neN (pc := 139) (tgt := 178) dX6_aimsOf_139 (by decide) (by first | with_reducible assumption | omega) (by first | with_reducible assumption | omega) (fun c_139 => ?_) (fun c_139 => ?_)) | (refine wp_icmp_ne (pc := 139) (tgt := 178) dX6_aimsOf_139 (by decide) (fun c_139 => ?_) (fun c_139 => ?_))
            · refine wp_iload (pc := 178) dX6_aimsOf_178 rfl ?_
              refine wp_bipush (pc := 180) (v := nI 80) dX6_aimsOf_180 (by decide +kernel) ?_
              first | (refine wp_icmp_neN (pc := 182) (tgt := 225) dX6_aimsOf_182 (by decide) (by first | with_reducible assumption | omega) (by first | with_reducible assumption | omega) (fun c_182 => ?_) (fun c_182 => ?_)) | (refine wp_icmp_ne (pc := 182) (tgt := 225) dX6_aimsOf_182 (by decide) (fun c_182 => ?_) (fun c_182 => ?_))
              · exact absurd rfl c_182
              · refine wp_iload (pc := 185) dX6_aimsOf_185 rfl ?_
                refine wp_if_neN (pc := 187) (tgt := 225) dX6_aimsOf_187 (by decide) (by first | with_reducible assumption | omega) (fun c_187 => ?_) (fun c_187 => ?_)
                · first | (refine wp_iincN (pc := 225) (m := 1) dX6_aimsOf_225 rfl rfl (by decide) ?_) | (refine wp_iinc (pc := 225) dX6_aimsOf_225 rfl rfl (by decide) ?_)
                  refine wp_goto (pc := 228) (tgt := 12) dX6_aimsOf_228 (by decide) ?_
                  refine wp_drop 8 ?_
                  exact g
                · exact absurd c_187 (by decide)
            · exact absurd c_139 (by decide)
          · exact absurd c_107 (by decide)
        · exact absurd c_95 (by decide)
      · exact absurd c_71 (by decide)
    · exact absurd c_55 (by decide)
  have s8 : ∀ (P : Nat → Bool) (Q : Pst), WP ΩM (d + 3) kX6_aimsOf 12 [(0, .ref 0), (1, .int (nI k)), (2, .int (nI (asc s))), (3, .int (nI c)), (4, .int (bI nb)), (5, .int (nI 80)), (6, .int (nI (mset P))), (7, .int (nI 9))] [] I J Q → WP ΩM (d + 3) kX6_aimsOf 12 [(0, .ref 0), (1, .int (nI k)), (2, .int (nI (asc s))), (3, .int (nI c)), (4, .int (bI nb)), (5, .int (nI 80)), (6, .int (nI (mset P))), (7, .int (nI 8))] [] I J Q := by
    clear g9 s0 s1 s2 s3 s4 s5 s6 s7
    intro P Q g
    refine ma_8 ?_
    refine wp_iload (pc := 52) dX6_aimsOf_52 rfl ?_
    refine wp_iconst (pc := 54) (v := nI 4) dX6_aimsOf_54 (by decide +kernel) ?_
    first | (refine wp_icmp_neN (pc := 55) (tgt := 67) dX6_aimsOf_55 (by decide) (by first | with_reducible assumption | omega) (by first | with_reducible assumption | omega) (fun c_55 => ?_) (fun c_55 => ?_)) | (refine wp_icmp_ne (pc := 55) (tgt := 67) dX6_aimsOf_55 (by decide) (fun c_55 => ?_) (fun c_55 => ?_))
    · refine wp_iload (pc := 67) dX6_aimsOf_67 rfl ?_
      refine wp_bipush (pc := 69) (v := nI 75) dX6_aimsOf_69 (by decide +kernel) ?_
      first | (refine wp_icmp_neN (pc := 71) (tgt := 91) dX6_aimsOf_71 (by decide) (by first | with_reducible assumption | omega) (by first | with_reducible assumption | omega) (fun c_71 => ?_) (fun c_71 => ?_)) | (refine wp_icmp_ne (pc := 71) (tgt := 91) dX6_aimsOf_71 (by decide) (fun c_71 => ?_) (fun c_71 => ?_))
      · refine wp_iload (pc := 91) dX6_aimsOf_91 rfl ?_
        refine wp_bipush (pc := 93) (v := nI 82) dX6_aimsOf_93 (by decide +kernel) ?_
        first | (refine wp_icmp_neN (pc := 95) (tgt := 103) dX6_aimsOf_95 (by decide) (by first | with_reducible assumption | omega) (by first | with_reducible assumption | omega) (fun c_95 => ?_) (fun c_95 => ?_)) | (refine wp_icmp_ne (pc := 95) (tgt := 103) dX6_aimsOf_95 (by decide) (fun c_95 => ?_) (fun c_95 => ?_))
        · refine wp_iload (pc := 103) dX6_aimsOf_103 rfl ?_
          refine wp_bipush (pc := 105) (v := nI 66) dX6_aimsOf_105 (by decide +kernel) ?_
          first | (refine wp_icmp_neN (pc := 107) (tgt := 135) dX6_aimsOf_107 (by decide) (by first | with_reducible assumption | omega) (by first | with_reducible assumption | omega) (fun c_107 => ?_) (fun c_107 => ?_)) | (refine wp_icmp_ne (pc := 107) (tgt := 135) dX6_aimsOf_107 (by decide) (fun c_107 => ?_) (fun c_107 => ?_))
          · refine wp_iload (pc := 135) dX6_aimsOf_135 rfl ?_
            refine wp_bipush (pc := 137) (v := nI 78) dX6_aimsOf_137 (by decide +kernel) ?_
            first | (refine wp_icmp_neN (pc := 139) (tgt := 178) dX6_aimsOf_139 (by decide) (by first | with_reducible assumption | omega) (by first | with_reducible assumption | omega) (fun c_139 => ?_) (fun c_139 => ?_)) | (refine wp_icmp_ne (pc := 139) (tgt := 178) dX6_aimsOf_139 (by decide) (fun c_139 => ?_) (fun c_139 => ?_))
            · refine wp_iload (pc := 178) dX6_aimsOf_178 rfl ?_
              refine wp_bipush (pc := 180) (v := nI 80) dX6_aimsOf_180 (by decide +kernel) ?_
              first | (refine wp_icmp_neN (pc := 182) (tgt := 225) dX6_aimsOf_182 (by decide) (by first | with_reducible assumption | omega) (by first | with_reducible assumption | omega) (fun c_182 => ?_) (fun c_182 => ?_)) | (refine wp_icmp_ne (pc := 182) (tgt := 225) dX6_aimsOf_182 (by decide) (fun c_182 => ?_) (fun c_182 => ?_))
              · exact absurd rfl c_182
              · refine wp_iload (pc := 185) dX6_aimsOf_185 rfl ?_
                refine wp_if_neN (pc := 187) (tgt := 225) dX6_aimsOf_187 (by decide) (by first | with_reducible assumption | omega) (fun c_187 => ?_) (fun c_187 => ?_)
                · exact absurd rfl c_187
                · refine wp_iload (pc := 190) dX6_aimsOf_190 rfl ?_
                  refine wp_iload (pc := 192) dX6_aimsOf_192 rfl ?_
                  refine wp_iload_n (pc := 194) (i := 2) dX6_aimsOf_194 rfl rfl ?_
                  refine wp_cSP1 (pc := 195) dX6_aimsOf_195 lm_X6_65 m_X6_sideOf (Nat.le_of_ble_eq_true rfl) hsf ?_
                  refine wp_if_neN (pc := 198) (tgt := 205) dX6_aimsOf_198 (by decide) (by first | with_reducible assumption | omega) (fun c_198 => ?_) (fun c_198 => ?_)
                  · exact absurd rfl c_198
                  · refine wp_iconst (pc := 201) (v := (-1)) dX6_aimsOf_201 (by decide +kernel) ?_
                    refine wp_goto (pc := 202) (tgt := 206) dX6_aimsOf_202 (by decide) ?_
                    refine wp_icmp_ne (pc := 206) (tgt := 221) dX6_aimsOf_206 (by decide) (fun c_206 => ?_) (fun c_206 => ?_)
                    · refine wp_iconst (pc := 221) (v := nI 0) dX6_aimsOf_221 (by decide +kernel) ?_
                      refine wp_ior (pc := 222) dX6_aimsOf_222 ?_
                      rw [show ∀ x : Int32, x ||| nI 0 = x from fun x => by rw [show nI 0 = (0 : Int32) from rfl, Int32.or_zero]]
                      refine wp_istore (pc := 223) dX6_aimsOf_223 (by decide) ?_
                      first | (refine wp_iincN (pc := 225) (m := 1) dX6_aimsOf_225 rfl rfl (by decide) ?_) | (refine wp_iinc (pc := 225) dX6_aimsOf_225 rfl rfl (by decide) ?_)
                      refine wp_goto (pc := 228) (tgt := 12) dX6_aimsOf_228 (by decide) ?_
                      refine wp_drop 8 ?_
                      exact g
                    · exact absurd c_206 (by decide +kernel)
            · exact absurd c_139 (by decide)
          · exact absurd c_107 (by decide)
        · exact absurd c_95 (by decide)
      · exact absurd c_71 (by decide)
    · exact absurd c_55 (by decide)
  have g0 := s0 (fun _ => false) _ (s1 _ _ (s2 _ _ (s3 _ _ (s4 _ _ (s5 _ _ (s6 _ _ (s7 _ _ (s8 _ _ (g9 _)))))))))
  rw [mset_none] at g0
  refine call_of_wp (by decide) (Nat.le_of_ble_eq_true rfl) ?_
  refine wp_iload_n (pc := 0) (i := 2) dX6_aimsOf_0 rfl rfl ?_
  refine wp_cSP1 (pc := 1) dX6_aimsOf_1 lm_X6_105 m_X6_kindOf (Nat.le_of_ble_eq_true rfl) hkf ?_
  refine wp_istore (pc := 4) dX6_aimsOf_4 (by decide) ?_
  refine wp_iconst (pc := 6) (v := nI 0) dX6_aimsOf_6 (by decide +kernel) ?_
  refine wp_istore (pc := 7) dX6_aimsOf_7 (by decide) ?_
  refine wp_iconst (pc := 9) (v := nI 0) dX6_aimsOf_9 (by decide +kernel) ?_
  refine wp_istore (pc := 10) dX6_aimsOf_10 (by decide) ?_
  exact g0
theorem am_Q {w h k c s : Nat} {b : Bd} {nb : Bool} (hW : WH w h I) (hL : LV (w * h) k b I) (hs : ∀ c, c < 16 → b.1 c < 12) (hk : k < 4) (hc : c < w * h) (hs12 : s < 12) (hkd : kdA s = 80) (hsd : sdI s = nI 1) : CALL ΩM (d + 3) kX6_aimsOf [.ref 0, .int (nI k), .int (nI (asc s)), .int (nI c), .int (bI nb)] I J (PQ (.int (nI (mset (fun t => ((false || (cat w h (cxx w c + (-1)) (cyy w c + (1)) == some t)) || (cat w h (cxx w c + (1)) (cyy w c + (1)) == some t)))))) I J) := by
  have n16 := (WH_n hW).2
  have ha := asc_lt s
  have hkf := sp_X6_kindOf (Ω := ΩM) (d := d + 1) (I := I) (J := J) hs12
  rw [hkd] at hkf
  have hsf := sp_X6_sideOf (Ω := ΩM) (d := d + 2) (I := I) (J := J) (b := asc s) (by omega)
  rw [sdB_asc s hs12, hsd] at hsf
  have g9 : ∀ P : Nat → Bool, WP ΩM (d + 3) kX6_aimsOf 12 [(0, .ref 0), (1, .int (nI k)), (2, .int (nI (asc s))), (3, .int (nI c)), (4, .int (bI nb)), (5, .int (nI 80)), (6, .int (nI (mset P))), (7, .int (nI 9))] [] I J (PQ (.int (nI (mset P))) I J) := by
    intro P
    refine wp_iload (pc := 12) dX6_aimsOf_12 rfl ?_
    refine wp_bipush (pc := 14) (v := nI 9) dX6_aimsOf_14 (by decide +kernel) ?_
    first | (refine wp_icmp_geN (pc := 16) (tgt := 231) dX6_aimsOf_16 (by decide) (by first | with_reducible assumption | omega) (by first | with_reducible assumption | omega) (fun c_16 => ?_) (fun c_16 => ?_)) | (refine wp_icmp_ge (pc := 16) (tgt := 231) dX6_aimsOf_16 (by decide) (fun c_16 => ?_) (fun c_16 => ?_))
    · refine wp_iload (pc := 231) dX6_aimsOf_231 rfl ?_
      refine wp_ireturn (pc := 233) dX6_aimsOf_233 rfl ?_
      exact pq_i rfl
    · exact absurd (Nat.le_refl 9) c_16
  have s0 : ∀ (P : Nat → Bool) (Q : Pst), WP ΩM (d + 3) kX6_aimsOf 12 [(0, .ref 0), (1, .int (nI k)), (2, .int (nI (asc s))), (3, .int (nI c)), (4, .int (bI nb)), (5, .int (nI 80)), (6, .int (nI (mset P))), (7, .int (nI 1))] [] I J Q → WP ΩM (d + 3) kX6_aimsOf 12 [(0, .ref 0), (1, .int (nI k)), (2, .int (nI (asc s))), (3, .int (nI c)), (4, .int (bI nb)), (5, .int (nI 80)), (6, .int (nI (mset P))), (7, .int (nI 0))] [] I J Q := by
    intro P Q g
    refine ma_0 ?_
    refine wp_iload (pc := 52) dX6_aimsOf_52 rfl ?_
    refine wp_iconst (pc := 54) (v := nI 4) dX6_aimsOf_54 (by decide +kernel) ?_
    first | (refine wp_icmp_neN (pc := 55) (tgt := 67) dX6_aimsOf_55 (by decide) (by first | with_reducible assumption | omega) (by first | with_reducible assumption | omega) (fun c_55 => ?_) (fun c_55 => ?_)) | (refine wp_icmp_ne (pc := 55) (tgt := 67) dX6_aimsOf_55 (by decide) (fun c_55 => ?_) (fun c_55 => ?_))
    · refine wp_iload (pc := 67) dX6_aimsOf_67 rfl ?_
      refine wp_bipush (pc := 69) (v := nI 75) dX6_aimsOf_69 (by decide +kernel) ?_
      first | (refine wp_icmp_neN (pc := 71) (tgt := 91) dX6_aimsOf_71 (by decide) (by first | with_reducible assumption | omega) (by first | with_reducible assumption | omega) (fun c_71 => ?_) (fun c_71 => ?_)) | (refine wp_icmp_ne (pc := 71) (tgt := 91) dX6_aimsOf_71 (by decide) (fun c_71 => ?_) (fun c_71 => ?_))
      · refine wp_iload (pc := 91) dX6_aimsOf_91 rfl ?_
        refine wp_bipush (pc := 93) (v := nI 82) dX6_aimsOf_93 (by decide +kernel) ?_
        first | (refine wp_icmp_neN (pc := 95) (tgt := 103) dX6_aimsOf_95 (by decide) (by first | with_reducible assumption | omega) (by first | with_reducible assumption | omega) (fun c_95 => ?_) (fun c_95 => ?_)) | (refine wp_icmp_ne (pc := 95) (tgt := 103) dX6_aimsOf_95 (by decide) (fun c_95 => ?_) (fun c_95 => ?_))
        · refine wp_iload (pc := 103) dX6_aimsOf_103 rfl ?_
          refine wp_bipush (pc := 105) (v := nI 66) dX6_aimsOf_105 (by decide +kernel) ?_
          first | (refine wp_icmp_neN (pc := 107) (tgt := 135) dX6_aimsOf_107 (by decide) (by first | with_reducible assumption | omega) (by first | with_reducible assumption | omega) (fun c_107 => ?_) (fun c_107 => ?_)) | (refine wp_icmp_ne (pc := 107) (tgt := 135) dX6_aimsOf_107 (by decide) (fun c_107 => ?_) (fun c_107 => ?_))
          · refine wp_iload (pc := 135) dX6_aimsOf_135 rfl ?_
            refine wp_bipush (pc := 137) (v := nI 78) dX6_aimsOf_137 (by decide +kernel) ?_
            first | (refine wp_icmp_neN (pc := 139) (tgt := 178) dX6_aimsOf_139 (by decide) (by first | with_reducible assumption | omega) (by first | with_reducible assumption | omega) (fun c_139 => ?_) (fun c_139 => ?_)) | (refine wp_icmp_ne (pc := 139) (tgt := 178) dX6_aimsOf_139 (by decide) (fun c_139 => ?_) (fun c_139 => ?_))
            · refine wp_iload (pc := 178) dX6_aimsOf_178 rfl ?_
              refine wp_bipush (pc := 180) (v := nI 80) dX6_aimsOf_180 (by decide +kernel) ?_
              first | (refine wp_icmp_neN (pc := 182) (tgt := 225) dX6_aimsOf_182 (by decide) (by first | with_reducible assumption | omega) (by first | with_reducible assumption | omega) (fun c_182 => ?_) (fun c_182 => ?_)) | (refine wp_icmp_ne (pc := 182) (tgt := 225) dX6_aimsOf_182 (by decide) (fun c_182 => ?_) (fun c_182 => ?_))
              · exact absurd rfl c_182
              · refine wp_iload (pc := 185) dX6_aimsOf_185 rfl ?_
                refine wp_if_neN (pc := 187) (tgt := 225) dX6_aimsOf_187 (by decide) (by first | with_reducible assumption | omega) (fun c_187 => ?_) (fun c_187 => ?_)
                · exact absurd rfl c_187
                · refine wp_iload (pc := 190) dX6_aimsOf_190 rfl ?_
                  refine wp_iload (pc := 192) dX6_aimsOf_192 rfl ?_
                  refine wp_iload_n (pc := 194) (i := 2) dX6_aimsOf_194 rfl rfl ?_
                  refine wp_cSP1 (pc := 195) dX6_aimsOf_195 lm_X6_65 m_X6_sideOf (Nat.le_of_ble_eq_true rfl) hsf ?_
                  refine wp_if_neN (pc := 198) (tgt := 205) dX6_aimsOf_198 (by decide) (by first | with_reducible assumption | omega) (fun c_198 => ?_) (fun c_198 => ?_)
                  · refine wp_iconst (pc := 205) (v := nI 1) dX6_aimsOf_205 (by decide +kernel) ?_
                    refine wp_icmp_ne (pc := 206) (tgt := 221) dX6_aimsOf_206 (by decide) (fun c_206 => ?_) (fun c_206 => ?_)
                    · refine wp_iconst (pc := 221) (v := nI 0) dX6_aimsOf_221 (by decide +kernel) ?_
                      refine wp_ior (pc := 222) dX6_aimsOf_222 ?_
                      rw [show ∀ x : Int32, x ||| nI 0 = x from fun x => by rw [show nI 0 = (0 : Int32) from rfl, Int32.or_zero]]
                      refine wp_istore (pc := 223) dX6_aimsOf_223 (by decide) ?_
                      first | (refine wp_iincN (pc := 225) (m := 1) dX6_aimsOf_225 rfl rfl (by decide) ?_) | (refine wp_iinc (pc := 225) dX6_aimsOf_225 rfl rfl (by decide) ?_)
                      refine wp_goto (pc := 228) (tgt := 12) dX6_aimsOf_228 (by decide) ?_
                      refine wp_drop 8 ?_
                      exact g
                    · exact absurd c_206 (by decide +kernel)
                  · exact absurd c_198 (by decide)
            · exact absurd c_139 (by decide)
          · exact absurd c_107 (by decide)
        · exact absurd c_95 (by decide)
      · exact absurd c_71 (by decide)
    · exact absurd c_55 (by decide)
  have s1 : ∀ (P : Nat → Bool) (Q : Pst), WP ΩM (d + 3) kX6_aimsOf 12 [(0, .ref 0), (1, .int (nI k)), (2, .int (nI (asc s))), (3, .int (nI c)), (4, .int (bI nb)), (5, .int (nI 80)), (6, .int (nI (mset P))), (7, .int (nI 2))] [] I J Q → WP ΩM (d + 3) kX6_aimsOf 12 [(0, .ref 0), (1, .int (nI k)), (2, .int (nI (asc s))), (3, .int (nI c)), (4, .int (bI nb)), (5, .int (nI 80)), (6, .int (nI (mset P))), (7, .int (nI 1))] [] I J Q := by
    clear g9 s0
    intro P Q g
    refine ma_1 ?_
    refine wp_iload (pc := 52) dX6_aimsOf_52 rfl ?_
    refine wp_iconst (pc := 54) (v := nI 4) dX6_aimsOf_54 (by decide +kernel) ?_
    first | (refine wp_icmp_neN (pc := 55) (tgt := 67) dX6_aimsOf_55 (by decide) (by first | with_reducible assumption | omega) (by first | with_reducible assumption | omega) (fun c_55 => ?_) (fun c_55 => ?_)) | (refine wp_icmp_ne (pc := 55) (tgt := 67) dX6_aimsOf_55 (by decide) (fun c_55 => ?_) (fun c_55 => ?_))
    · refine wp_iload (pc := 67) dX6_aimsOf_67 rfl ?_
      refine wp_bipush (pc := 69) (v := nI 75) dX6_aimsOf_69 (by decide +kernel) ?_
      first | (refine wp_icmp_neN (pc := 71) (tgt := 91) dX6_aimsOf_71 (by decide) (by first | with_reducible assumption | omega) (by first | with_reducible assumption | omega) (fun c_71 => ?_) (fun c_71 => ?_)) | (refine wp_icmp_ne (pc := 71) (tgt := 91) dX6_aimsOf_71 (by decide) (fun c_71 => ?_) (fun c_71 => ?_))
      · refine wp_iload (pc := 91) dX6_aimsOf_91 rfl ?_
        refine wp_bipush (pc := 93) (v := nI 82) dX6_aimsOf_93 (by decide +kernel) ?_
        first | (refine wp_icmp_neN (pc := 95) (tgt := 103) dX6_aimsOf_95 (by decide) (by first | with_reducible assumption | omega) (by first | with_reducible assumption | omega) (fun c_95 => ?_) (fun c_95 => ?_)) | (refine wp_icmp_ne (pc := 95) (tgt := 103) dX6_aimsOf_95 (by decide) (fun c_95 => ?_) (fun c_95 => ?_))
        · refine wp_iload (pc := 103) dX6_aimsOf_103 rfl ?_
          refine wp_bipush (pc := 105) (v := nI 66) dX6_aimsOf_105 (by decide +kernel) ?_
          first | (refine wp_icmp_neN (pc := 107) (tgt := 135) dX6_aimsOf_107 (by decide) (by first | with_reducible assumption | omega) (by first | with_reducible assumption | omega) (fun c_107 => ?_) (fun c_107 => ?_)) | (refine wp_icmp_ne (pc := 107) (tgt := 135) dX6_aimsOf_107 (by decide) (fun c_107 => ?_) (fun c_107 => ?_))
          · refine wp_iload (pc := 135) dX6_aimsOf_135 rfl ?_
            refine wp_bipush (pc := 137) (v := nI 78) dX6_aimsOf_137 (by decide +kernel) ?_
            first | (refine wp_icmp_neN (pc := 139) (tgt := 178) dX6_aimsOf_139 (by decide) (by first | with_reducible assumption | omega) (by first | with_reducible assumption | omega) (fun c_139 => ?_) (fun c_139 => ?_)) | (refine wp_icmp_ne (pc := 139) (tgt := 178) dX6_aimsOf_139 (by decide) (fun c_139 => ?_) (fun c_139 => ?_))
            · refine wp_iload (pc := 178) dX6_aimsOf_178 rfl ?_
              refine wp_bipush (pc := 180) (v := nI 80) dX6_aimsOf_180 (by decide +kernel) ?_
              first | (refine wp_icmp_neN (pc := 182) (tgt := 225) dX6_aimsOf_182 (by decide) (by first | with_reducible assumption | omega) (by first | with_reducible assumption | omega) (fun c_182 => ?_) (fun c_182 => ?_)) | (refine wp_icmp_ne (pc := 182) (tgt := 225) dX6_aimsOf_182 (by decide) (fun c_182 => ?_) (fun c_182 => ?_))
              · exact absurd rfl c_182
              · refine wp_iload (pc := 185) dX6_aimsOf_185 rfl ?_
                refine wp_if_neN (pc := 187) (tgt := 225) dX6_aimsOf_187 (by decide) (by first | with_reducible assumption | omega) (fun c_187 => ?_) (fun c_187 => ?_)
                · first | (refine wp_iincN (pc := 225) (m := 1) dX6_aimsOf_225 rfl rfl (by decide) ?_) | (refine wp_iinc (pc := 225) dX6_aimsOf_225 rfl rfl (by decide) ?_)
                  refine wp_goto (pc := 228) (tgt := 12) dX6_aimsOf_228 (by decide) ?_
                  refine wp_drop 8 ?_
                  exact g
                · exact absurd c_187 (by decide)
            · exact absurd c_139 (by decide)
          · exact absurd c_107 (by decide)
        · exact absurd c_95 (by decide)
      · exact absurd c_71 (by decide)
    · exact absurd c_55 (by decide)
  have s2 : ∀ (P : Nat → Bool) (Q : Pst), WP ΩM (d + 3) kX6_aimsOf 12 [(0, .ref 0), (1, .int (nI k)), (2, .int (nI (asc s))), (3, .int (nI c)), (4, .int (bI nb)), (5, .int (nI 80)), (6, .int (nI (mset P))), (7, .int (nI 3))] [] I J Q → WP ΩM (d + 3) kX6_aimsOf 12 [(0, .ref 0), (1, .int (nI k)), (2, .int (nI (asc s))), (3, .int (nI c)), (4, .int (bI nb)), (5, .int (nI 80)), (6, .int (nI (mset P))), (7, .int (nI 2))] [] I J Q := by
    clear g9 s0 s1
    intro P Q g
    refine ma_2 ?_
    refine wp_iload (pc := 52) dX6_aimsOf_52 rfl ?_
    refine wp_iconst (pc := 54) (v := nI 4) dX6_aimsOf_54 (by decide +kernel) ?_
    first | (refine wp_icmp_neN (pc := 55) (tgt := 67) dX6_aimsOf_55 (by decide) (by first | with_reducible assumption | omega) (by first | with_reducible assumption | omega) (fun c_55 => ?_) (fun c_55 => ?_)) | (refine wp_icmp_ne (pc := 55) (tgt := 67) dX6_aimsOf_55 (by decide) (fun c_55 => ?_) (fun c_55 => ?_))
    · refine wp_iload (pc := 67) dX6_aimsOf_67 rfl ?_
      refine wp_bipush (pc := 69) (v := nI 75) dX6_aimsOf_69 (by decide +kernel) ?_
      first | (refine wp_icmp_neN (pc := 71) (tgt := 91) dX6_aimsOf_71 (by decide) (by first | with_reducible assumption | omega) (by first | with_reducible assumption | omega) (fun c_71 => ?_) (fun c_71 => ?_)) | (refine wp_icmp_ne (pc := 71) (tgt := 91) dX6_aimsOf_71 (by decide) (fun c_71 => ?_) (fun c_71 => ?_))
      · refine wp_iload (pc := 91) dX6_aimsOf_91 rfl ?_
        refine wp_bipush (pc := 93) (v := nI 82) dX6_aimsOf_93 (by decide +kernel) ?_
        first | (refine wp_icmp_neN (pc := 95) (tgt := 103) dX6_aimsOf_95 (by decide) (by first | with_reducible assumption | omega) (by first | with_reducible assumption | omega) (fun c_95 => ?_) (fun c_95 => ?_)) | (refine wp_icmp_ne (pc := 95) (tgt := 103) dX6_aimsOf_95 (by decide) (fun c_95 => ?_) (fun c_95 => ?_))
        · refine wp_iload (pc := 103) dX6_aimsOf_103 rfl ?_
          refine wp_bipush (pc := 105) (v := nI 66) dX6_aimsOf_105 (by decide +kernel) ?_
          first | (refine wp_icmp_neN (pc := 107) (tgt := 135) dX6_aimsOf_107 (by decide) (by first | with_reducible assumption | omega) (by first | with_reducible assumption | omega) (fun c_107 => ?_) (fun c_107 => ?_)) | (refine wp_icmp_ne (pc := 107) (tgt := 135) dX6_aimsOf_107 (by decide) (fun c_107 => ?_) (fun c_107 => ?_))
          · refine wp_iload (pc := 135) dX6_aimsOf_135 rfl ?_
            refine wp_bipush (pc := 137) (v := nI 78) dX6_aimsOf_137 (by decide +kernel) ?_
            first | (refine wp_icmp_neN (pc := 139) (tgt := 178) dX6_aimsOf_139 (by decide) (by first | with_reducible assumption | omega) (by first | with_reducible assumption | omega) (fun c_139 => ?_) (fun c_139 => ?_)) | (refine wp_icmp_ne (pc := 139) (tgt := 178) dX6_aimsOf_139 (by decide) (fun c_139 => ?_) (fun c_139 => ?_))
            · refine wp_iload (pc := 178) dX6_aimsOf_178 rfl ?_
              refine wp_bipush (pc := 180) (v := nI 80) dX6_aimsOf_180 (by decide +kernel) ?_
              first | (refine wp_icmp_neN (pc := 182) (tgt := 225) dX6_aimsOf_182 (by decide) (by first | with_reducible assumption | omega) (by first | with_reducible assumption | omega) (fun c_182 => ?_) (fun c_182 => ?_)) | (refine wp_icmp_ne (pc := 182) (tgt := 225) dX6_aimsOf_182 (by decide) (fun c_182 => ?_) (fun c_182 => ?_))
              · exact absurd rfl c_182
              · refine wp_iload (pc := 185) dX6_aimsOf_185 rfl ?_
                refine wp_if_neN (pc := 187) (tgt := 225) dX6_aimsOf_187 (by decide) (by first | with_reducible assumption | omega) (fun c_187 => ?_) (fun c_187 => ?_)
                · exact absurd rfl c_187
                · refine wp_iload (pc := 190) dX6_aimsOf_190 rfl ?_
                  refine wp_iload (pc := 192) dX6_aimsOf_192 rfl ?_
                  refine wp_iload_n (pc := 194) (i := 2) dX6_aimsOf_194 rfl rfl ?_
                  refine wp_cSP1 (pc := 195) dX6_aimsOf_195 lm_X6_65 m_X6_sideOf (Nat.le_of_ble_eq_true rfl) hsf ?_
                  refine wp_if_neN (pc := 198) (tgt := 205) dX6_aimsOf_198 (by decide) (by first | with_reducible assumption | omega) (fun c_198 => ?_) (fun c_198 => ?_)
                  · refine wp_iconst (pc := 205) (v := nI 1) dX6_aimsOf_205 (by decide +kernel) ?_
                    refine wp_icmp_ne (pc := 206) (tgt := 221) dX6_aimsOf_206 (by decide) (fun c_206 => ?_) (fun c_206 => ?_)
                    · refine wp_iconst (pc := 221) (v := nI 0) dX6_aimsOf_221 (by decide +kernel) ?_
                      refine wp_ior (pc := 222) dX6_aimsOf_222 ?_
                      rw [show ∀ x : Int32, x ||| nI 0 = x from fun x => by rw [show nI 0 = (0 : Int32) from rfl, Int32.or_zero]]
                      refine wp_istore (pc := 223) dX6_aimsOf_223 (by decide) ?_
                      first | (refine wp_iincN (pc := 225) (m := 1) dX6_aimsOf_225 rfl rfl (by decide) ?_) | (refine wp_iinc (pc := 225) dX6_aimsOf_225 rfl rfl (by decide) ?_)
                      refine wp_goto (pc := 228) (tgt := 12) dX6_aimsOf_228 (by decide) ?_
                      refine wp_drop 8 ?_
                      exact g
                    · exact absurd c_206 (by decide +kernel)
                  · exact absurd c_198 (by decide)
            · exact absurd c_139 (by decide)
          · exact absurd c_107 (by decide)
        · exact absurd c_95 (by decide)
      · exact absurd c_71 (by decide)
    · exact absurd c_55 (by decide)
  have s3 : ∀ (P : Nat → Bool) (Q : Pst), WP ΩM (d + 3) kX6_aimsOf 12 [(0, .ref 0), (1, .int (nI k)), (2, .int (nI (asc s))), (3, .int (nI c)), (4, .int (bI nb)), (5, .int (nI 80)), (6, .int (nI (mset P))), (7, .int (nI 4))] [] I J Q → WP ΩM (d + 3) kX6_aimsOf 12 [(0, .ref 0), (1, .int (nI k)), (2, .int (nI (asc s))), (3, .int (nI c)), (4, .int (bI nb)), (5, .int (nI 80)), (6, .int (nI (mset P))), (7, .int (nI 3))] [] I J Q := by
    clear g9 s0 s1 s2
    intro P Q g
    refine ma_3 ?_
    refine wp_iload (pc := 52) dX6_aimsOf_52 rfl ?_
    refine wp_iconst (pc := 54) (v := nI 4) dX6_aimsOf_54 (by decide +kernel) ?_
    first | (refine wp_icmp_neN (pc := 55) (tgt := 67) dX6_aimsOf_55 (by decide) (by first | with_reducible assumption | omega) (by first | with_reducible assumption | omega) (fun c_55 => ?_) (fun c_55 => ?_)) | (refine wp_icmp_ne (pc := 55) (tgt := 67) dX6_aimsOf_55 (by decide) (fun c_55 => ?_) (fun c_55 => ?_))
    · refine wp_iload (pc := 67) dX6_aimsOf_67 rfl ?_
      refine wp_bipush (pc := 69) (v := nI 75) dX6_aimsOf_69 (by decide +kernel) ?_
      first | (refine wp_icmp_neN (pc := 71) (tgt := 91) dX6_aimsOf_71 (by decide) (by first | with_reducible assumption | omega) (by first | with_reducible assumption | omega) (fun c_71 => ?_) (fun c_71 => ?_)) | (refine wp_icmp_ne (pc := 71) (tgt := 91) dX6_aimsOf_71 (by decide) (fun c_71 => ?_) (fun c_71 => ?_))
      · refine wp_iload (pc := 91) dX6_aimsOf_91 rfl ?_
        refine wp_bipush (pc := 93) (v := nI 82) dX6_aimsOf_93 (by decide +kernel) ?_
        first | (refine wp_icmp_neN (pc := 95) (tgt := 103) dX6_aimsOf_95 (by decide) (by first | with_reducible assumption | omega) (by first | with_reducible assumption | omega) (fun c_95 => ?_) (fun c_95 => ?_)) | (refine wp_icmp_ne (pc := 95) (tgt := 103) dX6_aimsOf_95 (by decide) (fun c_95 => ?_) (fun c_95 => ?_))
        · refine wp_iload (pc := 103) dX6_aimsOf_103 rfl ?_
          refine wp_bipush (pc := 105) (v := nI 66) dX6_aimsOf_105 (by decide +kernel) ?_
          first | (refine wp_icmp_neN (pc := 107) (tgt := 135) dX6_aimsOf_107 (by decide) (by first | with_reducible assumption | omega) (by first | with_reducible assumption | omega) (fun c_107 => ?_) (fun c_107 => ?_)) | (refine wp_icmp_ne (pc := 107) (tgt := 135) dX6_aimsOf_107 (by decide) (fun c_107 => ?_) (fun c_107 => ?_))
          · refine wp_iload (pc := 135) dX6_aimsOf_135 rfl ?_
            refine wp_bipush (pc := 137) (v := nI 78) dX6_aimsOf_137 (by decide +kernel) ?_
            first | (refine wp_icmp_neN (pc := 139) (tgt := 178) dX6_aimsOf_139 (by decide) (by first | with_reducible assumption | omega) (by first | with_reducible assumption | omega) (fun c_139 => ?_) (fun c_139 => ?_)) | (refine wp_icmp_ne (pc := 139) (tgt := 178) dX6_aimsOf_139 (by decide) (fun c_139 => ?_) (fun c_139 => ?_))
            · refine wp_iload (pc := 178) dX6_aimsOf_178 rfl ?_
              refine wp_bipush (pc := 180) (v := nI 80) dX6_aimsOf_180 (by decide +kernel) ?_
              first | (refine wp_icmp_neN (pc := 182) (tgt := 225) dX6_aimsOf_182 (by decide) (by first | with_reducible assumption | omega) (by first | with_reducible assumption | omega) (fun c_182 => ?_) (fun c_182 => ?_)) | (refine wp_icmp_ne (pc := 182) (tgt := 225) dX6_aimsOf_182 (by decide) (fun c_182 => ?_) (fun c_182 => ?_))
              · exact absurd rfl c_182
              · refine wp_iload (pc := 185) dX6_aimsOf_185 rfl ?_
                refine wp_if_neN (pc := 187) (tgt := 225) dX6_aimsOf_187 (by decide) (by first | with_reducible assumption | omega) (fun c_187 => ?_) (fun c_187 => ?_)
                · first | (refine wp_iincN (pc := 225) (m := 1) dX6_aimsOf_225 rfl rfl (by decide) ?_) | (refine wp_iinc (pc := 225) dX6_aimsOf_225 rfl rfl (by decide) ?_)
                  refine wp_goto (pc := 228) (tgt := 12) dX6_aimsOf_228 (by decide) ?_
                  refine wp_drop 8 ?_
                  exact g
                · exact absurd c_187 (by decide)
            · exact absurd c_139 (by decide)
          · exact absurd c_107 (by decide)
        · exact absurd c_95 (by decide)
      · exact absurd c_71 (by decide)
    · exact absurd c_55 (by decide)
  have s4 : ∀ (P : Nat → Bool) (Q : Pst), WP ΩM (d + 3) kX6_aimsOf 12 [(0, .ref 0), (1, .int (nI k)), (2, .int (nI (asc s))), (3, .int (nI c)), (4, .int (bI nb)), (5, .int (nI 80)), (6, .int (nI (mset P))), (7, .int (nI 5))] [] I J Q → WP ΩM (d + 3) kX6_aimsOf 12 [(0, .ref 0), (1, .int (nI k)), (2, .int (nI (asc s))), (3, .int (nI c)), (4, .int (bI nb)), (5, .int (nI 80)), (6, .int (nI (mset P))), (7, .int (nI 4))] [] I J Q := by
    clear g9 s0 s1 s2 s3
    intro P Q g
    refine ma_4 ?_
    refine wp_iload (pc := 52) dX6_aimsOf_52 rfl ?_
    refine wp_iconst (pc := 54) (v := nI 4) dX6_aimsOf_54 (by decide +kernel) ?_
    first | (refine wp_icmp_neN (pc := 55) (tgt := 67) dX6_aimsOf_55 (by decide) (by first | with_reducible assumption | omega) (by first | with_reducible assumption | omega) (fun c_55 => ?_) (fun c_55 => ?_)) | (refine wp_icmp_ne (pc := 55) (tgt := 67) dX6_aimsOf_55 (by decide) (fun c_55 => ?_) (fun c_55 => ?_))
    · exact absurd rfl c_55
    · refine wp_iload (pc := 58) dX6_aimsOf_58 rfl ?_
      refine wp_iconst (pc := 60) (v := nI 0) dX6_aimsOf_60 (by decide +kernel) ?_
      refine wp_ior (pc := 61) dX6_aimsOf_61 ?_
      rw [show ∀ x : Int32, x ||| nI 0 = x from fun x => by rw [show nI 0 = (0 : Int32) from rfl, Int32.or_zero]]
      refine wp_istore (pc := 62) dX6_aimsOf_62 (by decide) ?_
      refine wp_goto (pc := 64) (tgt := 225) dX6_aimsOf_64 (by decide) ?_
      first | (refine wp_iincN (pc := 225) (m := 1) dX6_aimsOf_225 rfl rfl (by decide) ?_) | (refine wp_iinc (pc := 225) dX6_aimsOf_225 rfl rfl (by decide) ?_)
      refine wp_goto (pc := 228) (tgt := 12) dX6_aimsOf_228 (by decide) ?_
      refine wp_drop 8 ?_
      exact g
  have s5 : ∀ (P : Nat → Bool) (Q : Pst), WP ΩM (d + 3) kX6_aimsOf 12 [(0, .ref 0), (1, .int (nI k)), (2, .int (nI (asc s))), (3, .int (nI c)), (4, .int (bI nb)), (5, .int (nI 80)), (6, .int (nI (mset P))), (7, .int (nI 6))] [] I J Q → WP ΩM (d + 3) kX6_aimsOf 12 [(0, .ref 0), (1, .int (nI k)), (2, .int (nI (asc s))), (3, .int (nI c)), (4, .int (bI nb)), (5, .int (nI 80)), (6, .int (nI (mset P))), (7, .int (nI 5))] [] I J Q := by
    clear g9 s0 s1 s2 s3 s4
    intro P Q g
    refine ma_5 ?_
    refine wp_iload (pc := 52) dX6_aimsOf_52 rfl ?_
    refine wp_iconst (pc := 54) (v := nI 4) dX6_aimsOf_54 (by decide +kernel) ?_
    first | (refine wp_icmp_neN (pc := 55) (tgt := 67) dX6_aimsOf_55 (by decide) (by first | with_reducible assumption | omega) (by first | with_reducible assumption | omega) (fun c_55 => ?_) (fun c_55 => ?_)) | (refine wp_icmp_ne (pc := 55) (tgt := 67) dX6_aimsOf_55 (by decide) (fun c_55 => ?_) (fun c_55 => ?_))
    · refine wp_iload (pc := 67) dX6_aimsOf_67 rfl ?_
      refine wp_bipush (pc := 69) (v := nI 75) dX6_aimsOf_69 (by decide +kernel) ?_
      first | (refine wp_icmp_neN (pc := 71) (tgt := 91) dX6_aimsOf_71 (by decide) (by first | with_reducible assumption | omega) (by first | with_reducible assumption | omega) (fun c_71 => ?_) (fun c_71 => ?_)) | (refine wp_icmp_ne (pc := 71) (tgt := 91) dX6_aimsOf_71 (by decide) (fun c_71 => ?_) (fun c_71 => ?_))
      · refine wp_iload (pc := 91) dX6_aimsOf_91 rfl ?_
        refine wp_bipush (pc := 93) (v := nI 82) dX6_aimsOf_93 (by decide +kernel) ?_
        first | (refine wp_icmp_neN (pc := 95) (tgt := 103) dX6_aimsOf_95 (by decide) (by first | with_reducible assumption | omega) (by first | with_reducible assumption | omega) (fun c_95 => ?_) (fun c_95 => ?_)) | (refine wp_icmp_ne (pc := 95) (tgt := 103) dX6_aimsOf_95 (by decide) (fun c_95 => ?_) (fun c_95 => ?_))
        · refine wp_iload (pc := 103) dX6_aimsOf_103 rfl ?_
          refine wp_bipush (pc := 105) (v := nI 66) dX6_aimsOf_105 (by decide +kernel) ?_
          first | (refine wp_icmp_neN (pc := 107) (tgt := 135) dX6_aimsOf_107 (by decide) (by first | with_reducible assumption | omega) (by first | with_reducible assumption | omega) (fun c_107 => ?_) (fun c_107 => ?_)) | (refine wp_icmp_ne (pc := 107) (tgt := 135) dX6_aimsOf_107 (by decide) (fun c_107 => ?_) (fun c_107 => ?_))
          · refine wp_iload (pc := 135) dX6_aimsOf_135 rfl ?_
            refine wp_bipush (pc := 137) (v := nI 78) dX6_aimsOf_137 (by decide +kernel) ?_
            first | (refine wp_icmp_neN (pc := 139) (tgt := 178) dX6_aimsOf_139 (by decide) (by first | with_reducible assumption | omega) (by first | with_reducible assumption | omega) (fun c_139 => ?_) (fun c_139 => ?_)) | (refine wp_icmp_ne (pc := 139) (tgt := 178) dX6_aimsOf_139 (by decide) (fun c_139 => ?_) (fun c_139 => ?_))
            · refine wp_iload (pc := 178) dX6_aimsOf_178 rfl ?_
              refine wp_bipush (pc := 180) (v := nI 80) dX6_aimsOf_180 (by decide +kernel) ?_
              first | (refine wp_icmp_neN (pc := 182) (tgt := 225) dX6_aimsOf_182 (by decide) (by first | with_reducible assumption | omega) (by first | with_reducible assumption | omega) (fun c_182 => ?_) (fun c_182 => ?_)) | (refine wp_icmp_ne (pc := 182) (tgt := 225) dX6_aimsOf_182 (by decide) (fun c_182 => ?_) (fun c_182 => ?_))
              · exact absurd rfl c_182
              · refine wp_iload (pc := 185) dX6_aimsOf_185 rfl ?_
                refine wp_if_neN (pc := 187) (tgt := 225) dX6_aimsOf_187 (by decide) (by first | with_reducible assumption | omega) (fun c_187 => ?_) (fun c_187 => ?_)
                · first | (refine wp_iincN (pc := 225) (m := 1) dX6_aimsOf_225 rfl rfl (by decide) ?_) | (refine wp_iinc (pc := 225) dX6_aimsOf_225 rfl rfl (by decide) ?_)
                  refine wp_goto (pc := 228) (tgt := 12) dX6_aimsOf_228 (by decide) ?_
                  refine wp_drop 8 ?_
                  exact g
                · exact absurd c_187 (by decide)
            · exact absurd c_139 (by decide)
          · exact absurd c_107 (by decide)
        · exact absurd c_95 (by decide)
      · exact absurd c_71 (by decide)
    · exact absurd c_55 (by decide)
  have s6 : ∀ (P : Nat → Bool) (Q : Pst), WP ΩM (d + 3) kX6_aimsOf 12 [(0, .ref 0), (1, .int (nI k)), (2, .int (nI (asc s))), (3, .int (nI c)), (4, .int (bI nb)), (5, .int (nI 80)), (6, .int (nI (mset (fun t => P t || (cat w h (cxx w c + (-1)) (cyy w c + (1)) == some t))))), (7, .int (nI 7))] [] I J Q → WP ΩM (d + 3) kX6_aimsOf 12 [(0, .ref 0), (1, .int (nI k)), (2, .int (nI (asc s))), (3, .int (nI c)), (4, .int (bI nb)), (5, .int (nI 80)), (6, .int (nI (mset P))), (7, .int (nI 6))] [] I J Q := by
    clear g9 s0 s1 s2 s3 s4 s5
    intro P Q g
    refine ma_6 ?_
    refine wp_iload (pc := 52) dX6_aimsOf_52 rfl ?_
    refine wp_iconst (pc := 54) (v := nI 4) dX6_aimsOf_54 (by decide +kernel) ?_
    first | (refine wp_icmp_neN (pc := 55) (tgt := 67) dX6_aimsOf_55 (by decide) (by first | with_reducible assumption | omega) (by first | with_reducible assumption | omega) (fun c_55 => ?_) (fun c_55 => ?_)) | (refine wp_icmp_ne (pc := 55) (tgt := 67) dX6_aimsOf_55 (by decide) (fun c_55 => ?_) (fun c_55 => ?_))
    · refine wp_iload (pc := 67) dX6_aimsOf_67 rfl ?_
      refine wp_bipush (pc := 69) (v := nI 75) dX6_aimsOf_69 (by decide +kernel) ?_
      first | (refine wp_icmp_neN (pc := 71) (tgt := 91) dX6_aimsOf_71 (by decide) (by first | with_reducible assumption | omega) (by first | with_reducible assumption | omega) (fun c_71 => ?_) (fun c_71 => ?_)) | (refine wp_icmp_ne (pc := 71) (tgt := 91) dX6_aimsOf_71 (by decide) (fun c_71 => ?_) (fun c_71 => ?_))
      · refine wp_iload (pc := 91) dX6_aimsOf_91 rfl ?_
        refine wp_bipush (pc := 93) (v := nI 82) dX6_aimsOf_93 (by decide +kernel) ?_
        first | (refine wp_icmp_neN (pc := 95) (tgt := 103) dX6_aimsOf_95 (by decide) (by first | with_reducible assumption | omega) (by first | with_reducible assumption | omega) (fun c_95 => ?_) (fun c_95 => ?_)) | (refine wp_icmp_ne (pc := 95) (tgt := 103) dX6_aimsOf_95 (by decide) (fun c_95 => ?_) (fun c_95 => ?_))
        · refine wp_iload (pc := 103) dX6_aimsOf_103 rfl ?_
          refine wp_bipush (pc := 105) (v := nI 66) dX6_aimsOf_105 (by decide +kernel) ?_
          first | (refine wp_icmp_neN (pc := 107) (tgt := 135) dX6_aimsOf_107 (by decide) (by first | with_reducible assumption | omega) (by first | with_reducible assumption | omega) (fun c_107 => ?_) (fun c_107 => ?_)) | (refine wp_icmp_ne (pc := 107) (tgt := 135) dX6_aimsOf_107 (by decide) (fun c_107 => ?_) (fun c_107 => ?_))
          · refine wp_iload (pc := 135) dX6_aimsOf_135 rfl ?_
            refine wp_bipush (pc := 137) (v := nI 78) dX6_aimsOf_137 (by decide +kernel) ?_
            first | (refine wp_icmp_neN (pc := 139) (tgt := 178) dX6_aimsOf_139 (by decide) (by first | with_reducible assumption | omega) (by first | with_reducible assumption | omega) (fun c_139 => ?_) (fun c_139 => ?_)) | (refine wp_icmp_ne (pc := 139) (tgt := 178) dX6_aimsOf_139 (by decide) (fun c_139 => ?_) (fun c_139 => ?_))
            · refine wp_iload (pc := 178) dX6_aimsOf_178 rfl ?_
              refine wp_bipush (pc := 180) (v := nI 80) dX6_aimsOf_180 (by decide +kernel) ?_
              first | (refine wp_icmp_neN (pc := 182) (tgt := 225) dX6_aimsOf_182 (by decide) (by first | with_reducible assumption | omega) (by first | with_reducible assumption | omega) (fun c_182 => ?_) (fun c_182 => ?_)) | (refine wp_icmp_ne (pc := 182) (tgt := 225) dX6_aimsOf_182 (by decide) (fun c_182 => ?_) (fun c_182 => ?_))
              · exact absurd rfl c_182
              · refine wp_iload (pc := 185) dX6_aimsOf_185 rfl ?_
                refine wp_if_neN (pc := 187) (tgt := 225) dX6_aimsOf_187 (by decide) (by first | with_reducible assumption | omega) (fun c_187 => ?_) (fun c_187 => ?_)
                · exact absurd rfl c_187
                · refine wp_iload (pc := 190) dX6_aimsOf_190 rfl ?_
                  refine wp_iload (pc := 192) dX6_aimsOf_192 rfl ?_
                  refine wp_iload_n (pc := 194) (i := 2) dX6_aimsOf_194 rfl rfl ?_
                  refine wp_cSP1 (pc := 195) dX6_aimsOf_195 lm_X6_65 m_X6_sideOf (Nat.le_of_ble_eq_true rfl) hsf ?_
                  refine wp_if_neN (pc := 198) (tgt := 205) dX6_aimsOf_198 (by decide) (by first | with_reducible assumption | omega) (fun c_198 => ?_) (fun c_198 => ?_)
                  · refine wp_iconst (pc := 205) (v := nI 1) dX6_aimsOf_205 (by decide +kernel) ?_
                    refine wp_icmp_ne (pc := 206) (tgt := 221) dX6_aimsOf_206 (by decide) (fun c_206 => ?_) (fun c_206 => ?_)
                    · exact absurd (by decide +kernel) c_206
                    · refine wp_aload_n (pc := 209) (i := 0) dX6_aimsOf_209 rfl rfl (by first | with_reducible assumption | rfl) ?_
                      refine wp_iload_n (pc := 210) (i := 3) dX6_aimsOf_210 rfl rfl ?_
                      refine wp_iload (pc := 211) dX6_aimsOf_211 rfl ?_
                      refine wp_iload (pc := 213) dX6_aimsOf_213 rfl ?_
                      refine wp_cVP3 (pc := 215) (ci := 6) dX6_aimsOf_215 lm_X6_108 m_X6_step (by first | with_reducible assumption | rfl) (by first | with_reducible assumption | rfl) (by decide) rfl (Nat.le_of_ble_eq_true rfl) (sp_X6_step (d := d) hW hc (by omega) (by omega)) ?_
                      refine wp_goto (pc := 218) (tgt := 222) dX6_aimsOf_218 (by decide) ?_
                      first | (refine wp_iorN (pc := 222) dX6_aimsOf_222 ?_) | (refine wp_ior (pc := 222) dX6_aimsOf_222 ?_)
                      rw [st_or n16]
                      refine wp_istore (pc := 223) dX6_aimsOf_223 (by decide) ?_
                      first | (refine wp_iincN (pc := 225) (m := 1) dX6_aimsOf_225 rfl rfl (by decide) ?_) | (refine wp_iinc (pc := 225) dX6_aimsOf_225 rfl rfl (by decide) ?_)
                      refine wp_goto (pc := 228) (tgt := 12) dX6_aimsOf_228 (by decide) ?_
                      refine wp_drop 8 ?_
                      exact g
                  · exact absurd c_198 (by decide)
            · exact absurd c_139 (by decide)
          · exact absurd c_107 (by decide)
        · exact absurd c_95 (by decide)
      · exact absurd c_71 (by decide)
    · exact absurd c_55 (by decide)
  have s7 : ∀ (P : Nat → Bool) (Q : Pst), WP ΩM (d + 3) kX6_aimsOf 12 [(0, .ref 0), (1, .int (nI k)), (2, .int (nI (asc s))), (3, .int (nI c)), (4, .int (bI nb)), (5, .int (nI 80)), (6, .int (nI (mset P))), (7, .int (nI 8))] [] I J Q → WP ΩM (d + 3) kX6_aimsOf 12 [(0, .ref 0), (1, .int (nI k)), (2, .int (nI (asc s))), (3, .int (nI c)), (4, .int (bI nb)), (5, .int (nI 80)), (6, .int (nI (mset P))), (7, .int (nI 7))] [] I J Q := by
    clear g9 s0 s1 s2 s3 s4 s5 s6
    intro P Q g
    refine ma_7 ?_
    refine wp_iload (pc := 52) dX6_aimsOf_52 rfl ?_
    refine wp_iconst (pc := 54) (v := nI 4) dX6_aimsOf_54 (by decide +kernel) ?_
    first | (refine wp_icmp_neN (pc := 55) (tgt := 67) dX6_aimsOf_55 (by decide) (by first | with_reducible assumption | omega) (by first | with_reducible assumption | omega) (fun c_55 => ?_) (fun c_55 => ?_)) | (refine wp_icmp_ne (pc := 55) (tgt := 67) dX6_aimsOf_55 (by decide) (fun c_55 => ?_) (fun c_55 => ?_))
    · refine wp_iload (pc := 67) dX6_aimsOf_67 rfl ?_
      refine wp_bipush (pc := 69) (v := nI 75) dX6_aimsOf_69 (by decide +kernel) ?_
      first | (refine wp_icmp_neN (pc := 71) (tgt := 91) dX6_aimsOf_71 (by decide) (by first | with_reducible assumption | omega) (by first | with_reducible assumption | omega) (fun c_71 => ?_) (fun c_71 => ?_)) | (refine wp_icmp_ne (pc := 71) (tgt := 91) dX6_aimsOf_71 (by decide) (fun c_71 => ?_) (fun c_71 => ?_))
      · refine wp_iload (pc := 91) dX6_aimsOf_91 rfl ?_
        refine wp_bipush (pc := 93) (v := nI 82) dX6_aimsOf_93 (by decide +kernel) ?_
        first | (refine wp_icmp_neN (pc := 95) (tgt := 103) dX6_aimsOf_95 (by decide) (by first | with_reducible assumption | omega) (by first | with_reducible assumption | omega) (fun c_95 => ?_) (fun c_95 => ?_)) | (refine wp_icmp_ne (pc := 95) (tgt := 103) dX6_aimsOf_95 (by decide) (fun c_95 => ?_) (fun c_95 => ?_))
        · refine wp_iload (pc := 103) dX6_aimsOf_103 rfl ?_
          refine wp_bipush (pc := 105) (v := nI 66) dX6_aimsOf_105 (by decide +kernel) ?_
          first | (refine wp_icmp_neN (pc := 107) (tgt := 135) dX6_aimsOf_107 (by decide) (by first | with_reducible assumption | omega) (by first | with_reducible assumption | omega) (fun c_107 => ?_) (fun c_107 => ?_)) | (refine wp_icmp_ne (pc := 107) (tgt := 135) dX6_aimsOf_107 (by decide) (fun c_107 => ?_) (fun c_107 => ?_))
          · refine wp_iload (pc := 135) dX6_aimsOf_135 rfl ?_
            refine wp_bipush (pc := 137) (v := nI 78) dX6_aimsOf_137 (by decide +kernel) ?_
            first | (refine wp_icmp_neN (pc := 139) (tgt := 178) dX6_aimsOf_139 (by decide) (by first | with_reducible assumption | omega) (by first | with_reducible assumption | omega) (fun c_139 => ?_) (fun c_139 => ?_)) | (refine wp_icmp_ne (pc := 139) (tgt := 178) dX6_aimsOf_139 (by decide) (fun c_139 => ?_) (fun c_139 => ?_))
            · refine wp_iload (pc := 178) dX6_aimsOf_178 rfl ?_
              refine wp_bipush (pc := 180) (v := nI 80) dX6_aimsOf_180 (by decide +kernel) ?_
              first | (refine wp_icmp_neN (pc := 182) (tgt := 225) dX6_aimsOf_182 (by decide) (by first | with_reducible assumption | omega) (by first | with_reducible assumption | omega) (fun c_182 => ?_) (fun c_182 => ?_)) | (refine wp_icmp_ne (pc := 182) (tgt := 225) dX6_aimsOf_182 (by decide) (fun c_182 => ?_) (fun c_182 => ?_))
              · exact absurd rfl c_182
              · refine wp_iload (pc := 185) dX6_aimsOf_185 rfl ?_
                refine wp_if_neN (pc := 187) (tgt := 225) dX6_aimsOf_187 (by decide) (by first | with_reducible assumption | omega) (fun c_187 => ?_) (fun c_187 => ?_)
                · first | (refine wp_iincN (pc := 225) (m := 1) dX6_aimsOf_225 rfl rfl (by decide) ?_) | (refine wp_iinc (pc := 225) dX6_aimsOf_225 rfl rfl (by decide) ?_)
                  refine wp_goto (pc := 228) (tgt := 12) dX6_aimsOf_228 (by decide) ?_
                  refine wp_drop 8 ?_
                  exact g
                · exact absurd c_187 (by decide)
            · exact absurd c_139 (by decide)
          · exact absurd c_107 (by decide)
        · exact absurd c_95 (by decide)
      · exact absurd c_71 (by decide)
    · exact absurd c_55 (by decide)
  have s8 : ∀ (P : Nat → Bool) (Q : Pst), WP ΩM (d + 3) kX6_aimsOf 12 [(0, .ref 0), (1, .int (nI k)), (2, .int (nI (asc s))), (3, .int (nI c)), (4, .int (bI nb)), (5, .int (nI 80)), (6, .int (nI (mset (fun t => P t || (cat w h (cxx w c + (1)) (cyy w c + (1)) == some t))))), (7, .int (nI 9))] [] I J Q → WP ΩM (d + 3) kX6_aimsOf 12 [(0, .ref 0), (1, .int (nI k)), (2, .int (nI (asc s))), (3, .int (nI c)), (4, .int (bI nb)), (5, .int (nI 80)), (6, .int (nI (mset P))), (7, .int (nI 8))] [] I J Q := by
    clear g9 s0 s1 s2 s3 s4 s5 s6 s7
    intro P Q g
    refine ma_8 ?_
    refine wp_iload (pc := 52) dX6_aimsOf_52 rfl ?_
    refine wp_iconst (pc := 54) (v := nI 4) dX6_aimsOf_54 (by decide +kernel) ?_
    first | (refine wp_icmp_neN (pc := 55) (tgt := 67) dX6_aimsOf_55 (by decide) (by first | with_reducible assumption | omega) (by first | with_reducible assumption | omega) (fun c_55 => ?_) (fun c_55 => ?_)) | (refine wp_icmp_ne (pc := 55) (tgt := 67) dX6_aimsOf_55 (by decide) (fun c_55 => ?_) (fun c_55 => ?_))
    · refine wp_iload (pc := 67) dX6_aimsOf_67 rfl ?_
      refine wp_bipush (pc := 69) (v := nI 75) dX6_aimsOf_69 (by decide +kernel) ?_
      first | (refine wp_icmp_neN (pc := 71) (tgt := 91) dX6_aimsOf_71 (by decide) (by first | with_reducible assumption | omega) (by first | with_reducible assumption | omega) (fun c_71 => ?_) (fun c_71 => ?_)) | (refine wp_icmp_ne (pc := 71) (tgt := 91) dX6_aimsOf_71 (by decide) (fun c_71 => ?_) (fun c_71 => ?_))
      · refine wp_iload (pc := 91) dX6_aimsOf_91 rfl ?_
        refine wp_bipush (pc := 93) (v := nI 82) dX6_aimsOf_93 (by decide +kernel) ?_
        first | (refine wp_icmp_neN (pc := 95) (tgt := 103) dX6_aimsOf_95 (by decide) (by first | with_reducible assumption | omega) (by first | with_reducible assumption | omega) (fun c_95 => ?_) (fun c_95 => ?_)) | (refine wp_icmp_ne (pc := 95) (tgt := 103) dX6_aimsOf_95 (by decide) (fun c_95 => ?_) (fun c_95 => ?_))
        · refine wp_iload (pc := 103) dX6_aimsOf_103 rfl ?_
          refine wp_bipush (pc := 105) (v := nI 66) dX6_aimsOf_105 (by decide +kernel) ?_
          first | (refine wp_icmp_neN (pc := 107) (tgt := 135) dX6_aimsOf_107 (by decide) (by first | with_reducible assumption | omega) (by first | with_reducible assumption | omega) (fun c_107 => ?_) (fun c_107 => ?_)) | (refine wp_icmp_ne (pc := 107) (tgt := 135) dX6_aimsOf_107 (by decide) (fun c_107 => ?_) (fun c_107 => ?_))
          · refine wp_iload (pc := 135) dX6_aimsOf_135 rfl ?_
            refine wp_bipush (pc := 137) (v := nI 78) dX6_aimsOf_137 (by decide +kernel) ?_
            first | (refine wp_icmp_neN (pc := 139) (tgt := 178) dX6_aimsOf_139 (by decide) (by first | with_reducible assumption | omega) (by first | with_reducible assumption | omega) (fun c_139 => ?_) (fun c_139 => ?_)) | (refine wp_icmp_ne (pc := 139) (tgt := 178) dX6_aimsOf_139 (by decide) (fun c_139 => ?_) (fun c_139 => ?_))
            · refine wp_iload (pc := 178) dX6_aimsOf_178 rfl ?_
              refine wp_bipush (pc := 180) (v := nI 80) dX6_aimsOf_180 (by decide +kernel) ?_
              first | (refine wp_icmp_neN (pc := 182) (tgt := 225) dX6_aimsOf_182 (by decide) (by first | with_reducible assumption | omega) (by first | with_reducible assumption | omega) (fun c_182 => ?_) (fun c_182 => ?_)) | (refine wp_icmp_ne (pc := 182) (tgt := 225) dX6_aimsOf_182 (by decide) (fun c_182 => ?_) (fun c_182 => ?_))
              · exact absurd rfl c_182
              · refine wp_iload (pc := 185) dX6_aimsOf_185 rfl ?_
                refine wp_if_neN (pc := 187) (tgt := 225) dX6_aimsOf_187 (by decide) (by first | with_reducible assumption | omega) (fun c_187 => ?_) (fun c_187 => ?_)
                · exact absurd rfl c_187
                · refine wp_iload (pc := 190) dX6_aimsOf_190 rfl ?_
                  refine wp_iload (pc := 192) dX6_aimsOf_192 rfl ?_
                  refine wp_iload_n (pc := 194) (i := 2) dX6_aimsOf_194 rfl rfl ?_
                  refine wp_cSP1 (pc := 195) dX6_aimsOf_195 lm_X6_65 m_X6_sideOf (Nat.le_of_ble_eq_true rfl) hsf ?_
                  refine wp_if_neN (pc := 198) (tgt := 205) dX6_aimsOf_198 (by decide) (by first | with_reducible assumption | omega) (fun c_198 => ?_) (fun c_198 => ?_)
                  · refine wp_iconst (pc := 205) (v := nI 1) dX6_aimsOf_205 (by decide +kernel) ?_
                    refine wp_icmp_ne (pc := 206) (tgt := 221) dX6_aimsOf_206 (by decide) (fun c_206 => ?_) (fun c_206 => ?_)
                    · exact absurd (by decide +kernel) c_206
                    · refine wp_aload_n (pc := 209) (i := 0) dX6_aimsOf_209 rfl rfl (by first | with_reducible assumption | rfl) ?_
                      refine wp_iload_n (pc := 210) (i := 3) dX6_aimsOf_210 rfl rfl ?_
                      refine wp_iload (pc := 211) dX6_aimsOf_211 rfl ?_
                      refine wp_iload (pc := 213) dX6_aimsOf_213 rfl ?_
                      refine wp_cVP3 (pc := 215) (ci := 6) dX6_aimsOf_215 lm_X6_108 m_X6_step (by first | with_reducible assumption | rfl) (by first | with_reducible assumption | rfl) (by decide) rfl (Nat.le_of_ble_eq_true rfl) (sp_X6_step (d := d) hW hc (by omega) (by omega)) ?_
                      refine wp_goto (pc := 218) (tgt := 222) dX6_aimsOf_218 (by decide) ?_
                      first | (refine wp_iorN (pc := 222) dX6_aimsOf_222 ?_) | (refine wp_ior (pc := 222) dX6_aimsOf_222 ?_)
                      rw [st_or n16]
                      refine wp_istore (pc := 223) dX6_aimsOf_223 (by decide) ?_
                      first | (refine wp_iincN (pc := 225) (m := 1) dX6_aimsOf_225 rfl rfl (by decide) ?_) | (refine wp_iinc (pc := 225) dX6_aimsOf_225 rfl rfl (by decide) ?_)
                      refine wp_goto (pc := 228) (tgt := 12) dX6_aimsOf_228 (by decide) ?_
                      refine wp_drop 8 ?_
                      exact g
                  · exact absurd c_198 (by decide)
            · exact absurd c_139 (by decide)
          · exact absurd c_107 (by decide)
        · exact absurd c_95 (by decide)
      · exact absurd c_71 (by decide)
    · exact absurd c_55 (by decide)
  have g0 := s0 (fun _ => false) _ (s1 _ _ (s2 _ _ (s3 _ _ (s4 _ _ (s5 _ _ (s6 _ _ (s7 _ _ (s8 _ _ (g9 _)))))))))
  rw [mset_none] at g0
  refine call_of_wp (by decide) (Nat.le_of_ble_eq_true rfl) ?_
  refine wp_iload_n (pc := 0) (i := 2) dX6_aimsOf_0 rfl rfl ?_
  refine wp_cSP1 (pc := 1) dX6_aimsOf_1 lm_X6_105 m_X6_kindOf (Nat.le_of_ble_eq_true rfl) hkf ?_
  refine wp_istore (pc := 4) dX6_aimsOf_4 (by decide) ?_
  refine wp_iconst (pc := 6) (v := nI 0) dX6_aimsOf_6 (by decide +kernel) ?_
  refine wp_istore (pc := 7) dX6_aimsOf_7 (by decide) ?_
  refine wp_iconst (pc := 9) (v := nI 0) dX6_aimsOf_9 (by decide +kernel) ?_
  refine wp_istore (pc := 10) dX6_aimsOf_10 (by decide) ?_
  exact g0
end MAI
