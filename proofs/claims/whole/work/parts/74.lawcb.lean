/-! THE LAW'S CASES, 2 -/
section LCA2
variable {l : Launch} {p : Program} {e : Env} {s : State} {m : MethodId} {below : List Frame} {meth : Method} {c : Code} {b L : Nat} {xs : Nat → Int32} {G : va_G} {cA : Nat → ClassId} {A1 A2 : Nat → Nat} {fm : Value} {i : Nat}
set_option maxHeartbeats 16000000 in
theorem ca_keys (C0 : LA p s m meth c b L xs G cA A1 A2 fm) (hL : L ≤ 2048) (hi : i + 3 < L) {t : List Nat} {w h last : Nat} {bd : Bd} {ps : List Bd} {f : Nat → Option Bd} {z : Int64} (tk : TkS (t, (w, h, last), bd, ps, f, z)) (h0 : ∀ sg : Sg, TkS sg → LWP l p e s m below meth c b G cA A1 A2 861 i [] sg sg) : LWP l p e s m below meth c b G cA A1 A2 482 i [] (t, (w, h, last), bd, ps, f, z) (t, (w, h, last), bd, ps, f, z) := by
  refine lp_a1 C0 dL_law_482 ?_
  refine lp_a0 C0 dL_law_483 ?_
  refine lp_i3 C0 dL_law_484 ?_
  refine lp_ic (v := nI 1) C0 dL_law_485 (by decide +kernel) ?_
  refine lp_iadd (v := nI (i + 1)) C0 dL_law_486 (nI_add i 1) ?_
  refine lp_sld (j := i + 1) C0 hL (by omega) dL_law_487 ?_
  refine lp_callC (as := [.int (xs (i + 1))]) (Q' := fun I J => AQ (aKeys w h last bd (xs (i + 1))) ((t, (w, h, last), bd, ps, f, z))) (v := .int (aKeys w h last bd (xs (i + 1)))) (s1' := (t, (w, h, last), bd, ps, f, z)) C0 dL_law_488 (tb_in 658 (by decide +kernel)) m_X5_keys rfl rfl (fun _ _ => rfl) (fun _ _ => rfl) rfl (Nat.le_of_ble_eq_true rfl) (fun I J hR => sp_X5_keys (d := 4) (show RepC t w h last bd ps f z I J from hR)) (fun _ _ _ _ _ _ q => aq_d q) ?_
  refine lp_a2 C0 dL_law_491 ?_
  refine lp_a0 C0 dL_law_492 ?_
  refine lp_i3 C0 dL_law_493 ?_
  refine lp_ic (v := nI 1) C0 dL_law_494 (by decide +kernel) ?_
  refine lp_iadd (v := nI (i + 1)) C0 dL_law_495 (nI_add i 1) ?_
  refine lp_sld (j := i + 1) C0 hL (by omega) dL_law_496 ?_
  refine lp_callM (as := [.int (xs (i + 1))]) (Q' := fun I J => AM (aKeys w h last bd (xs (i + 1))) ((t, (w, h, last), bd, ps, f, z))) (v := .int (aKeys w h last bd (xs (i + 1)))) (s1' := (t, (w, h, last), bd, ps, f, z)) C0 dL_law_497 (tb_in 1001 (by decide +kernel)) m_X6_keys rfl rfl (fun _ _ => rfl) (fun _ _ => rfl) rfl (Nat.le_of_ble_eq_true rfl) (fun I J hR => by
    have hM : RepM t w h last bd ps f z I J := hR
    have hc := sp_X6_keys (d := 1) (x := (xs (i + 1))) hM
    rw [aKeys_eq (RepM_16 hM).2 hM.2.2.2.1.2 hM.1] at hc
    exact hc) (fun _ _ _ _ _ _ q => am_d q) ?_
  exact lp_eq (tgt := 861) C0 dL_law_500 (by decide) (h0 _ (tk))
set_option maxHeartbeats 16000000 in
theorem ca_keyAt (C0 : LA p s m meth c b L xs G cA A1 A2 fm) (hL : L ≤ 2048) (hi : i + 3 < L) {t : List Nat} {w h last : Nat} {bd : Bd} {ps : List Bd} {f : Nat → Option Bd} {z : Int64} (tk : TkS (t, (w, h, last), bd, ps, f, z)) (h0 : ∀ sg : Sg, TkS sg → LWP l p e s m below meth c b G cA A1 A2 861 i [] sg sg) : LWP l p e s m below meth c b G cA A1 A2 505 i [] (t, (w, h, last), bd, ps, f, z) (t, (w, h, last), bd, ps, f, z) := by
  refine lp_a1 C0 dL_law_505 ?_
  refine lp_a0 C0 dL_law_506 ?_
  refine lp_i3 C0 dL_law_507 ?_
  refine lp_ic (v := nI 1) C0 dL_law_508 (by decide +kernel) ?_
  refine lp_iadd (v := nI (i + 1)) C0 dL_law_509 (nI_add i 1) ?_
  refine lp_sld (j := i + 1) C0 hL (by omega) dL_law_510 ?_
  refine lp_a0 C0 dL_law_511 ?_
  refine lp_i3 C0 dL_law_512 ?_
  refine lp_ic (v := nI 2) C0 dL_law_513 (by decide +kernel) ?_
  refine lp_iadd (v := nI (i + 2)) C0 dL_law_514 (nI_add i 2) ?_
  refine lp_sld (j := i + 2) C0 hL (by omega) dL_law_515 ?_
  refine lp_callC (as := [.int (xs (i + 1)), .int (xs (i + 2))]) (Q' := fun I J => AQ (aKeyAt w h last bd (xs (i + 1)) (xs (i + 2))) ((t, (w, h, last), bd, ps, f, z))) (v := .int (aKeyAt w h last bd (xs (i + 1)) (xs (i + 2)))) (s1' := (t, (w, h, last), bd, ps, f, z)) C0 dL_law_516 (tb_in 667 (by decide +kernel)) m_X5_keyAt rfl rfl (fun _ _ => rfl) (fun _ _ => rfl) rfl (Nat.le_of_ble_eq_true rfl) (fun I J hR => sp_X5_keyAt (d := 4) (show RepC t w h last bd ps f z I J from hR)) (fun _ _ _ _ _ _ q => aq_d q) ?_
  refine lp_a2 C0 dL_law_519 ?_
  refine lp_a0 C0 dL_law_520 ?_
  refine lp_i3 C0 dL_law_521 ?_
  refine lp_ic (v := nI 1) C0 dL_law_522 (by decide +kernel) ?_
  refine lp_iadd (v := nI (i + 1)) C0 dL_law_523 (nI_add i 1) ?_
  refine lp_sld (j := i + 1) C0 hL (by omega) dL_law_524 ?_
  refine lp_a0 C0 dL_law_525 ?_
  refine lp_i3 C0 dL_law_526 ?_
  refine lp_ic (v := nI 2) C0 dL_law_527 (by decide +kernel) ?_
  refine lp_iadd (v := nI (i + 2)) C0 dL_law_528 (nI_add i 2) ?_
  refine lp_sld (j := i + 2) C0 hL (by omega) dL_law_529 ?_
  refine lp_callM (as := [.int (xs (i + 1)), .int (xs (i + 2))]) (Q' := fun I J => AM (aKeyAt w h last bd (xs (i + 1)) (xs (i + 2))) ((t, (w, h, last), bd, ps, f, z))) (v := .int (aKeyAt w h last bd (xs (i + 1)) (xs (i + 2)))) (s1' := (t, (w, h, last), bd, ps, f, z)) C0 dL_law_530 (tb_in 1005 (by decide +kernel)) m_X6_keyAt rfl rfl (fun _ _ => rfl) (fun _ _ => rfl) rfl (Nat.le_of_ble_eq_true rfl) (fun I J hR => by
    have hM : RepM t w h last bd ps f z I J := hR
    have hc := sp_X6_keyAt (d := 1) (x := (xs (i + 1))) (y := (xs (i + 2))) hM
    rw [aKeyAt_eq (RepM_16 hM).2 hM.2.2.2.1.2 hM.1] at hc
    exact hc) (fun _ _ _ _ _ _ q => am_d q) ?_
  exact lp_eq (tgt := 861) C0 dL_law_533 (by decide) (h0 _ (tk))
set_option maxHeartbeats 16000000 in
theorem ca_odds (C0 : LA p s m meth c b L xs G cA A1 A2 fm) (hL : L ≤ 2048) (hi : i + 3 < L) {t : List Nat} {w h last : Nat} {bd : Bd} {ps : List Bd} {f : Nat → Option Bd} {z : Int64} (tk : TkS (t, (w, h, last), bd, ps, f, z)) (h0 : ∀ sg : Sg, TkS sg → LWP l p e s m below meth c b G cA A1 A2 861 i [] sg sg) : LWP l p e s m below meth c b G cA A1 A2 538 i [] (t, (w, h, last), bd, ps, f, z) (t, (w, h, last), bd, ps, f, z) := by
  refine lp_a1 C0 dL_law_538 ?_
  refine lp_a0 C0 dL_law_539 ?_
  refine lp_i3 C0 dL_law_540 ?_
  refine lp_ic (v := nI 1) C0 dL_law_541 (by decide +kernel) ?_
  refine lp_iadd (v := nI (i + 1)) C0 dL_law_542 (nI_add i 1) ?_
  refine lp_sld (j := i + 1) C0 hL (by omega) dL_law_543 ?_
  refine lp_dia C0 dL_law_544 dL_law_547 dL_law_548 dL_law_551 ?_
  refine lp_callC (as := [.int (bI (!decide ((xs (i + 1)) = 0)))]) (Q' := fun I J => AQ (aOdds w h bd (!decide ((xs (i + 1)) = 0))) ((t, (w, h, last), bd, ps, f, z))) (v := .int (aOdds w h bd (!decide ((xs (i + 1)) = 0)))) (s1' := (t, (w, h, last), bd, ps, f, z)) C0 dL_law_552 (tb_in 671 (by decide +kernel)) m_X5_odds rfl rfl (fun _ _ => rfl) (fun _ _ => rfl) rfl (Nat.le_of_ble_eq_true rfl) (fun I J hR => sp_X5_odds (d := 7) (show RepC t w h last bd ps f z I J from hR)) (fun _ _ _ _ _ _ q => aq_d q) ?_
  refine lp_a2 C0 dL_law_555 ?_
  refine lp_a0 C0 dL_law_556 ?_
  refine lp_i3 C0 dL_law_557 ?_
  refine lp_ic (v := nI 1) C0 dL_law_558 (by decide +kernel) ?_
  refine lp_iadd (v := nI (i + 1)) C0 dL_law_559 (nI_add i 1) ?_
  refine lp_sld (j := i + 1) C0 hL (by omega) dL_law_560 ?_
  refine lp_dia C0 dL_law_561 dL_law_564 dL_law_565 dL_law_568 ?_
  refine lp_callM (as := [.int (bI (!decide ((xs (i + 1)) = 0)))]) (Q' := fun I J => AM (aOdds w h bd (!decide ((xs (i + 1)) = 0))) ((t, (w, h, last), bd, ps, f, z))) (v := .int (aOdds w h bd (!decide ((xs (i + 1)) = 0)))) (s1' := (t, (w, h, last), bd, ps, f, z)) C0 dL_law_569 (tb_in 1009 (by decide +kernel)) m_X6_odds rfl rfl (fun _ _ => rfl) (fun _ _ => rfl) rfl (Nat.le_of_ble_eq_true rfl) (fun I J hR => sp_X6_odds (d := 5) (show RepM t w h last bd ps f z I J from hR)) (fun _ _ _ _ _ _ q => am_d q) ?_
  exact lp_eq (tgt := 861) C0 dL_law_572 (by decide) (h0 _ (tk))
set_option maxHeartbeats 16000000 in
theorem ca_parts (C0 : LA p s m meth c b L xs G cA A1 A2 fm) (hL : L ≤ 2048) (hi : i + 3 < L) {t : List Nat} {w h last : Nat} {bd : Bd} {ps : List Bd} {f : Nat → Option Bd} {z : Int64} (tk : TkS (t, (w, h, last), bd, ps, f, z)) (h0 : ∀ sg : Sg, TkS sg → LWP l p e s m below meth c b G cA A1 A2 861 i [] sg sg) : LWP l p e s m below meth c b G cA A1 A2 577 i [] (t, (w, h, last), bd, ps, f, z) (t, (w, h, last), bd, ps, f, z) := by
  refine lp_a1 C0 dL_law_577 ?_
  refine lp_callC (as := []) (Q' := fun I J => AQ (aParts w h bd) ((t, (w, h, last), bd, ps, f, z))) (v := .int (aParts w h bd)) (s1' := (t, (w, h, last), bd, ps, f, z)) C0 dL_law_578 (tb_in 678 (by decide +kernel)) m_X5_parts rfl rfl (fun _ _ => rfl) (fun _ _ => rfl) rfl (Nat.le_of_ble_eq_true rfl) (fun I J hR => sp_X5_parts (d := 8) (show RepC t w h last bd ps f z I J from hR)) (fun _ _ _ _ _ _ q => aq_d q) ?_
  refine lp_a2 C0 dL_law_581 ?_
  refine lp_callM (as := []) (Q' := fun I J => AM (aParts w h bd) ((t, (w, h, last), bd, ps, f, z))) (v := .int (aParts w h bd)) (s1' := (t, (w, h, last), bd, ps, f, z)) C0 dL_law_582 (tb_in 1016 (by decide +kernel)) m_X6_parts rfl rfl (fun _ _ => rfl) (fun _ _ => rfl) rfl (Nat.le_of_ble_eq_true rfl) (fun I J hR => sp_X6_parts (d := 6) (show RepM t w h last bd ps f z I J from hR)) (fun _ _ _ _ _ _ q => am_d q) ?_
  exact lp_eq (tgt := 861) C0 dL_law_585 (by decide) (h0 _ (tk))
set_option maxHeartbeats 16000000 in
theorem ca_part (C0 : LA p s m meth c b L xs G cA A1 A2 fm) (hL : L ≤ 2048) (hi : i + 3 < L) {t : List Nat} {w h last : Nat} {bd : Bd} {ps : List Bd} {f : Nat → Option Bd} {z : Int64} (tk : TkS (t, (w, h, last), bd, ps, f, z)) (h0 : ∀ sg : Sg, TkS sg → LWP l p e s m below meth c b G cA A1 A2 861 i [] sg sg) : LWP l p e s m below meth c b G cA A1 A2 590 i [] (t, (w, h, last), bd, ps, f, z) (t, (w, h, last), bd, ps, f, z) := by
  refine lp_a1 C0 dL_law_590 ?_
  refine lp_a0 C0 dL_law_591 ?_
  refine lp_i3 C0 dL_law_592 ?_
  refine lp_ic (v := nI 1) C0 dL_law_593 (by decide +kernel) ?_
  refine lp_iadd (v := nI (i + 1)) C0 dL_law_594 (nI_add i 1) ?_
  refine lp_sld (j := i + 1) C0 hL (by omega) dL_law_595 ?_
  refine lp_callC (as := [.int (xs (i + 1))]) (Q' := fun I J => AQ (aPart w h bd (xs (i + 1))) ((t, (w, h, last), bd, ps, f, z))) (v := .int (aPart w h bd (xs (i + 1)))) (s1' := (t, (w, h, last), bd, ps, f, z)) C0 dL_law_596 (tb_in 698 (by decide +kernel)) m_X5_part rfl rfl (fun _ _ => rfl) (fun _ _ => rfl) rfl (Nat.le_of_ble_eq_true rfl) (fun I J hR => sp_X5_part (d := 8) (show RepC t w h last bd ps f z I J from hR)) (fun _ _ _ _ _ _ q => aq_d q) ?_
  refine lp_a2 C0 dL_law_599 ?_
  refine lp_a0 C0 dL_law_600 ?_
  refine lp_i3 C0 dL_law_601 ?_
  refine lp_ic (v := nI 1) C0 dL_law_602 (by decide +kernel) ?_
  refine lp_iadd (v := nI (i + 1)) C0 dL_law_603 (nI_add i 1) ?_
  refine lp_sld (j := i + 1) C0 hL (by omega) dL_law_604 ?_
  refine lp_callM (as := [.int (xs (i + 1))]) (Q' := fun I J => AM (aPart w h bd (xs (i + 1))) ((t, (w, h, last), bd, ps, f, z))) (v := .int (aPart w h bd (xs (i + 1)))) (s1' := (t, (w, h, last), bd, ps, f, z)) C0 dL_law_605 (tb_in 1028 (by decide +kernel)) m_X6_part rfl rfl (fun _ _ => rfl) (fun _ _ => rfl) rfl (Nat.le_of_ble_eq_true rfl) (fun I J hR => sp_X6_part (d := 6) (show RepM t w h last bd ps f z I J from hR)) (fun _ _ _ _ _ _ q => am_d q) ?_
  exact lp_eq (tgt := 861) C0 dL_law_608 (by decide) (h0 _ (tk))
set_option maxHeartbeats 16000000 in
theorem ca_comes (C0 : LA p s m meth c b L xs G cA A1 A2 fm) (hL : L ≤ 2048) (hi : i + 3 < L) {t : List Nat} {w h last : Nat} {bd : Bd} {ps : List Bd} {f : Nat → Option Bd} {z : Int64} (tk : TkS (t, (w, h, last), bd, ps, f, z)) (h0 : ∀ sg : Sg, TkS sg → LWP l p e s m below meth c b G cA A1 A2 861 i [] sg sg) : LWP l p e s m below meth c b G cA A1 A2 613 i [] (t, (w, h, last), bd, ps, f, z) (t, (w, h, last), bd, ps, f, z) := by
  refine lp_a1 C0 dL_law_613 ?_
  refine lp_a0 C0 dL_law_614 ?_
  refine lp_i3 C0 dL_law_615 ?_
  refine lp_ic (v := nI 1) C0 dL_law_616 (by decide +kernel) ?_
  refine lp_iadd (v := nI (i + 1)) C0 dL_law_617 (nI_add i 1) ?_
  refine lp_sld (j := i + 1) C0 hL (by omega) dL_law_618 ?_
  refine lp_callC (as := [.int (xs (i + 1))]) (Q' := fun I J => AQ (aComes w h bd (xs (i + 1))) ((t, (w, h, last), bd, ps, f, z))) (v := .int (aComes w h bd (xs (i + 1)))) (s1' := (t, (w, h, last), bd, ps, f, z)) C0 dL_law_619 (tb_in 702 (by decide +kernel)) m_X5_comes rfl rfl (fun _ _ => rfl) (fun _ _ => rfl) rfl (Nat.le_of_ble_eq_true rfl) (fun I J hR => sp_X5_comes (d := 8) (show RepC t w h last bd ps f z I J from hR)) (fun _ _ _ _ _ _ q => aq_d q) ?_
  refine lp_a2 C0 dL_law_622 ?_
  refine lp_a0 C0 dL_law_623 ?_
  refine lp_i3 C0 dL_law_624 ?_
  refine lp_ic (v := nI 1) C0 dL_law_625 (by decide +kernel) ?_
  refine lp_iadd (v := nI (i + 1)) C0 dL_law_626 (nI_add i 1) ?_
  refine lp_sld (j := i + 1) C0 hL (by omega) dL_law_627 ?_
  refine lp_callM (as := [.int (xs (i + 1))]) (Q' := fun I J => AM (aComes w h bd (xs (i + 1))) ((t, (w, h, last), bd, ps, f, z))) (v := .int (aComes w h bd (xs (i + 1)))) (s1' := (t, (w, h, last), bd, ps, f, z)) C0 dL_law_628 (tb_in 1032 (by decide +kernel)) m_X6_comes rfl rfl (fun _ _ => rfl) (fun _ _ => rfl) rfl (Nat.le_of_ble_eq_true rfl) (fun I J hR => sp_X6_comes (d := 6) (show RepM t w h last bd ps f z I J from hR)) (fun _ _ _ _ _ _ q => am_d q) ?_
  exact lp_eq (tgt := 861) C0 dL_law_631 (by decide) (h0 _ (tk))
set_option maxHeartbeats 16000000 in
theorem ca_comesAt (C0 : LA p s m meth c b L xs G cA A1 A2 fm) (hL : L ≤ 2048) (hi : i + 3 < L) {t : List Nat} {w h last : Nat} {bd : Bd} {ps : List Bd} {f : Nat → Option Bd} {z : Int64} (tk : TkS (t, (w, h, last), bd, ps, f, z)) (h0 : ∀ sg : Sg, TkS sg → LWP l p e s m below meth c b G cA A1 A2 861 i [] sg sg) : LWP l p e s m below meth c b G cA A1 A2 636 i [] (t, (w, h, last), bd, ps, f, z) (t, (w, h, last), bd, ps, f, z) := by
  refine lp_a1 C0 dL_law_636 ?_
  refine lp_a0 C0 dL_law_637 ?_
  refine lp_i3 C0 dL_law_638 ?_
  refine lp_ic (v := nI 1) C0 dL_law_639 (by decide +kernel) ?_
  refine lp_iadd (v := nI (i + 1)) C0 dL_law_640 (nI_add i 1) ?_
  refine lp_sld (j := i + 1) C0 hL (by omega) dL_law_641 ?_
  refine lp_a0 C0 dL_law_642 ?_
  refine lp_i3 C0 dL_law_643 ?_
  refine lp_ic (v := nI 2) C0 dL_law_644 (by decide +kernel) ?_
  refine lp_iadd (v := nI (i + 2)) C0 dL_law_645 (nI_add i 2) ?_
  refine lp_sld (j := i + 2) C0 hL (by omega) dL_law_646 ?_
  refine lp_callC (as := [.int (xs (i + 1)), .int (xs (i + 2))]) (Q' := fun I J => AQ (aComesAt w h bd (xs (i + 1)) (xs (i + 2))) ((t, (w, h, last), bd, ps, f, z))) (v := .int (aComesAt w h bd (xs (i + 1)) (xs (i + 2)))) (s1' := (t, (w, h, last), bd, ps, f, z)) C0 dL_law_647 (tb_in 712 (by decide +kernel)) m_X5_comesAt rfl rfl (fun _ _ => rfl) (fun _ _ => rfl) rfl (Nat.le_of_ble_eq_true rfl) (fun I J hR => sp_X5_comesAt (d := 6) (show RepC t w h last bd ps f z I J from hR)) (fun _ _ _ _ _ _ q => aq_d q) ?_
  refine lp_a2 C0 dL_law_650 ?_
  refine lp_a0 C0 dL_law_651 ?_
  refine lp_i3 C0 dL_law_652 ?_
  refine lp_ic (v := nI 1) C0 dL_law_653 (by decide +kernel) ?_
  refine lp_iadd (v := nI (i + 1)) C0 dL_law_654 (nI_add i 1) ?_
  refine lp_sld (j := i + 1) C0 hL (by omega) dL_law_655 ?_
  refine lp_a0 C0 dL_law_656 ?_
  refine lp_i3 C0 dL_law_657 ?_
  refine lp_ic (v := nI 2) C0 dL_law_658 (by decide +kernel) ?_
  refine lp_iadd (v := nI (i + 2)) C0 dL_law_659 (nI_add i 2) ?_
  refine lp_sld (j := i + 2) C0 hL (by omega) dL_law_660 ?_
  refine lp_callM (as := [.int (xs (i + 1)), .int (xs (i + 2))]) (Q' := fun I J => AM (aComesAt w h bd (xs (i + 1)) (xs (i + 2))) ((t, (w, h, last), bd, ps, f, z))) (v := .int (aComesAt w h bd (xs (i + 1)) (xs (i + 2)))) (s1' := (t, (w, h, last), bd, ps, f, z)) C0 dL_law_661 (tb_in 1040 (by decide +kernel)) m_X6_comesAt rfl rfl (fun _ _ => rfl) (fun _ _ => rfl) rfl (Nat.le_of_ble_eq_true rfl) (fun I J hR => sp_X6_comesAt (d := 5) (show RepM t w h last bd ps f z I J from hR)) (fun _ _ _ _ _ _ q => am_d q) ?_
  exact lp_eq (tgt := 861) C0 dL_law_664 (by decide) (h0 _ (tk))
set_option maxHeartbeats 16000000 in
theorem ca_shut (C0 : LA p s m meth c b L xs G cA A1 A2 fm) (hL : L ≤ 2048) (hi : i + 3 < L) {t : List Nat} {w h last : Nat} {bd : Bd} {ps : List Bd} {f : Nat → Option Bd} {z : Int64} (tk : TkS (t, (w, h, last), bd, ps, f, z)) (h0 : ∀ sg : Sg, TkS sg → LWP l p e s m below meth c b G cA A1 A2 861 i [] sg sg) : LWP l p e s m below meth c b G cA A1 A2 669 i [] (t, (w, h, last), bd, ps, f, z) (t, (w, h, last), bd, ps, f, z) := by
  refine lp_a1 C0 dL_law_669 ?_
  refine lp_callC (as := []) (Q' := fun I J => AQ (aShut w h bd) ((t, (w, h, last), bd, ps, f, z))) (v := .int (aShut w h bd)) (s1' := (t, (w, h, last), bd, ps, f, z)) C0 dL_law_670 (tb_in 726 (by decide +kernel)) m_X5_shut rfl rfl (fun _ _ => rfl) (fun _ _ => rfl) rfl (Nat.le_of_ble_eq_true rfl) (fun I J hR => sp_X5_shut (d := 6) (show RepC t w h last bd ps f z I J from hR)) (fun _ _ _ _ _ _ q => aq_d q) ?_
  refine lp_a2 C0 dL_law_673 ?_
  refine lp_callM (as := []) (Q' := fun I J => AM (aShut w h bd) ((t, (w, h, last), bd, ps, f, z))) (v := .int (aShut w h bd)) (s1' := (t, (w, h, last), bd, ps, f, z)) C0 dL_law_674 (tb_in 1052 (by decide +kernel)) m_X6_shut rfl rfl (fun _ _ => rfl) (fun _ _ => rfl) rfl (Nat.le_of_ble_eq_true rfl) (fun I J hR => sp_X6_shut (d := 5) (show RepM t w h last bd ps f z I J from hR)) (fun _ _ _ _ _ _ q => am_d q) ?_
  exact lp_eq (tgt := 861) C0 dL_law_677 (by decide) (h0 _ (tk))
set_option maxHeartbeats 16000000 in
theorem ca_ways (C0 : LA p s m meth c b L xs G cA A1 A2 fm) (hL : L ≤ 2048) (hi : i + 3 < L) {t : List Nat} {w h last : Nat} {bd : Bd} {ps : List Bd} {f : Nat → Option Bd} {z : Int64} (tk : TkS (t, (w, h, last), bd, ps, f, z)) (h0 : ∀ sg : Sg, TkS sg → LWP l p e s m below meth c b G cA A1 A2 861 i [] sg sg) : LWP l p e s m below meth c b G cA A1 A2 682 i [] (t, (w, h, last), bd, ps, f, z) (t, (w, h, last), bd, ps, f, z) := by
  refine lp_a1 C0 dL_law_682 ?_
  refine lp_a0 C0 dL_law_683 ?_
  refine lp_i3 C0 dL_law_684 ?_
  refine lp_ic (v := nI 1) C0 dL_law_685 (by decide +kernel) ?_
  refine lp_iadd (v := nI (i + 1)) C0 dL_law_686 (nI_add i 1) ?_
  refine lp_sld (j := i + 1) C0 hL (by omega) dL_law_687 ?_
  refine lp_a0 C0 dL_law_688 ?_
  refine lp_i3 C0 dL_law_689 ?_
  refine lp_ic (v := nI 2) C0 dL_law_690 (by decide +kernel) ?_
  refine lp_iadd (v := nI (i + 2)) C0 dL_law_691 (nI_add i 2) ?_
  refine lp_sld (j := i + 2) C0 hL (by omega) dL_law_692 ?_
  refine lp_callC (as := [.int (xs (i + 1)), .int (xs (i + 2))]) (Q' := fun I J => AQ (aWays w h last bd f (xs (i + 1)) (xs (i + 2))) ((t, (w, h, last), bd, ps, f, z))) (v := .int (aWays w h last bd f (xs (i + 1)) (xs (i + 2)))) (s1' := (t, (w, h, last), bd, ps, f, z)) C0 dL_law_693 (tb_in 730 (by decide +kernel)) m_X5_ways rfl rfl (fun _ _ => rfl) (fun _ _ => rfl) rfl (Nat.le_of_ble_eq_true rfl) (fun I J hR => sp_X5_ways (d := 4) (show RepC t w h last bd ps f z I J from hR)) (fun _ _ _ _ _ _ q => aq_d q) ?_
  refine lp_a2 C0 dL_law_696 ?_
  refine lp_a0 C0 dL_law_697 ?_
  refine lp_i3 C0 dL_law_698 ?_
  refine lp_ic (v := nI 1) C0 dL_law_699 (by decide +kernel) ?_
  refine lp_iadd (v := nI (i + 1)) C0 dL_law_700 (nI_add i 1) ?_
  refine lp_sld (j := i + 1) C0 hL (by omega) dL_law_701 ?_
  refine lp_a0 C0 dL_law_702 ?_
  refine lp_i3 C0 dL_law_703 ?_
  refine lp_ic (v := nI 2) C0 dL_law_704 (by decide +kernel) ?_
  refine lp_iadd (v := nI (i + 2)) C0 dL_law_705 (nI_add i 2) ?_
  refine lp_sld (j := i + 2) C0 hL (by omega) dL_law_706 ?_
  refine lp_callM (as := [.int (xs (i + 1)), .int (xs (i + 2))]) (Q' := fun I J => AM (aWays w h last bd f (xs (i + 1)) (xs (i + 2))) ((t, (w, h, last), bd, ps, f, z))) (v := .int (aWays w h last bd f (xs (i + 1)) (xs (i + 2)))) (s1' := (t, (w, h, last), bd, ps, f, z)) C0 dL_law_707 (tb_in 1056 (by decide +kernel)) m_X6_ways rfl rfl (fun _ _ => rfl) (fun _ _ => rfl) rfl (Nat.le_of_ble_eq_true rfl) (fun I J hR => by
    have hM : RepM t w h last bd ps f z I J := hR
    have hc := sp_X6_ways (d := 3) (x := (xs (i + 1))) (y := (xs (i + 2))) hM
    rw [aWays_eq (RepM_16 hM).2 hM.1 hM.2.2.2.1.2 tk.1 hM.2.2.2.2.2.1.2] at hc
    exact hc) (fun _ _ _ _ _ _ q => am_d q) ?_
  exact lp_eq (tgt := 861) C0 dL_law_710 (by decide) (h0 _ (tk))
set_option maxHeartbeats 16000000 in
theorem ca_seed (C0 : LA p s m meth c b L xs G cA A1 A2 fm) (hL : L ≤ 2048) (hi : i + 3 < L) {t : List Nat} {w h last : Nat} {bd : Bd} {ps : List Bd} {f : Nat → Option Bd} {z : Int64} (tk : TkS (t, (w, h, last), bd, ps, f, z)) (h0 : ∀ sg : Sg, TkS sg → LWP l p e s m below meth c b G cA A1 A2 861 i [] sg sg) : LWP l p e s m below meth c b G cA A1 A2 715 i [] (t, (w, h, last), bd, ps, f, z) (t, (w, h, last), bd, ps, f, z) := by
  obtain ⟨vv, hvv⟩ : ∃ vv : Int64, ((xs (i + 1)).toInt64 <<< ((nI 32).toInt64 &&& 63) ||| ((xs (i + 2)).toInt64 &&& 4294967295)) = vv := ⟨_, rfl⟩
  refine lp_a1 C0 dL_law_715 ?_
  refine lp_a0 C0 dL_law_716 ?_
  refine lp_i3 C0 dL_law_717 ?_
  refine lp_ic (v := nI 1) C0 dL_law_718 (by decide +kernel) ?_
  refine lp_iadd (v := nI (i + 1)) C0 dL_law_719 (nI_add i 1) ?_
  refine lp_sld (j := i + 1) C0 hL (by omega) dL_law_720 ?_
  refine lp_i2l C0 dL_law_721 ?_
  refine lp_bip (v := nI 32) C0 dL_law_722 (by decide +kernel) ?_
  refine lp_lshl C0 dL_law_724 ?_
  refine lp_a0 C0 dL_law_725 ?_
  refine lp_i3 C0 dL_law_726 ?_
  refine lp_ic (v := nI 2) C0 dL_law_727 (by decide +kernel) ?_
  refine lp_iadd (v := nI (i + 2)) C0 dL_law_728 (nI_add i 2) ?_
  refine lp_sld (j := i + 2) C0 hL (by omega) dL_law_729 ?_
  refine lp_i2l C0 dL_law_730 ?_
  refine lp_ldc2 (v := 4294967295) C0 dL_law_731 (tb_in 1104 (by decide +kernel)) ?_
  refine lp_land C0 dL_law_734 ?_
  refine lp_lor C0 dL_law_735 hvv ?_
  refine lp_callC (as := [.long vv]) (Q' := fun I J => AL (z) ((t, (w, h, last), bd, ps, f, vv))) (v := .long (z)) (s1' := (t, (w, h, last), bd, ps, f, vv)) C0 dL_law_736 (tb_in 757 (by decide +kernel)) m_X5_seed rfl rfl (fun _ _ => rfl) (fun _ _ => rfl) rfl (Nat.le_of_ble_eq_true rfl) (fun I J hR => sp_X5_seed (d := 12) (show RepC t w h last bd ps f z I J from hR)) (fun _ _ _ _ _ _ q => q) ?_
  refine lp_a2 C0 dL_law_739 ?_
  refine lp_a0 C0 dL_law_740 ?_
  refine lp_i3 C0 dL_law_741 ?_
  refine lp_ic (v := nI 1) C0 dL_law_742 (by decide +kernel) ?_
  refine lp_iadd (v := nI (i + 1)) C0 dL_law_743 (nI_add i 1) ?_
  refine lp_sld (j := i + 1) C0 hL (by omega) dL_law_744 ?_
  refine lp_i2l C0 dL_law_745 ?_
  refine lp_bip (v := nI 32) C0 dL_law_746 (by decide +kernel) ?_
  refine lp_lshl C0 dL_law_748 ?_
  refine lp_a0 C0 dL_law_749 ?_
  refine lp_i3 C0 dL_law_750 ?_
  refine lp_ic (v := nI 2) C0 dL_law_751 (by decide +kernel) ?_
  refine lp_iadd (v := nI (i + 2)) C0 dL_law_752 (nI_add i 2) ?_
  refine lp_sld (j := i + 2) C0 hL (by omega) dL_law_753 ?_
  refine lp_i2l C0 dL_law_754 ?_
  refine lp_ldc2 (v := 4294967295) C0 dL_law_755 (tb_in 1104 (by decide +kernel)) ?_
  refine lp_land C0 dL_law_758 ?_
  refine lp_lor C0 dL_law_759 hvv ?_
  refine lp_callM (as := [.long vv]) (Q' := fun I J => AML (z) ((t, (w, h, last), bd, ps, f, vv))) (v := .long (z)) (s1' := (t, (w, h, last), bd, ps, f, vv)) C0 dL_law_760 (tb_in 1073 (by decide +kernel)) m_X6_seed rfl rfl (fun _ _ => rfl) (fun _ _ => rfl) rfl (Nat.le_of_ble_eq_true rfl) (fun I J hR => sp_X6_seed (d := 12) (show RepM t w h last bd ps f z I J from hR)) (fun _ _ _ _ _ _ q => q) ?_
  exact lp_eqL (tgt := 861) C0 dL_law_763 dL_law_764 (by decide) (h0 _ (tk))
set_option maxHeartbeats 16000000 in
theorem ca_play (C0 : LA p s m meth c b L xs G cA A1 A2 fm) (hL : L ≤ 2048) (hi : i + 3 < L) {t : List Nat} {w h last : Nat} {bd : Bd} {ps : List Bd} {f : Nat → Option Bd} {z : Int64} (tk : TkS (t, (w, h, last), bd, ps, f, z)) (h0 : ∀ sg : Sg, TkS sg → LWP l p e s m below meth c b G cA A1 A2 861 i [] sg sg) : LWP l p e s m below meth c b G cA A1 A2 769 i [] (t, (w, h, last), bd, ps, f, z) (t, (w, h, last), bd, ps, f, z) := by
  refine lp_a1 C0 dL_law_769 ?_
  refine lp_a0 C0 dL_law_770 ?_
  refine lp_i3 C0 dL_law_771 ?_
  refine lp_ic (v := nI 1) C0 dL_law_772 (by decide +kernel) ?_
  refine lp_iadd (v := nI (i + 1)) C0 dL_law_773 (nI_add i 1) ?_
  refine lp_sld (j := i + 1) C0 hL (by omega) dL_law_774 ?_
  refine lp_callC (as := [.int (xs (i + 1))]) (Q' := fun I J => AQ (aPlay w h last bd z (xs (i + 1))) ((t, (w, h, last), bd, ps, f, zPlay w h last bd z (xs (i + 1))))) (v := .int (aPlay w h last bd z (xs (i + 1)))) (s1' := (t, (w, h, last), bd, ps, f, zPlay w h last bd z (xs (i + 1)))) C0 dL_law_775 (tb_in 761 (by decide +kernel)) m_X5_play rfl rfl (fun _ _ => rfl) (fun _ _ => rfl) rfl (Nat.le_of_ble_eq_true rfl) (fun I J hR => sp_X5_play (d := 6) (show RepC t w h last bd ps f z I J from hR)) (fun _ _ _ _ _ _ q => aq_d q) ?_
  refine lp_a2 C0 dL_law_778 ?_
  refine lp_a0 C0 dL_law_779 ?_
  refine lp_i3 C0 dL_law_780 ?_
  refine lp_ic (v := nI 1) C0 dL_law_781 (by decide +kernel) ?_
  refine lp_iadd (v := nI (i + 1)) C0 dL_law_782 (nI_add i 1) ?_
  refine lp_sld (j := i + 1) C0 hL (by omega) dL_law_783 ?_
  refine lp_callM (as := [.int (xs (i + 1))]) (Q' := fun I J => AM (aPlay w h last bd z (xs (i + 1))) ((t, (w, h, last), bd, ps, f, zPlay w h last bd z (xs (i + 1))))) (v := .int (aPlay w h last bd z (xs (i + 1)))) (s1' := (t, (w, h, last), bd, ps, f, zPlay w h last bd z (xs (i + 1)))) C0 dL_law_784 (tb_in 1077 (by decide +kernel)) m_X6_play rfl rfl (fun _ _ => rfl) (fun _ _ => rfl) rfl (Nat.le_of_ble_eq_true rfl) (fun I J hR => sp_X6_play (d := 5) (show RepM t w h last bd ps f z I J from hR)) (fun _ _ _ _ _ _ q => am_d q) ?_
  exact lp_eq (tgt := 861) C0 dL_law_787 (by decide) (h0 _ (tk))
set_option maxHeartbeats 16000000 in
theorem ca_keep (C0 : LA p s m meth c b L xs G cA A1 A2 fm) (hL : L ≤ 2048) (hi : i + 3 < L) {t : List Nat} {w h last : Nat} {bd : Bd} {ps : List Bd} {f : Nat → Option Bd} {z : Int64} (tk : TkS (t, (w, h, last), bd, ps, f, z)) (h0 : ∀ sg : Sg, TkS sg → LWP l p e s m below meth c b G cA A1 A2 861 i [] sg sg) : LWP l p e s m below meth c b G cA A1 A2 792 i [] (t, (w, h, last), bd, ps, f, z) (t, (w, h, last), bd, ps, f, z) := by
  refine lp_a1 C0 dL_law_792 ?_
  refine lp_a0 C0 dL_law_793 ?_
  refine lp_i3 C0 dL_law_794 ?_
  refine lp_ic (v := nI 1) C0 dL_law_795 (by decide +kernel) ?_
  refine lp_iadd (v := nI (i + 1)) C0 dL_law_796 (nI_add i 1) ?_
  refine lp_sld (j := i + 1) C0 hL (by omega) dL_law_797 ?_
  refine lp_callC (as := [.int (xs (i + 1))]) (Q' := fun I J => AQ (aKeep bd (xs (i + 1))) (sKeep (xs (i + 1)) (t, (w, h, last), bd, ps, f, z))) (v := .int (aKeep bd (xs (i + 1)))) (s1' := sKeep (xs (i + 1)) (t, (w, h, last), bd, ps, f, z)) C0 dL_law_798 (tb_in 771 (by decide +kernel)) m_X5_keep rfl rfl (fun _ _ => rfl) (fun _ _ => rfl) rfl (Nat.le_of_ble_eq_true rfl) (fun I J hR => sp_X5_keep (d := 10) (show RepC t w h last bd ps f z I J from hR)) (fun _ _ _ _ _ _ q => aq_d q) ?_
  refine lp_a2 C0 dL_law_801 ?_
  refine lp_a0 C0 dL_law_802 ?_
  refine lp_i3 C0 dL_law_803 ?_
  refine lp_ic (v := nI 1) C0 dL_law_804 (by decide +kernel) ?_
  refine lp_iadd (v := nI (i + 1)) C0 dL_law_805 (nI_add i 1) ?_
  refine lp_sld (j := i + 1) C0 hL (by omega) dL_law_806 ?_
  refine lp_callM (as := [.int (xs (i + 1))]) (Q' := fun I J => AM (aKeep bd (xs (i + 1))) (sKeep (xs (i + 1)) (t, (w, h, last), bd, ps, f, z))) (v := .int (aKeep bd (xs (i + 1)))) (s1' := sKeep (xs (i + 1)) (t, (w, h, last), bd, ps, f, z)) C0 dL_law_807 (tb_in 1088 (by decide +kernel)) m_X6_keep rfl rfl (fun _ _ => rfl) (fun _ _ => rfl) rfl (Nat.le_of_ble_eq_true rfl) (fun I J hR => sp_X6_keep (d := 10) (show RepM t w h last bd ps f z I J from hR)) (fun _ _ _ _ _ _ q => am_d q) ?_
  exact lp_eq (tgt := 861) C0 dL_law_810 (by decide) (h0 _ (tk_keep tk))
set_option maxHeartbeats 16000000 in
theorem ca_again (C0 : LA p s m meth c b L xs G cA A1 A2 fm) (hL : L ≤ 2048) (hi : i + 3 < L) {t : List Nat} {w h last : Nat} {bd : Bd} {ps : List Bd} {f : Nat → Option Bd} {z : Int64} (tk : TkS (t, (w, h, last), bd, ps, f, z)) (h0 : ∀ sg : Sg, TkS sg → LWP l p e s m below meth c b G cA A1 A2 861 i [] sg sg) : LWP l p e s m below meth c b G cA A1 A2 815 i [] (t, (w, h, last), bd, ps, f, z) (t, (w, h, last), bd, ps, f, z) := by
  refine lp_a1 C0 dL_law_815 ?_
  refine lp_a0 C0 dL_law_816 ?_
  refine lp_i3 C0 dL_law_817 ?_
  refine lp_ic (v := nI 1) C0 dL_law_818 (by decide +kernel) ?_
  refine lp_iadd (v := nI (i + 1)) C0 dL_law_819 (nI_add i 1) ?_
  refine lp_sld (j := i + 1) C0 hL (by omega) dL_law_820 ?_
  refine lp_callC (as := [.int (xs (i + 1))]) (Q' := fun I J => AQ (aAgain f (xs (i + 1))) (sAgain (xs (i + 1)) (t, (w, h, last), bd, ps, f, z))) (v := .int (aAgain f (xs (i + 1)))) (s1' := sAgain (xs (i + 1)) (t, (w, h, last), bd, ps, f, z)) C0 dL_law_821 (tb_in 776 (by decide +kernel)) m_X5_again rfl rfl (fun _ _ => rfl) (fun _ _ => rfl) rfl (Nat.le_of_ble_eq_true rfl) (fun I J hR => sp_X5_again (d := 8) (show RepC t w h last bd ps f z I J from hR)) (fun _ _ _ _ _ _ q => aq_d q) ?_
  refine lp_a2 C0 dL_law_824 ?_
  refine lp_a0 C0 dL_law_825 ?_
  refine lp_i3 C0 dL_law_826 ?_
  refine lp_ic (v := nI 1) C0 dL_law_827 (by decide +kernel) ?_
  refine lp_iadd (v := nI (i + 1)) C0 dL_law_828 (nI_add i 1) ?_
  refine lp_sld (j := i + 1) C0 hL (by omega) dL_law_829 ?_
  refine lp_callM (as := [.int (xs (i + 1))]) (Q' := fun I J => AM (aAgain f (xs (i + 1))) (sAgain (xs (i + 1)) (t, (w, h, last), bd, ps, f, z))) (v := .int (aAgain f (xs (i + 1)))) (s1' := sAgain (xs (i + 1)) (t, (w, h, last), bd, ps, f, z)) C0 dL_law_830 (tb_in 1092 (by decide +kernel)) m_X6_again rfl rfl (fun _ _ => rfl) (fun _ _ => rfl) rfl (Nat.le_of_ble_eq_true rfl) (fun I J hR => sp_X6_again (d := 10) (show RepM t w h last bd ps f z I J from hR)) (fun _ _ _ _ _ _ q => am_d q) ?_
  exact lp_eq (tgt := 861) C0 dL_law_833 (by decide) (h0 _ (tk_again tk))
set_option maxHeartbeats 16000000 in
theorem ca_count (C0 : LA p s m meth c b L xs G cA A1 A2 fm) (hL : L ≤ 2048) (hi : i + 3 < L) {t : List Nat} {w h last : Nat} {bd : Bd} {ps : List Bd} {f : Nat → Option Bd} {z : Int64} (tk : TkS (t, (w, h, last), bd, ps, f, z)) (h0 : ∀ sg : Sg, TkS sg → LWP l p e s m below meth c b G cA A1 A2 861 i [] sg sg) : LWP l p e s m below meth c b G cA A1 A2 838 i [] (t, (w, h, last), bd, ps, f, z) (t, (w, h, last), bd, ps, f, z) := by
  refine lp_a1 C0 dL_law_838 ?_
  refine lp_a0 C0 dL_law_839 ?_
  refine lp_i3 C0 dL_law_840 ?_
  refine lp_ic (v := nI 1) C0 dL_law_841 (by decide +kernel) ?_
  refine lp_iadd (v := nI (i + 1)) C0 dL_law_842 (nI_add i 1) ?_
  refine lp_sld (j := i + 1) C0 hL (by omega) dL_law_843 ?_
  refine lp_callC (as := [.int (xs (i + 1))]) (Q' := fun I J => AQ (aCount t w h last bd ps (xs (i + 1))) ((t, (w, h, last), bd, ps, f, z))) (v := .int (aCount t w h last bd ps (xs (i + 1)))) (s1' := (t, (w, h, last), bd, ps, f, z)) C0 dL_law_844 (tb_in 780 (by decide +kernel)) m_X5_count rfl rfl (fun _ _ => rfl) (fun _ _ => rfl) rfl (Nat.le_of_ble_eq_true rfl) (fun I J hR => sp_X5_count (d := 12) (show RepC t w h last bd ps f z I J from hR)) (fun _ _ _ _ _ _ q => aq_d q) ?_
  refine lp_a2 C0 dL_law_847 ?_
  refine lp_a0 C0 dL_law_848 ?_
  refine lp_i3 C0 dL_law_849 ?_
  refine lp_ic (v := nI 1) C0 dL_law_850 (by decide +kernel) ?_
  refine lp_iadd (v := nI (i + 1)) C0 dL_law_851 (nI_add i 1) ?_
  refine lp_sld (j := i + 1) C0 hL (by omega) dL_law_852 ?_
  refine lp_callM (as := [.int (xs (i + 1))]) (Q' := fun I J => AM (aCount t w h last bd ps (xs (i + 1))) ((t, (w, h, last), bd, ps, f, z))) (v := .int (aCount t w h last bd ps (xs (i + 1)))) (s1' := (t, (w, h, last), bd, ps, f, z)) C0 dL_law_853 (tb_in 1096 (by decide +kernel)) m_X6_count rfl rfl (fun _ _ => rfl) (fun _ _ => rfl) rfl (Nat.le_of_ble_eq_true rfl) (fun I J hR => sp_X6_count (d := 10) (show RepM t w h last bd ps f z I J from hR)) (fun _ _ _ _ _ _ q => am_d q) ?_
  exact lp_eq (tgt := 861) C0 dL_law_856 (by decide) (h0 _ (tk))
end LCA2
