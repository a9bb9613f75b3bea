/-! THE REFERENCE'S CALLS, 2: move, pass, undo, keep, again -/
/-- while level 0 is copied into a row -/
def CP2 (n A o c : Nat) (b : Bd) (I I2 : MemI) : Prop := (∀ j, j < c → j < 16 → I2 A (o + j) = nI (ccd n b.1 j) ∧ I2 A (o + 16 + j) = nI (b.2.1 j)) ∧ ∀ a i, ¬ (a = A ∧ o ≤ i ∧ i < o + 34) → I2 a i = I a i
theorem CP2_s {n A o c : Nat} {b : Bd} {I I2 : MemI} (h : CP2 n A o c b I I2) (hc : c < 16) : CP2 n A o (c + 1) b I (uI (uI I2 A (o + c) (nI (ccd n b.1 c))) A (o + 16 + c) (nI (b.2.1 c))) := by
  obtain ⟨h1, h2⟩ := h
  refine ⟨fun j z1 z2 => ?_, fun a i z => ?_⟩
  · show (if A = A ∧ o + j = o + 16 + c then _ else (if A = A ∧ o + j = o + c then _ else I2 A (o + j))) = _ ∧ (if A = A ∧ o + 16 + j = o + 16 + c then _ else (if A = A ∧ o + 16 + j = o + c then _ else I2 A (o + 16 + j))) = _
    rw [if_neg (by omega), if_neg (c := A = A ∧ o + 16 + j = o + c) (by omega)]
    by_cases e : j = c
    · rw [if_pos ⟨rfl, by omega⟩, if_pos ⟨rfl, by omega⟩, e]
      exact ⟨rfl, rfl⟩
    · rw [if_neg (by omega), if_neg (by omega)]
      exact h1 j (by omega) z2
  · rw [← h2 a i z]
    show (if a = A ∧ i = o + 16 + c then _ else (if a = A ∧ i = o + c then _ else I2 a i)) = I2 a i
    rw [if_neg (fun y => z ⟨y.1, by omega, by omega⟩), if_neg (fun y => z ⟨y.1, by omega, by omega⟩)]
/-- .. and the other way -/
def CP3 (n c : Nat) (b : Bd) (I I2 : MemI) : Prop := (∀ j, j < c → j < 16 → I2 1 j = nI (ccd n b.1 j) ∧ I2 2 j = nI (b.2.1 j)) ∧ ∀ a i, ¬ ((a = 1 ∨ a = 2) ∧ i < 16) → I2 a i = I a i
theorem CP3_s {n c : Nat} {b : Bd} {I I2 : MemI} (h : CP3 n c b I I2) (hc : c < 16) : CP3 n (c + 1) b I (uI (uI I2 1 c (nI (ccd n b.1 c))) 2 c (nI (b.2.1 c))) := by
  obtain ⟨h1, h2⟩ := h
  refine ⟨fun j z1 z2 => ?_, fun a i z => ?_⟩
  · by_cases e : j = c
    · subst e; simp [uI]
    · have := h1 j (by omega) z2
      simp [uI, e, this]
  · rw [← h2 a i z]
    show (if a = 2 ∧ i = c then _ else (if a = 1 ∧ i = c then _ else I2 a i)) = I2 a i
    rw [if_neg (fun y => z ⟨Or.inr y.1, by omega⟩), if_neg (fun y => z ⟨Or.inl y.1, by omega⟩)]
/-- level 0 after it was filled -/
theorem LX_0 {n : Nat} {b : Bd} {I I2 : MemI} {u v : Int32} (h : CP3 n 16 b I I2) (hu : u = nI b.2.2.1) (hv : v = lsI b.2.2.2) : LX n 0 b (uI (uI I2 3 0 u) 4 0 v) := by
  refine ⟨fun c hc => ?_, ?_, ?_⟩
  · rw [Nat.mul_zero, Nat.zero_add]
    exact h.1 c hc hc
  · show u = _; exact hu
  · show v = _; exact hv
section MCO
variable {d : Nat} {I : MemI} {J : MemJ} {t : List Nat} {w h last : Nat} {b : Bd} {ps : List Bd} {f : Nat → Option Bd} {z : Int64}
set_option maxHeartbeats 16000000 in
theorem sp_X6_keepPly {n nx m : Nat} {c : Bd} (hL : LX n 0 c I) (hnx : I 0 12 = nI nx) (hnx16 : nx < 16) (hm : I 0 11 = nI m) (hm16 : m ≤ 16) : CALL ΩM d kX6_keepPly [.ref 0] I J (VQ (fun I' J' => RW n 8 (34 * nx) c I' ∧ I' 0 12 = nI ((nx + 1) % 16) ∧ I' 0 11 = nI (if m < 16 then m + 1 else 16) ∧ (∀ a i, ¬ (a = 8 ∧ 34 * nx ≤ i ∧ i < 34 * nx + 34) → ¬ (a = 0 ∧ (i = 11 ∨ i = 12)) → I' a i = I a i) ∧ J' = J)) := by
  have loop : ∀ k j (I2 : MemI), k + j = 16 → CP2 n 8 (34 * nx) j c I I2 → WP ΩM d kX6_keepPly 2 [(0, .ref 0), (1, .int (nI j))] [] I2 J (VQ (fun I' J' => RW n 8 (34 * nx) c I' ∧ I' 0 12 = nI ((nx + 1) % 16) ∧ I' 0 11 = nI (if m < 16 then m + 1 else 16) ∧ (∀ a i, ¬ (a = 8 ∧ 34 * nx ≤ i ∧ i < 34 * nx + 34) → ¬ (a = 0 ∧ (i = 11 ∨ i = 12)) → I' a i = I a i) ∧ J' = J)) := by
    intro k
    induction k with
    | zero =>
      intro j I2 hj hcp
      have hj' : j = 16 := (Nat.zero_add j).symm.trans hj
      subst hj'
      have o0 : ∀ a i, ¬ a = 8 → I2 a i = I a i := fun a i y => hcp.2 a i (fun q => y q.1)
      have f12 : I2 0 12 = nI nx := by rw [o0 0 12 (by decide)]; exact hnx
      have f11 : I2 0 11 = nI m := by rw [o0 0 11 (by decide)]; exact hm
      have f3 : I2 3 0 = nI c.2.2.1 := by rw [o0 3 0 (by decide)]; exact hL.2.1
      have f4 : I2 4 0 = lsI c.2.2.2 := by rw [o0 4 0 (by decide)]; exact hL.2.2
      have g12 : ∀ i v, uI I2 8 i v 0 12 = nI nx := fun i v => f12
      have g4 : ∀ i v, uI I2 8 i v 4 0 = lsI c.2.2.2 := fun i v => f4
      have k12 : ∀ i v i' v', uI (uI I2 8 i v) 8 i' v' 0 12 = nI nx := fun i v i' v' => f12
      have k11 : ∀ i v i' v' u, uI (uI (uI I2 8 i v) 8 i' v') 0 12 u 0 11 = nI m := fun i v i' v' u => f11
      have hfin : ∀ q, RW n 8 (34 * nx) c (uI (uI (uI (uI I2 8 (34 * nx + 32) (nI c.2.2.1)) 8 (34 * nx + 33) (lsI c.2.2.2)) 0 12 (nI ((nx + 1) % 16))) 0 11 q) ∧ ∀ a i, ¬ (a = 8 ∧ 34 * nx ≤ i ∧ i < 34 * nx + 34) → ¬ (a = 0 ∧ (i = 11 ∨ i = 12)) → uI (uI (uI (uI I2 8 (34 * nx + 32) (nI c.2.2.1)) 8 (34 * nx + 33) (lsI c.2.2.2)) 0 12 (nI ((nx + 1) % 16))) 0 11 q a i = I a i := fun q => by
        refine ⟨⟨fun j hj => ?_, ?_, ?_⟩, fun a i z1 z2 => ?_⟩
        · have := hcp.1 j hj hj
          show (if 8 = 8 ∧ 34 * nx + j = 34 * nx + 33 then _ else (if 8 = 8 ∧ 34 * nx + j = 34 * nx + 32 then _ else I2 8 (34 * nx + j))) = _ ∧ (if 8 = 8 ∧ 34 * nx + 16 + j = 34 * nx + 33 then _ else (if 8 = 8 ∧ 34 * nx + 16 + j = 34 * nx + 32 then _ else I2 8 (34 * nx + 16 + j))) = _
          rw [if_neg (by omega), if_neg (by omega), if_neg (by omega), if_neg (by omega)]
          exact this
        · show (if 8 = 8 ∧ 34 * nx + 32 = 34 * nx + 33 then _ else (if 8 = 8 ∧ 34 * nx + 32 = 34 * nx + 32 then _ else _)) = _
          rw [if_neg (by omega), if_pos ⟨rfl, rfl⟩]
        · show (if 8 = 8 ∧ 34 * nx + 33 = 34 * nx + 33 then _ else _) = _
          rw [if_pos ⟨rfl, rfl⟩]
        · rw [← hcp.2 a i z1]
          show (if a = 0 ∧ i = 11 then _ else (if a = 0 ∧ i = 12 then _ else (if a = 8 ∧ i = 34 * nx + 33 then _ else (if a = 8 ∧ i = 34 * nx + 32 then _ else I2 a i)))) = I2 a i
          rw [if_neg (fun y => z2 ⟨y.1, Or.inl y.2⟩), if_neg (fun y => z2 ⟨y.1, Or.inr y.2⟩), if_neg (fun y => z1 ⟨y.1, by omega, by omega⟩), if_neg (fun y => z1 ⟨y.1, by omega, by omega⟩)]
      by_cases hm2 : m < 16
      · rw [if_pos hm2]
        refine wp_iload_n (pc := 2) (i := 1) dX6_keepPly_2 rfl rfl ?_
        refine wp_bipush (pc := 3) (v := nI 16) dX6_keepPly_3 (by decide +kernel) ?_
        first | (refine wp_icmp_geN (pc := 5) (tgt := 57) dX6_keepPly_5 (by decide) (by first | with_reducible assumption | omega) (by first | with_reducible assumption | omega) (fun c_5 => ?_) (fun c_5 => ?_)) | (refine wp_icmp_ge (pc := 5) (tgt := 57) dX6_keepPly_5 (by decide) (fun c_5 => ?_) (fun c_5 => ?_))
        · refine wp_aload_n (pc := 57) (i := 0) dX6_keepPly_57 rfl rfl (by first | with_reducible assumption | rfl) ?_
          refine wp_getR (pc := 58) dX6_keepPly_58 lf_X6_31 (by first | with_reducible assumption | rfl) (by first | with_reducible assumption | rfl) rfl (by first | with_reducible assumption | rfl) (by first | with_reducible assumption | rfl) ?_
          refine wp_bipush (pc := 61) (v := nI 34) dX6_keepPly_61 (by decide +kernel) ?_
          refine wp_aload_n (pc := 63) (i := 0) dX6_keepPly_63 rfl rfl (by first | with_reducible assumption | rfl) ?_
          refine wp_getI (pc := 64) dX6_keepPly_64 lf_X6_133 (by first | with_reducible assumption | rfl) (by first | with_reducible assumption | rfl) rfl ?_
          rw [f12]
          first | (refine wp_imulN (pc := 67) dX6_keepPly_67 ?_) | (refine wp_imul (pc := 67) dX6_keepPly_67 ?_)
          refine wp_bipush (pc := 68) (v := nI 32) dX6_keepPly_68 (by decide +kernel) ?_
          first | (refine wp_iaddN (pc := 70) dX6_keepPly_70 ?_) | (refine wp_iadd (pc := 70) dX6_keepPly_70 ?_)
          refine wp_aload_n (pc := 71) (i := 0) dX6_keepPly_71 rfl rfl (by first | with_reducible assumption | rfl) ?_
          refine wp_getR (pc := 72) dX6_keepPly_72 lf_X6_16 (by first | with_reducible assumption | rfl) (by first | with_reducible assumption | rfl) rfl (by first | with_reducible assumption | rfl) (by first | with_reducible assumption | rfl) ?_
          refine wp_iconst (pc := 75) (v := nI 0) dX6_keepPly_75 (by decide +kernel) ?_
          refine wp_iald (pc := 76) dX6_keepPly_76 (by first | with_reducible assumption | rfl) (by first | with_reducible assumption | rfl) (by first | with_reducible assumption | omega) (by first | decide | omega) ?_
          rw [f3]
          refine wp_iast (pc := 77) dX6_keepPly_77 (by first | with_reducible assumption | rfl) (by first | with_reducible assumption | rfl) (by first | with_reducible assumption | omega) (by first | decide | omega) ?_
          refine wp_aload_n (pc := 78) (i := 0) dX6_keepPly_78 rfl rfl (by first | with_reducible assumption | rfl) ?_
          refine wp_getR (pc := 79) dX6_keepPly_79 lf_X6_31 (by first | with_reducible assumption | rfl) (by first | with_reducible assumption | rfl) rfl (by first | with_reducible assumption | rfl) (by first | with_reducible assumption | rfl) ?_
          refine wp_bipush (pc := 82) (v := nI 34) dX6_keepPly_82 (by decide +kernel) ?_
          refine wp_aload_n (pc := 84) (i := 0) dX6_keepPly_84 rfl rfl (by first | with_reducible assumption | rfl) ?_
          refine wp_getI (pc := 85) dX6_keepPly_85 lf_X6_133 (by first | with_reducible assumption | rfl) (by first | with_reducible assumption | rfl) rfl ?_
          rw [g12]
          first | (refine wp_imulN (pc := 88) dX6_keepPly_88 ?_) | (refine wp_imul (pc := 88) dX6_keepPly_88 ?_)
          refine wp_bipush (pc := 89) (v := nI 33) dX6_keepPly_89 (by decide +kernel) ?_
          first | (refine wp_iaddN (pc := 91) dX6_keepPly_91 ?_) | (refine wp_iadd (pc := 91) dX6_keepPly_91 ?_)
          refine wp_aload_n (pc := 92) (i := 0) dX6_keepPly_92 rfl rfl (by first | with_reducible assumption | rfl) ?_
          refine wp_getR (pc := 93) dX6_keepPly_93 lf_X6_19 (by first | with_reducible assumption | rfl) (by first | with_reducible assumption | rfl) rfl (by first | with_reducible assumption | rfl) (by first | with_reducible assumption | rfl) ?_
          refine wp_iconst (pc := 96) (v := nI 0) dX6_keepPly_96 (by decide +kernel) ?_
          refine wp_iald (pc := 97) dX6_keepPly_97 (by first | with_reducible assumption | rfl) (by first | with_reducible assumption | rfl) (by first | with_reducible assumption | omega) (by first | decide | omega) ?_
          rw [g4]
          refine wp_iast (pc := 98) dX6_keepPly_98 (by first | with_reducible assumption | rfl) (by first | with_reducible assumption | rfl) (by first | with_reducible assumption | omega) (by first | decide | omega) ?_
          refine wp_aload_n (pc := 99) (i := 0) dX6_keepPly_99 rfl rfl (by first | with_reducible assumption | rfl) ?_
          refine wp_aload_n (pc := 100) (i := 0) dX6_keepPly_100 rfl rfl (by first | with_reducible assumption | rfl) ?_
          refine wp_getI (pc := 101) dX6_keepPly_101 lf_X6_133 (by first | with_reducible assumption | rfl) (by first | with_reducible assumption | rfl) rfl ?_
          rw [k12]
          refine wp_iconst (pc := 104) (v := nI 1) dX6_keepPly_104 (by decide +kernel) ?_
          first | (refine wp_iaddN (pc := 105) dX6_keepPly_105 ?_) | (refine wp_iadd (pc := 105) dX6_keepPly_105 ?_)
          refine wp_bipush (pc := 106) (v := nI 16) dX6_keepPly_106 (by decide +kernel) ?_
          refine wp_iremN (pc := 108) dX6_keepPly_108 (by first | with_reducible assumption | omega) (by first | with_reducible assumption | omega) (by first | with_reducible assumption | omega) ?_
          refine wp_putI (pc := 109) dX6_keepPly_109 lf_X6_133 (by first | with_reducible assumption | rfl) (by first | with_reducible assumption | rfl) rfl rfl ?_
          refine wp_aload_n (pc := 112) (i := 0) dX6_keepPly_112 rfl rfl (by first | with_reducible assumption | rfl) ?_
          refine wp_aload_n (pc := 113) (i := 0) dX6_keepPly_113 rfl rfl (by first | with_reducible assumption | rfl) ?_
          refine wp_getI (pc := 114) dX6_keepPly_114 lf_X6_91 (by first | with_reducible assumption | rfl) (by first | with_reducible assumption | rfl) rfl ?_
          rw [k11]
          refine wp_bipush (pc := 117) (v := nI 16) dX6_keepPly_117 (by decide +kernel) ?_
          first | (refine wp_icmp_geN (pc := 119) (tgt := 131) dX6_keepPly_119 (by decide) (by first | with_reducible assumption | omega) (by first | with_reducible assumption | omega) (fun c_119 => ?_) (fun c_119 => ?_)) | (refine wp_icmp_ge (pc := 119) (tgt := 131) dX6_keepPly_119 (by decide) (fun c_119 => ?_) (fun c_119 => ?_))
          · exact absurd c_119 (by omega)
          · refine wp_aload_n (pc := 122) (i := 0) dX6_keepPly_122 rfl rfl (by first | with_reducible assumption | rfl) ?_
            refine wp_getI (pc := 123) dX6_keepPly_123 lf_X6_91 (by first | with_reducible assumption | rfl) (by first | with_reducible assumption | rfl) rfl ?_
            rw [k11]
            refine wp_iconst (pc := 126) (v := nI 1) dX6_keepPly_126 (by decide +kernel) ?_
            first | (refine wp_iaddN (pc := 127) dX6_keepPly_127 ?_) | (refine wp_iadd (pc := 127) dX6_keepPly_127 ?_)
            refine wp_goto (pc := 128) (tgt := 133) dX6_keepPly_128 (by decide) ?_
            refine wp_putI (pc := 133) dX6_keepPly_133 lf_X6_91 (by first | with_reducible assumption | rfl) (by first | with_reducible assumption | rfl) rfl rfl ?_
            refine wp_return (pc := 136) dX6_keepPly_136 rfl ?_
            exact vq_i ⟨(hfin _).1, rfl, rfl, (hfin _).2, rfl⟩
        · exact absurd (Nat.le_refl 16) c_5
      · rw [if_neg hm2]
        refine wp_iload_n (pc := 2) (i := 1) dX6_keepPly_2 rfl rfl ?_
        refine wp_bipush (pc := 3) (v := nI 16) dX6_keepPly_3 (by decide +kernel) ?_
        first | (refine wp_icmp_geN (pc := 5) (tgt := 57) dX6_keepPly_5 (by decide) (by first | with_reducible assumption | omega) (by first | with_reducible assumption | omega) (fun c_5 => ?_) (fun c_5 => ?_)) | (refine wp_icmp_ge (pc := 5) (tgt := 57) dX6_keepPly_5 (by decide) (fun c_5 => ?_) (fun c_5 => ?_))
        · refine wp_aload_n (pc := 57) (i := 0) dX6_keepPly_57 rfl rfl (by first | with_reducible assumption | rfl) ?_
          refine wp_getR (pc := 58) dX6_keepPly_58 lf_X6_31 (by first | with_reducible assumption | rfl) (by first | with_reducible assumption | rfl) rfl (by first | with_reducible assumption | rfl) (by first | with_reducible assumption | rfl) ?_
          refine wp_bipush (pc := 61) (v := nI 34) dX6_keepPly_61 (by decide +kernel) ?_
          refine wp_aload_n (pc := 63) (i := 0) dX6_keepPly_63 rfl rfl (by first | with_reducible assumption | rfl) ?_
          refine wp_getI (pc := 64) dX6_keepPly_64 lf_X6_133 (by first | with_reducible assumption | rfl) (by first | with_reducible assumption | rfl) rfl ?_
          rw [f12]
          first | (refine wp_imulN (pc := 67) dX6_keepPly_67 ?_) | (refine wp_imul (pc := 67) dX6_keepPly_67 ?_)
          refine wp_bipush (pc := 68) (v := nI 32) dX6_keepPly_68 (by decide +kernel) ?_
          first | (refine wp_iaddN (pc := 70) dX6_keepPly_70 ?_) | (refine wp_iadd (pc := 70) dX6_keepPly_70 ?_)
          refine wp_aload_n (pc := 71) (i := 0) dX6_keepPly_71 rfl rfl (by first | with_reducible assumption | rfl) ?_
          refine wp_getR (pc := 72) dX6_keepPly_72 lf_X6_16 (by first | with_reducible assumption | rfl) (by first | with_reducible assumption | rfl) rfl (by first | with_reducible assumption | rfl) (by first | with_reducible assumption | rfl) ?_
          refine wp_iconst (pc := 75) (v := nI 0) dX6_keepPly_75 (by decide +kernel) ?_
          refine wp_iald (pc := 76) dX6_keepPly_76 (by first | with_reducible assumption | rfl) (by first | with_reducible assumption | rfl) (by first | with_reducible assumption | omega) (by first | decide | omega) ?_
          rw [f3]
          refine wp_iast (pc := 77) dX6_keepPly_77 (by first | with_reducible assumption | rfl) (by first | with_reducible assumption | rfl) (by first | with_reducible assumption | omega) (by first | decide | omega) ?_
          refine wp_aload_n (pc := 78) (i := 0) dX6_keepPly_78 rfl rfl (by first | with_reducible assumption | rfl) ?_
          refine wp_getR (pc := 79) dX6_keepPly_79 lf_X6_31 (by first | with_reducible assumption | rfl) (by first | with_reducible assumption | rfl) rfl (by first | with_reducible assumption | rfl) (by first | with_reducible assumption | rfl) ?_
          refine wp_bipush (pc := 82) (v := nI 34) dX6_keepPly_82 (by decide +kernel) ?_
          refine wp_aload_n (pc := 84) (i := 0) dX6_keepPly_84 rfl rfl (by first | with_reducible assumption | rfl) ?_
          refine wp_getI (pc := 85) dX6_keepPly_85 lf_X6_133 (by first | with_reducible assumption | rfl) (by first | with_reducible assumption | rfl) rfl ?_
          rw [g12]
          first | (refine wp_imulN (pc := 88) dX6_keepPly_88 ?_) | (refine wp_imul (pc := 88) dX6_keepPly_88 ?_)
          refine wp_bipush (pc := 89) (v := nI 33) dX6_keepPly_89 (by decide +kernel) ?_
          first | (refine wp_iaddN (pc := 91) dX6_keepPly_91 ?_) | (refine wp_iadd (pc := 91) dX6_keepPly_91 ?_)
          refine wp_aload_n (pc := 92) (i := 0) dX6_keepPly_92 rfl rfl (by first | with_reducible assumption | rfl) ?_
          refine wp_getR (pc := 93) dX6_keepPly_93 lf_X6_19 (by first | with_reducible assumption | rfl) (by first | with_reducible assumption | rfl) rfl (by first | with_reducible assumption | rfl) (by first | with_reducible assumption | rfl) ?_
          refine wp_iconst (pc := 96) (v := nI 0) dX6_keepPly_96 (by decide +kernel) ?_
          refine wp_iald (pc := 97) dX6_keepPly_97 (by first | with_reducible assumption | rfl) (by first | with_reducible assumption | rfl) (by first | with_reducible assumption | omega) (by first | decide | omega) ?_
          rw [g4]
          refine wp_iast (pc := 98) dX6_keepPly_98 (by first | with_reducible assumption | rfl) (by first | with_reducible assumption | rfl) (by first | with_reducible assumption | omega) (by first | decide | omega) ?_
          refine wp_aload_n (pc := 99) (i := 0) dX6_keepPly_99 rfl rfl (by first | with_reducible assumption | rfl) ?_
          refine wp_aload_n (pc := 100) (i := 0) dX6_keepPly_100 rfl rfl (by first | with_reducible assumption | rfl) ?_
          refine wp_getI (pc := 101) dX6_keepPly_101 lf_X6_133 (by first | with_reducible assumption | rfl) (by first | with_reducible assumption | rfl) rfl ?_
          rw [k12]
          refine wp_iconst (pc := 104) (v := nI 1) dX6_keepPly_104 (by decide +kernel) ?_
          first | (refine wp_iaddN (pc := 105) dX6_keepPly_105 ?_) | (refine wp_iadd (pc := 105) dX6_keepPly_105 ?_)
          refine wp_bipush (pc := 106) (v := nI 16) dX6_keepPly_106 (by decide +kernel) ?_
          refine wp_iremN (pc := 108) dX6_keepPly_108 (by first | with_reducible assumption | omega) (by first | with_reducible assumption | omega) (by first | with_reducible assumption | omega) ?_
          refine wp_putI (pc := 109) dX6_keepPly_109 lf_X6_133 (by first | with_reducible assumption | rfl) (by first | with_reducible assumption | rfl) rfl rfl ?_
          refine wp_aload_n (pc := 112) (i := 0) dX6_keepPly_112 rfl rfl (by first | with_reducible assumption | rfl) ?_
          refine wp_aload_n (pc := 113) (i := 0) dX6_keepPly_113 rfl rfl (by first | with_reducible assumption | rfl) ?_
          refine wp_getI (pc := 114) dX6_keepPly_114 lf_X6_91 (by first | with_reducible assumption | rfl) (by first | with_reducible assumption | rfl) rfl ?_
          rw [k11]
          refine wp_bipush (pc := 117) (v := nI 16) dX6_keepPly_117 (by decide +kernel) ?_
          first | (refine wp_icmp_geN (pc := 119) (tgt := 131) dX6_keepPly_119 (by decide) (by first | with_reducible assumption | omega) (by first | with_reducible assumption | omega) (fun c_119 => ?_) (fun c_119 => ?_)) | (refine wp_icmp_ge (pc := 119) (tgt := 131) dX6_keepPly_119 (by decide) (fun c_119 => ?_) (fun c_119 => ?_))
          · refine wp_bipush (pc := 131) (v := nI 16) dX6_keepPly_131 (by decide +kernel) ?_
            refine wp_putI (pc := 133) dX6_keepPly_133 lf_X6_91 (by first | with_reducible assumption | rfl) (by first | with_reducible assumption | rfl) rfl rfl ?_
            refine wp_return (pc := 136) dX6_keepPly_136 rfl ?_
            exact vq_i ⟨(hfin _).1, rfl, rfl, (hfin _).2, rfl⟩
          · exact absurd (show 16 ≤ m by omega) c_119
        · exact absurd (Nat.le_refl 16) c_5
    | succ k ih =>
      intro j I2 hj hcp
      have hj16 : j < 16 := by omega
      have o0 : ∀ a i, ¬ a = 8 → I2 a i = I a i := fun a i y => hcp.2 a i (fun q => y q.1)
      have f12 : I2 0 12 = nI nx := by rw [o0 0 12 (by decide)]; exact hnx
      have f1 : I2 1 j = nI (ccd n c.1 j) := by
        rw [o0 1 j (by decide)]
        have := (hL.1 j hj16).1
        rwa [Nat.mul_zero, Nat.zero_add] at this
      have f2 : ∀ i v, uI I2 8 i v 2 j = nI (c.2.1 j) := fun i v => by
        show I2 2 j = _
        rw [o0 2 j (by decide)]
        have := (hL.1 j hj16).2
        rwa [Nat.mul_zero, Nat.zero_add] at this
      have g12 : ∀ i v, uI I2 8 i v 0 12 = nI nx := fun i v => f12
      have h0 := ih (j + 1) _ (by omega) (CP2_s hcp hj16)
      clear ih
      refine wp_iload_n (pc := 2) (i := 1) dX6_keepPly_2 rfl rfl ?_
      refine wp_bipush (pc := 3) (v := nI 16) dX6_keepPly_3 (by decide +kernel) ?_
      first | (refine wp_icmp_geN (pc := 5) (tgt := 57) dX6_keepPly_5 (by decide) (by first | with_reducible assumption | omega) (by first | with_reducible assumption | omega) (fun c_5 => ?_) (fun c_5 => ?_)) | (refine wp_icmp_ge (pc := 5) (tgt := 57) dX6_keepPly_5 (by decide) (fun c_5 => ?_) (fun c_5 => ?_))
      · exact absurd c_5 (by omega)
      · refine wp_aload_n (pc := 8) (i := 0) dX6_keepPly_8 rfl rfl (by first | with_reducible assumption | rfl) ?_
        refine wp_getR (pc := 9) dX6_keepPly_9 lf_X6_31 (by first | with_reducible assumption | rfl) (by first | with_reducible assumption | rfl) rfl (by first | with_reducible assumption | rfl) (by first | with_reducible assumption | rfl) ?_
        refine wp_bipush (pc := 12) (v := nI 34) dX6_keepPly_12 (by decide +kernel) ?_
        refine wp_aload_n (pc := 14) (i := 0) dX6_keepPly_14 rfl rfl (by first | with_reducible assumption | rfl) ?_
        refine wp_getI (pc := 15) dX6_keepPly_15 lf_X6_133 (by first | with_reducible assumption | rfl) (by first | with_reducible assumption | rfl) rfl ?_
        rw [f12]
        first | (refine wp_imulN (pc := 18) dX6_keepPly_18 ?_) | (refine wp_imul (pc := 18) dX6_keepPly_18 ?_)
        refine wp_iload_n (pc := 19) (i := 1) dX6_keepPly_19 rfl rfl ?_
        first | (refine wp_iaddN (pc := 20) dX6_keepPly_20 ?_) | (refine wp_iadd (pc := 20) dX6_keepPly_20 ?_)
        refine wp_aload_n (pc := 21) (i := 0) dX6_keepPly_21 rfl rfl (by first | with_reducible assumption | rfl) ?_
        refine wp_getR (pc := 22) dX6_keepPly_22 lf_X6_7 (by first | with_reducible assumption | rfl) (by first | with_reducible assumption | rfl) rfl (by first | with_reducible assumption | rfl) (by first | with_reducible assumption | rfl) ?_
        refine wp_iload_n (pc := 25) (i := 1) dX6_keepPly_25 rfl rfl ?_
        refine wp_iald (pc := 26) dX6_keepPly_26 (by first | with_reducible assumption | rfl) (by first | with_reducible assumption | rfl) (by first | with_reducible assumption | omega) (by first | decide | omega) ?_
        rw [f1]
        refine wp_iast (pc := 27) dX6_keepPly_27 (by first | with_reducible assumption | rfl) (by first | with_reducible assumption | rfl) (by first | with_reducible assumption | omega) (by first | decide | omega) ?_
        refine wp_aload_n (pc := 28) (i := 0) dX6_keepPly_28 rfl rfl (by first | with_reducible assumption | rfl) ?_
        refine wp_getR (pc := 29) dX6_keepPly_29 lf_X6_31 (by first | with_reducible assumption | rfl) (by first | with_reducible assumption | rfl) rfl (by first | with_reducible assumption | rfl) (by first | with_reducible assumption | rfl) ?_
        refine wp_bipush (pc := 32) (v := nI 34) dX6_keepPly_32 (by decide +kernel) ?_
        refine wp_aload_n (pc := 34) (i := 0) dX6_keepPly_34 rfl rfl (by first | with_reducible assumption | rfl) ?_
        refine wp_getI (pc := 35) dX6_keepPly_35 lf_X6_133 (by first | with_reducible assumption | rfl) (by first | with_reducible assumption | rfl) rfl ?_
        rw [g12]
        first | (refine wp_imulN (pc := 38) dX6_keepPly_38 ?_) | (refine wp_imul (pc := 38) dX6_keepPly_38 ?_)
        refine wp_bipush (pc := 39) (v := nI 16) dX6_keepPly_39 (by decide +kernel) ?_
        first | (refine wp_iaddN (pc := 41) dX6_keepPly_41 ?_) | (refine wp_iadd (pc := 41) dX6_keepPly_41 ?_)
        refine wp_iload_n (pc := 42) (i := 1) dX6_keepPly_42 rfl rfl ?_
        first | (refine wp_iaddN (pc := 43) dX6_keepPly_43 ?_) | (refine wp_iadd (pc := 43) dX6_keepPly_43 ?_)
        refine wp_aload_n (pc := 44) (i := 0) dX6_keepPly_44 rfl rfl (by first | with_reducible assumption | rfl) ?_
        refine wp_getR (pc := 45) dX6_keepPly_45 lf_X6_13 (by first | with_reducible assumption | rfl) (by first | with_reducible assumption | rfl) rfl (by first | with_reducible assumption | rfl) (by first | with_reducible assumption | rfl) ?_
        refine wp_iload_n (pc := 48) (i := 1) dX6_keepPly_48 rfl rfl ?_
        refine wp_iald (pc := 49) dX6_keepPly_49 (by first | with_reducible assumption | rfl) (by first | with_reducible assumption | rfl) (by first | with_reducible assumption | omega) (by first | decide | omega) ?_
        rw [f2]
        refine wp_iast (pc := 50) dX6_keepPly_50 (by first | with_reducible assumption | rfl) (by first | with_reducible assumption | rfl) (by first | with_reducible assumption | omega) (by first | decide | omega) ?_
        first | (refine wp_iincN (pc := 51) (m := 1) dX6_keepPly_51 rfl rfl (by decide) ?_) | (refine wp_iinc (pc := 51) dX6_keepPly_51 rfl rfl (by decide) ?_)
        refine wp_goto (pc := 54) (tgt := 2) dX6_keepPly_54 (by decide) ?_
        exact h0
  have h00 := loop 16 0 I rfl ⟨fun j hj => absurd hj (Nat.not_lt_zero j), fun _ _ _ => rfl⟩
  refine call_of_wp (by decide) (Nat.le_of_ble_eq_true rfl) ?_
  refine wp_iconst (pc := 0) (v := nI 0) dX6_keepPly_0 (by decide +kernel) ?_
  refine wp_istore_n (pc := 1) (i := 1) dX6_keepPly_1 rfl (by decide) ?_
  exact h00
theorem PM_psh {n nx : Nat} {c : Bd} {I' : MemI} (hnx : I 0 12 = nI nx) (hnx16 : nx < 16) (hm16 : ps.length ≤ 16) (h5 : ∀ j c, ps[j]? = some c → RW n 8 (34 * ((nx + 16 - ps.length + j) % 16)) c I) (g1 : RW n 8 (34 * nx) c I') (g2 : I' 0 12 = nI ((nx + 1) % 16)) (g3 : I' 0 11 = nI (if ps.length < 16 then ps.length + 1 else 16)) (g4 : ∀ a i, ¬ (a = 8 ∧ 34 * nx ≤ i ∧ i < 34 * nx + 34) → ¬ (a = 0 ∧ (i = 11 ∨ i = 12)) → I' a i = I a i) : PM n (psh ps c) I' := by
  have keep : ∀ q b, q < 16 → ¬ q = nx → RW n 8 (34 * q) b I → RW n 8 (34 * q) b I' := fun q b h1 h2 h3 => RW_n h3 (fun i y1 y2 => g4 8 i (fun y => by omega) (fun y => by omega))
  by_cases hm : ps.length < 16
  · have hl : (psh ps c).length = ps.length + 1 := by unfold psh; rw [if_pos hm, List.length_append]; rfl
    rw [if_pos hm] at g3
    refine ⟨(nx + 1) % 16, by rw [hl]; exact g3, g2, Nat.mod_lt _ (by decide), by omega, fun j b hj => ?_⟩
    rw [hl]
    unfold psh at hj
    rw [if_pos hm] at hj
    rcases Nat.lt_or_ge j ps.length with k | k
    · rw [List.getElem?_append_left k] at hj
      have := keep _ b (Nat.mod_lt _ (by decide)) (by omega) (h5 j b hj)
      rwa [show ((nx + 1) % 16 + 16 - (ps.length + 1) + j) % 16 = (nx + 16 - ps.length + j) % 16 by omega]
    · rw [List.getElem?_append_right k] at hj
      have hz : j - ps.length = 0 := by
        rcases Nat.eq_zero_or_pos (j - ps.length) with y | y
        · exact y
        · rw [List.getElem?_eq_none (by rw [List.length_singleton]; omega)] at hj; cases hj
      rw [hz] at hj
      have hb : c = b := by simpa using hj
      rw [← hb, show ((nx + 1) % 16 + 16 - (ps.length + 1) + j) % 16 = nx by omega]
      exact g1
  · have hm6 : ps.length = 16 := by omega
    have hl : (psh ps c).length = 16 := by unfold psh; rw [if_neg hm, List.length_append, List.length_tail, List.length_singleton]; omega
    rw [if_neg hm] at g3
    refine ⟨(nx + 1) % 16, by rw [hl]; exact g3, g2, Nat.mod_lt _ (by decide), by omega, fun j b hj => ?_⟩
    rw [hl]
    unfold psh at hj
    rw [if_neg hm] at hj
    have htl : ps.tail.length = 15 := by rw [List.length_tail]; omega
    rcases Nat.lt_or_ge j 15 with k | k
    · rw [List.getElem?_append_left (by omega), List.getElem?_tail] at hj
      have := keep _ b (Nat.mod_lt _ (by decide)) (by omega) (h5 (j + 1) b hj)
      rwa [show ((nx + 1) % 16 + 16 - 16 + j) % 16 = (nx + 16 - ps.length + (j + 1)) % 16 by omega]
    · rw [List.getElem?_append_right (by omega), htl] at hj
      have hz : j - 15 = 0 := by
        rcases Nat.eq_zero_or_pos (j - 15) with y | y
        · exact y
        · rw [List.getElem?_eq_none (by rw [List.length_singleton]; omega)] at hj; cases hj
      rw [hz] at hj
      have hb : c = b := by simpa using hj
      rw [← hb, show ((nx + 1) % 16 + 16 - 16 + j) % 16 = nx by omega]
      exact g1
set_option maxHeartbeats 16000000 in
theorem sp_X6_isPly {k x y : Nat} {c : Bd} (hW : WH w h I) (hL : LV (w * h) k c I) (hB : Bok (w * h) c) (hk : k < 4) (hx : x < w * h) (hy : y < w * h) : CALL ΩM (d + 6) kX6_isPly [.ref 0, .int (nI k), .int (nI x), .int (nI y)] I J (PQ (.int (bI (decide (c.2.2.2 = 2) && plP w h c (16 * x + y)))) I J) := by
  have n16 := (WH_n hW).2
  have e3 := hL.2.1
  have e4 := hL.2.2
  have ec := (hL.1 x hx).1
  have hsc := hB.1 x (by omega)
  have hac := asc_lt (c.1 x)
  have hl3 := hB.2.2.2.2.1
  have ho := hB.2.2.2.1
  have hsf := sp_X6_sideOf (Ω := ΩM) (d := d + 5) (I := I) (J := J) (b := asc (c.1 x)) (by omega)
  rw [sdB_asc _ hsc] at hsf
  have hms := menP_sd (g := c.1) (s := c.2.2.1) (t := x) ho hsc
  have hcan := sp_X6_canOf (d := d) (J := J) hW hL hB.1 hk hx
  have hml := mset_lt (reaP w h c.1 x)
  have d1 : (16 * x + y) / 16 = x := by omega
  have d2 : (16 * x + y) % 16 = y := by omega
  have eP : plP w h c (16 * x + y) = (menP c.1 c.2.2.1 x && reaP w h c.1 x y) := by unfold plP; rw [d1, d2]
  have hbit : mset (reaP w h c.1 x) / 2 ^ y &&& 1 = (reaP w h c.1 x y).toNat := by rw [bit_1, mset_bit' _ (by omega)]
  rw [eP]
  by_cases h2 : c.2.2.2 = 2
  · have e49 : I 4 k = -9 := by rw [e4, h2]; rfl
    rw [decide_eq_true h2, Bool.true_and]
    cases hM : menP c.1 c.2.2.1 x
    · have hne : ¬ sdI (c.1 x) = nI c.2.2.1 := fun q => by
        have := hms.mp q
        rw [hM] at this; cases this
      refine call_of_wp (by decide) (Nat.le_of_ble_eq_true rfl) ?_
      refine wp_aload_n (pc := 0) (i := 0) dX6_isPly_0 rfl rfl (by first | with_reducible assumption | rfl) ?_
      refine wp_getR (pc := 1) dX6_isPly_1 lf_X6_19 (by first | with_reducible assumption | rfl) (by first | with_reducible assumption | rfl) rfl (by first | with_reducible assumption | rfl) (by first | with_reducible assumption | rfl) ?_
      refine wp_iload_n (pc := 4) (i := 1) dX6_isPly_4 rfl rfl ?_
      refine wp_iald (pc := 5) dX6_isPly_5 (by first | with_reducible assumption | rfl) (by first | with_reducible assumption | rfl) (by first | with_reducible assumption | omega) (by first | decide | omega) ?_
      rw [e49]
      refine wp_bipush (pc := 6) (v := (-9)) dX6_isPly_6 (by decide +kernel) ?_
      refine wp_icmp_ne (pc := 8) (tgt := 52) dX6_isPly_8 (by decide) (fun c_8 => ?_) (fun c_8 => ?_)
      · exact absurd rfl c_8
      · refine wp_aload_n (pc := 11) (i := 0) dX6_isPly_11 rfl rfl (by first | with_reducible assumption | rfl) ?_
        refine wp_getR (pc := 12) dX6_isPly_12 lf_X6_7 (by first | with_reducible assumption | rfl) (by first | with_reducible assumption | rfl) rfl (by first | with_reducible assumption | rfl) (by first | with_reducible assumption | rfl) ?_
        refine wp_bipush (pc := 15) (v := nI 16) dX6_isPly_15 (by decide +kernel) ?_
        refine wp_iload_n (pc := 17) (i := 1) dX6_isPly_17 rfl rfl ?_
        first | (refine wp_imulN (pc := 18) dX6_isPly_18 ?_) | (refine wp_imul (pc := 18) dX6_isPly_18 ?_)
        refine wp_iload_n (pc := 19) (i := 2) dX6_isPly_19 rfl rfl ?_
        first | (refine wp_iaddN (pc := 20) dX6_isPly_20 ?_) | (refine wp_iadd (pc := 20) dX6_isPly_20 ?_)
        refine wp_iald (pc := 21) dX6_isPly_21 (by first | with_reducible assumption | rfl) (by first | with_reducible assumption | rfl) (by first | with_reducible assumption | omega) (by first | decide | omega) ?_
        rw [ec]
        refine wp_cSP1 (pc := 22) dX6_isPly_22 lm_X6_65 m_X6_sideOf (Nat.le_of_ble_eq_true rfl) hsf ?_
        refine wp_aload_n (pc := 25) (i := 0) dX6_isPly_25 rfl rfl (by first | with_reducible assumption | rfl) ?_
        refine wp_getR (pc := 26) dX6_isPly_26 lf_X6_16 (by first | with_reducible assumption | rfl) (by first | with_reducible assumption | rfl) rfl (by first | with_reducible assumption | rfl) (by first | with_reducible assumption | rfl) ?_
        refine wp_iload_n (pc := 29) (i := 1) dX6_isPly_29 rfl rfl ?_
        refine wp_iald (pc := 30) dX6_isPly_30 (by first | with_reducible assumption | rfl) (by first | with_reducible assumption | rfl) (by first | with_reducible assumption | omega) (by first | decide | omega) ?_
        rw [e3]
        refine wp_icmp_ne (pc := 31) (tgt := 52) dX6_isPly_31 (by decide) (fun c_31 => ?_) (fun c_31 => ?_)
        · refine wp_iconst (pc := 52) (v := nI 0) dX6_isPly_52 (by decide +kernel) ?_
          refine wp_zreturn (pc := 53) dX6_isPly_53 rfl (by first | exact bI_narrow _ | exact nI_narrow01 (by omega) | decide +kernel | assumption) ?_
          exact pq_i rfl
        · exact absurd c_31 hne
    · have hy2 : sdI (c.1 x) = nI c.2.2.1 := hms.mpr hM
      rw [Bool.true_and]
      cases hr : reaP w h c.1 x y
      · rw [hr] at hbit
        refine call_of_wp (by decide) (Nat.le_of_ble_eq_true rfl) ?_
        refine wp_aload_n (pc := 0) (i := 0) dX6_isPly_0 rfl rfl (by first | with_reducible assumption | rfl) ?_
        refine wp_getR (pc := 1) dX6_isPly_1 lf_X6_19 (by first | with_reducible assumption | rfl) (by first | with_reducible assumption | rfl) rfl (by first | with_reducible assumption | rfl) (by first | with_reducible assumption | rfl) ?_
        refine wp_iload_n (pc := 4) (i := 1) dX6_isPly_4 rfl rfl ?_
        refine wp_iald (pc := 5) dX6_isPly_5 (by first | with_reducible assumption | rfl) (by first | with_reducible assumption | rfl) (by first | with_reducible assumption | omega) (by first | decide | omega) ?_
        rw [e49]
        refine wp_bipush (pc := 6) (v := (-9)) dX6_isPly_6 (by decide +kernel) ?_
        refine wp_icmp_ne (pc := 8) (tgt := 52) dX6_isPly_8 (by decide) (fun c_8 => ?_) (fun c_8 => ?_)
        · exact absurd rfl c_8
        · refine wp_aload_n (pc := 11) (i := 0) dX6_isPly_11 rfl rfl (by first | with_reducible assumption | rfl) ?_
          refine wp_getR (pc := 12) dX6_isPly_12 lf_X6_7 (by first | with_reducible assumption | rfl) (by first | with_reducible assumption | rfl) rfl (by first | with_reducible assumption | rfl) (by first | with_reducible assumption | rfl) ?_
          refine wp_bipush (pc := 15) (v := nI 16) dX6_isPly_15 (by decide +kernel) ?_
          refine wp_iload_n (pc := 17) (i := 1) dX6_isPly_17 rfl rfl ?_
          first | (refine wp_imulN (pc := 18) dX6_isPly_18 ?_) | (refine wp_imul (pc := 18) dX6_isPly_18 ?_)
          refine wp_iload_n (pc := 19) (i := 2) dX6_isPly_19 rfl rfl ?_
          first | (refine wp_iaddN (pc := 20) dX6_isPly_20 ?_) | (refine wp_iadd (pc := 20) dX6_isPly_20 ?_)
          refine wp_iald (pc := 21) dX6_isPly_21 (by first | with_reducible assumption | rfl) (by first | with_reducible assumption | rfl) (by first | with_reducible assumption | omega) (by first | decide | omega) ?_
          rw [ec]
          refine wp_cSP1 (pc := 22) dX6_isPly_22 lm_X6_65 m_X6_sideOf (Nat.le_of_ble_eq_true rfl) hsf ?_
          refine wp_aload_n (pc := 25) (i := 0) dX6_isPly_25 rfl rfl (by first | with_reducible assumption | rfl) ?_
          refine wp_getR (pc := 26) dX6_isPly_26 lf_X6_16 (by first | with_reducible assumption | rfl) (by first | with_reducible assumption | rfl) rfl (by first | with_reducible assumption | rfl) (by first | with_reducible assumption | rfl) ?_
          refine wp_iload_n (pc := 29) (i := 1) dX6_isPly_29 rfl rfl ?_
          refine wp_iald (pc := 30) dX6_isPly_30 (by first | with_reducible assumption | rfl) (by first | with_reducible assumption | rfl) (by first | with_reducible assumption | omega) (by first | decide | omega) ?_
          rw [e3]
          refine wp_icmp_ne (pc := 31) (tgt := 52) dX6_isPly_31 (by decide) (fun c_31 => ?_) (fun c_31 => ?_)
          · exact absurd hy2 c_31
          · refine wp_aload_n (pc := 34) (i := 0) dX6_isPly_34 rfl rfl (by first | with_reducible assumption | rfl) ?_
            refine wp_iload_n (pc := 35) (i := 1) dX6_isPly_35 rfl rfl ?_
            refine wp_iload_n (pc := 36) (i := 2) dX6_isPly_36 rfl rfl ?_
            refine wp_cVP2 (pc := 37) (ci := 6) dX6_isPly_37 lm_X6_122 m_X6_canOf (by first | with_reducible assumption | rfl) (by first | with_reducible assumption | rfl) (by decide) rfl (Nat.le_of_ble_eq_true rfl) hcan ?_
            refine wp_iload_n (pc := 40) (i := 3) dX6_isPly_40 rfl rfl ?_
            first | (refine wp_ishrN (pc := 41) dX6_isPly_41 (by first | with_reducible assumption | omega) (by first | with_reducible assumption | omega) ?_) | (refine wp_ishr (pc := 41) dX6_isPly_41 ?_)
            refine wp_iconst (pc := 42) (v := nI 1) dX6_isPly_42 (by decide +kernel) ?_
            first | (refine wp_iandN (pc := 43) dX6_isPly_43 ?_) | (refine wp_iand (pc := 43) dX6_isPly_43 ?_)
            rw [hbit]
            refine wp_iconst (pc := 44) (v := nI 1) dX6_isPly_44 (by decide +kernel) ?_
            first | (refine wp_icmp_neN (pc := 45) (tgt := 52) dX6_isPly_45 (by decide) (by first | with_reducible assumption | omega) (by first | with_reducible assumption | omega) (fun c_45 => ?_) (fun c_45 => ?_)) | (refine wp_icmp_ne (pc := 45) (tgt := 52) dX6_isPly_45 (by decide) (fun c_45 => ?_) (fun c_45 => ?_))
            · refine wp_iconst (pc := 52) (v := nI 0) dX6_isPly_52 (by decide +kernel) ?_
              refine wp_zreturn (pc := 53) dX6_isPly_53 rfl (by first | exact bI_narrow _ | exact nI_narrow01 (by omega) | decide +kernel | assumption) ?_
              exact pq_i rfl
            · exact absurd c_45 (by decide)
      · rw [hr] at hbit
        refine call_of_wp (by decide) (Nat.le_of_ble_eq_true rfl) ?_
        refine wp_aload_n (pc := 0) (i := 0) dX6_isPly_0 rfl rfl (by first | with_reducible assumption | rfl) ?_
        refine wp_getR (pc := 1) dX6_isPly_1 lf_X6_19 (by first | with_reducible assumption | rfl) (by first | with_reducible assumption | rfl) rfl (by first | with_reducible assumption | rfl) (by first | with_reducible assumption | rfl) ?_
        refine wp_iload_n (pc := 4) (i := 1) dX6_isPly_4 rfl rfl ?_
        refine wp_iald (pc := 5) dX6_isPly_5 (by first | with_reducible assumption | rfl) (by first | with_reducible assumption | rfl) (by first | with_reducible assumption | omega) (by first | decide | omega) ?_
        rw [e49]
        refine wp_bipush (pc := 6) (v := (-9)) dX6_isPly_6 (by decide +kernel) ?_
        refine wp_icmp_ne (pc := 8) (tgt := 52) dX6_isPly_8 (by decide) (fun c_8 => ?_) (fun c_8 => ?_)
        · exact absurd rfl c_8
        · refine wp_aload_n (pc := 11) (i := 0) dX6_isPly_11 rfl rfl (by first | with_reducible assumption | rfl) ?_
          refine wp_getR (pc := 12) dX6_isPly_12 lf_X6_7 (by first | with_reducible assumption | rfl) (by first | with_reducible assumption | rfl) rfl (by first | with_reducible assumption | rfl) (by first | with_reducible assumption | rfl) ?_
          refine wp_bipush (pc := 15) (v := nI 16) dX6_isPly_15 (by decide +kernel) ?_
          refine wp_iload_n (pc := 17) (i := 1) dX6_isPly_17 rfl rfl ?_
          first | (refine wp_imulN (pc := 18) dX6_isPly_18 ?_) | (refine wp_imul (pc := 18) dX6_isPly_18 ?_)
          refine wp_iload_n (pc := 19) (i := 2) dX6_isPly_19 rfl rfl ?_
          first | (refine wp_iaddN (pc := 20) dX6_isPly_20 ?_) | (refine wp_iadd (pc := 20) dX6_isPly_20 ?_)
          refine wp_iald (pc := 21) dX6_isPly_21 (by first | with_reducible assumption | rfl) (by first | with_reducible assumption | rfl) (by first | with_reducible assumption | omega) (by first | decide | omega) ?_
          rw [ec]
          refine wp_cSP1 (pc := 22) dX6_isPly_22 lm_X6_65 m_X6_sideOf (Nat.le_of_ble_eq_true rfl) hsf ?_
          refine wp_aload_n (pc := 25) (i := 0) dX6_isPly_25 rfl rfl (by first | with_reducible assumption | rfl) ?_
          refine wp_getR (pc := 26) dX6_isPly_26 lf_X6_16 (by first | with_reducible assumption | rfl) (by first | with_reducible assumption | rfl) rfl (by first | with_reducible assumption | rfl) (by first | with_reducible assumption | rfl) ?_
          refine wp_iload_n (pc := 29) (i := 1) dX6_isPly_29 rfl rfl ?_
          refine wp_iald (pc := 30) dX6_isPly_30 (by first | with_reducible assumption | rfl) (by first | with_reducible assumption | rfl) (by first | with_reducible assumption | omega) (by first | decide | omega) ?_
          rw [e3]
          refine wp_icmp_ne (pc := 31) (tgt := 52) dX6_isPly_31 (by decide) (fun c_31 => ?_) (fun c_31 => ?_)
          · exact absurd hy2 c_31
          · refine wp_aload_n (pc := 34) (i := 0) dX6_isPly_34 rfl rfl (by first | with_reducible assumption | rfl) ?_
            refine wp_iload_n (pc := 35) (i := 1) dX6_isPly_35 rfl rfl ?_
            refine wp_iload_n (pc := 36) (i := 2) dX6_isPly_36 rfl rfl ?_
            refine wp_cVP2 (pc := 37) (ci := 6) dX6_isPly_37 lm_X6_122 m_X6_canOf (by first | with_reducible assumption | rfl) (by first | with_reducible assumption | rfl) (by decide) rfl (Nat.le_of_ble_eq_true rfl) hcan ?_
            refine wp_iload_n (pc := 40) (i := 3) dX6_isPly_40 rfl rfl ?_
            first | (refine wp_ishrN (pc := 41) dX6_isPly_41 (by first | with_reducible assumption | omega) (by first | with_reducible assumption | omega) ?_) | (refine wp_ishr (pc := 41) dX6_isPly_41 ?_)
            refine wp_iconst (pc := 42) (v := nI 1) dX6_isPly_42 (by decide +kernel) ?_
            first | (refine wp_iandN (pc := 43) dX6_isPly_43 ?_) | (refine wp_iand (pc := 43) dX6_isPly_43 ?_)
            rw [hbit]
            refine wp_iconst (pc := 44) (v := nI 1) dX6_isPly_44 (by decide +kernel) ?_
            first | (refine wp_icmp_neN (pc := 45) (tgt := 52) dX6_isPly_45 (by decide) (by first | with_reducible assumption | omega) (by first | with_reducible assumption | omega) (fun c_45 => ?_) (fun c_45 => ?_)) | (refine wp_icmp_ne (pc := 45) (tgt := 52) dX6_isPly_45 (by decide) (fun c_45 => ?_) (fun c_45 => ?_))
            · exact absurd rfl c_45
            · refine wp_iconst (pc := 48) (v := nI 1) dX6_isPly_48 (by decide +kernel) ?_
              refine wp_goto (pc := 49) (tgt := 53) dX6_isPly_49 (by decide) ?_
              refine wp_zreturn (pc := 53) dX6_isPly_53 rfl (by first | exact bI_narrow _ | exact nI_narrow01 (by omega) | decide +kernel | assumption) ?_
              exact pq_i rfl
  · have hne := lsI_ne h2 hl3
    rw [decide_eq_false h2, Bool.false_and]
    refine call_of_wp (by decide) (Nat.le_of_ble_eq_true rfl) ?_
    refine wp_aload_n (pc := 0) (i := 0) dX6_isPly_0 rfl rfl (by first | with_reducible assumption | rfl) ?_
    refine wp_getR (pc := 1) dX6_isPly_1 lf_X6_19 (by first | with_reducible assumption | rfl) (by first | with_reducible assumption | rfl) rfl (by first | with_reducible assumption | rfl) (by first | with_reducible assumption | rfl) ?_
    refine wp_iload_n (pc := 4) (i := 1) dX6_isPly_4 rfl rfl ?_
    refine wp_iald (pc := 5) dX6_isPly_5 (by first | with_reducible assumption | rfl) (by first | with_reducible assumption | rfl) (by first | with_reducible assumption | omega) (by first | decide | omega) ?_
    rw [e4]
    refine wp_bipush (pc := 6) (v := (-9)) dX6_isPly_6 (by decide +kernel) ?_
    refine wp_icmp_ne (pc := 8) (tgt := 52) dX6_isPly_8 (by decide) (fun c_8 => ?_) (fun c_8 => ?_)
    · refine wp_iconst (pc := 52) (v := nI 0) dX6_isPly_52 (by decide +kernel) ?_
      refine wp_zreturn (pc := 53) dX6_isPly_53 rfl (by first | exact bI_narrow _ | exact nI_narrow01 (by omega) | decide +kernel | assumption) ?_
      exact pq_i rfl
    · exact absurd c_8 hne
/-- a PLY made on level 0 after the place was put into the row -/
theorem RepM_ply {x : Nat} {I1 I2 : MemI} (hR : RepM t w h last b ps f z I J) (hl : b.2.2.2 = 2) (hok : okP (w * h) b x) (hP : PM (w * h) (psh ps b) I1) (h1 : ∀ a i, ¬ a = 8 → ¬ (a = 0 ∧ (i = 11 ∨ i = 12)) → I1 a i = I a i) (hL : LX (w * h) 0 (mkB last b x) I2) (h2 : FM 0 I1 I2) : RM (t, (w, h, last), mkB last b x, psh ps b, f, z) I2 J := by
  obtain ⟨k1, k2, ⟨k3, k4⟩, ⟨k5, k6⟩, ⟨k7, k8⟩, ⟨k9, k10⟩, k11⟩ := hR
  have e : ∀ a i, ¬ a = 1 → ¬ a = 2 → ¬ a = 3 → ¬ a = 4 → I2 a i = I1 a i := fun a i y1 y2 y3 y4 => h2 a i (fun y => y.1.elim y1 y2) (fun y => y.1.elim y3 y4)
  have e2 : ∀ a i, ¬ a = 1 → ¬ a = 2 → ¬ a = 3 → ¬ a = 4 → ¬ a = 8 → ¬ (a = 0 ∧ (i = 11 ∨ i = 12)) → I2 a i = I a i := fun a i y1 y2 y3 y4 y5 y6 => (e a i y1 y2 y3 y4).trans (h1 a i y5 y6)
  have hlg := okP_leg hok
  refine ⟨k1, TM_n k2 (e2 0 8 (by decide) (by decide) (by decide) (by decide) (by decide) (by omega)) (fun i => e2 5 i (by decide) (by decide) (by decide) (by decide) (by decide) (by omega)), ⟨⟨k3.1, ?_, ?_⟩, ?_⟩, ⟨hL, Bok_mk k6 hlg.1 hlg.2 k1⟩, ⟨PM_n hP (e 0 11 (by decide) (by decide) (by decide) (by decide)) (e 0 12 (by decide) (by decide) (by decide) (by decide)) (fun i => e 8 i (by decide) (by decide) (by decide) (by decide)), fun c hc => ?_⟩, ⟨KM_n k9 (fun i => e2 11 i (by decide) (by decide) (by decide) (by decide) (by decide) (by omega)) (fun i => e2 12 i (by decide) (by decide) (by decide) (by decide) (by decide) (by omega)), k10⟩, k11⟩
  · rw [e2 0 0 (by decide) (by decide) (by decide) (by decide) (by decide) (by omega)]; exact k3.2.1
  · rw [e2 0 1 (by decide) (by decide) (by decide) (by decide) (by decide) (by omega)]; exact k3.2.2
  · rw [e2 0 2 (by decide) (by decide) (by decide) (by decide) (by decide) (by omega)]; exact k4
  · rcases psh_mem hc with y | y
    · exact k8 c y
    · rw [y]; exact k6
set_option maxHeartbeats 16000000 in
theorem sp_X6_move {x y : Int32} (hR : RepM t w h last b ps f z I J) : CALL ΩM (d + 7) kX6_move [.ref 0, .int x, .int y] I J (AM (aMove w h b x y) (sMove x y (t, (w, h, last), b, ps, f, z))) := by
  have hwh := RepM_16 hR
  have hW := hR.2.2.1.1
  have hla := hR.2.2.1.2
  have hV := RepM_V hR
  have hL := hR.2.2.2.1.1
  have hB := hR.2.2.2.1.2
  obtain ⟨nx, p1, p2, p3, p4, p5⟩ := hR.2.2.2.2.1.1
  cases hx : inB x (w * h)
  · have e : aMove w h b x y = -1 := if_neg (by rw [hx]; exact Bool.false_ne_true)
    have e2 : sMove x y (t, (w, h, last), b, ps, f, z) = (t, (w, h, last), b, ps, f, z) := if_neg (by show ¬ ((inB x (w * h) && inB y (w * h)) = true ∧ _); rw [hx]; exact fun k => Bool.false_ne_true k.1)
    rw [e, e2]
    refine call_of_wp (by decide) (Nat.le_of_ble_eq_true rfl) ?_
    refine wp_aload_n (pc := 0) (i := 0) dX6_move_0 rfl rfl (by first | with_reducible assumption | rfl) ?_
    refine wp_iload_n (pc := 1) (i := 1) dX6_move_1 rfl rfl ?_
    refine wp_cVP1 (pc := 2) (ci := 6) dX6_move_2 lm_X6_94 m_X6_isCell (by first | with_reducible assumption | rfl) (by first | with_reducible assumption | rfl) (by decide) rfl (Nat.le_of_ble_eq_true rfl) (sp_X6_isCell (d := d + 5) hW) ?_
    rw [hx]
    refine wp_if_eqB (pc := 5) (tgt := 16) dX6_move_5 (by decide) (fun c_5 => ?_) (fun c_5 => ?_)
    · refine wp_iconst (pc := 16) (v := (-1)) dX6_move_16 (by decide +kernel) ?_
      refine wp_ireturn (pc := 17) dX6_move_17 rfl ?_
      exact am_i rfl hR
    · exact Bool.noConfusion c_5
  · cases hy : inB y (w * h)
    · have e : aMove w h b x y = -1 := if_neg (by rw [hx, hy]; exact Bool.false_ne_true)
      have e2 : sMove x y (t, (w, h, last), b, ps, f, z) = (t, (w, h, last), b, ps, f, z) := if_neg (by show ¬ ((inB x (w * h) && inB y (w * h)) = true ∧ _); rw [hx, hy]; exact fun k => Bool.false_ne_true k.1)
      rw [e, e2]
      refine call_of_wp (by decide) (Nat.le_of_ble_eq_true rfl) ?_
      refine wp_aload_n (pc := 0) (i := 0) dX6_move_0 rfl rfl (by first | with_reducible assumption | rfl) ?_
      refine wp_iload_n (pc := 1) (i := 1) dX6_move_1 rfl rfl ?_
      refine wp_cVP1 (pc := 2) (ci := 6) dX6_move_2 lm_X6_94 m_X6_isCell (by first | with_reducible assumption | rfl) (by first | with_reducible assumption | rfl) (by decide) rfl (Nat.le_of_ble_eq_true rfl) (sp_X6_isCell (d := d + 5) hW) ?_
      rw [hx]
      refine wp_if_eqB (pc := 5) (tgt := 16) dX6_move_5 (by decide) (fun c_5 => ?_) (fun c_5 => ?_)
      · exact Bool.noConfusion c_5
      · refine wp_aload_n (pc := 8) (i := 0) dX6_move_8 rfl rfl (by first | with_reducible assumption | rfl) ?_
        refine wp_iload_n (pc := 9) (i := 2) dX6_move_9 rfl rfl ?_
        refine wp_cVP1 (pc := 10) (ci := 6) dX6_move_10 lm_X6_94 m_X6_isCell (by first | with_reducible assumption | rfl) (by first | with_reducible assumption | rfl) (by decide) rfl (Nat.le_of_ble_eq_true rfl) (sp_X6_isCell (d := d + 5) hW) ?_
        rw [hy]
        refine wp_if_neB (pc := 13) (tgt := 18) dX6_move_13 (by decide) (fun c_13 => ?_) (fun c_13 => ?_)
        · exact Bool.noConfusion c_13
        · refine wp_iconst (pc := 16) (v := (-1)) dX6_move_16 (by decide +kernel) ?_
          refine wp_ireturn (pc := 17) dX6_move_17 rfl ?_
          exact am_i rfl hR
    · obtain ⟨c, hc, rfl⟩ := inB_t (by omega) hx
      obtain ⟨c2, hc2, rfl⟩ := inB_t (by omega) hy
      have k1 := cI_n (n := c) (by omega)
      have k2 := cI_n (n := c2) (by omega)
      have eO : mvOk w h b (nI c) (nI c2) = (decide (b.2.2.2 = 2) && plP w h b (16 * c + c2)) := by unfold mvOk; rw [k1, k2]
      have hip := sp_X6_isPly (d := d) (J := J) (k := 0) hW hV hB (by decide) hc hc2
      cases hm : (decide (b.2.2.2 = 2) && plP w h b (16 * c + c2))
      · have e : aMove w h b (nI c) (nI c2) = -3 := by unfold aMove; rw [hx, hy, eO, hm]; rfl
        have e2 : sMove (nI c) (nI c2) (t, (w, h, last), b, ps, f, z) = (t, (w, h, last), b, ps, f, z) := if_neg (by show ¬ (_ ∧ mvOk w h b (nI c) (nI c2) = true); rw [eO, hm]; exact fun k => Bool.false_ne_true k.2)
        rw [hm] at hip
        rw [e, e2]
        refine call_of_wp (by decide) (Nat.le_of_ble_eq_true rfl) ?_
        refine wp_aload_n (pc := 0) (i := 0) dX6_move_0 rfl rfl (by first | with_reducible assumption | rfl) ?_
        refine wp_iload_n (pc := 1) (i := 1) dX6_move_1 rfl rfl ?_
        refine wp_cVP1 (pc := 2) (ci := 6) dX6_move_2 lm_X6_94 m_X6_isCell (by first | with_reducible assumption | rfl) (by first | with_reducible assumption | rfl) (by decide) rfl (Nat.le_of_ble_eq_true rfl) (sp_X6_isCell (d := d + 5) hW) ?_
        rw [hx]
        refine wp_if_eqB (pc := 5) (tgt := 16) dX6_move_5 (by decide) (fun c_5 => ?_) (fun c_5 => ?_)
        · exact Bool.noConfusion c_5
        · refine wp_aload_n (pc := 8) (i := 0) dX6_move_8 rfl rfl (by first | with_reducible assumption | rfl) ?_
          refine wp_iload_n (pc := 9) (i := 2) dX6_move_9 rfl rfl ?_
          refine wp_cVP1 (pc := 10) (ci := 6) dX6_move_10 lm_X6_94 m_X6_isCell (by first | with_reducible assumption | rfl) (by first | with_reducible assumption | rfl) (by decide) rfl (Nat.le_of_ble_eq_true rfl) (sp_X6_isCell (d := d + 5) hW) ?_
          rw [hy]
          refine wp_if_neB (pc := 13) (tgt := 18) dX6_move_13 (by decide) (fun c_13 => ?_) (fun c_13 => ?_)
          · refine wp_aload_n (pc := 18) (i := 0) dX6_move_18 rfl rfl (by first | with_reducible assumption | rfl) ?_
            refine wp_iconst (pc := 19) (v := nI 0) dX6_move_19 (by decide +kernel) ?_
            refine wp_iload_n (pc := 20) (i := 1) dX6_move_20 rfl rfl ?_
            refine wp_iload_n (pc := 21) (i := 2) dX6_move_21 rfl rfl ?_
            refine wp_cVP3 (pc := 22) (ci := 6) dX6_move_22 lm_X6_136 m_X6_isPly (by first | with_reducible assumption | rfl) (by first | with_reducible assumption | rfl) (by decide) rfl (Nat.le_of_ble_eq_true rfl) hip ?_
            refine wp_if_neB (pc := 25) (tgt := 31) dX6_move_25 (by decide) (fun c_25 => ?_) (fun c_25 => ?_)
            · exact Bool.noConfusion c_25
            · refine wp_bipush (pc := 28) (v := (-3)) dX6_move_28 (by decide +kernel) ?_
              refine wp_ireturn (pc := 30) dX6_move_30 rfl ?_
              exact am_i rfl hR
          · exact Bool.noConfusion c_13
      · have e : aMove w h b (nI c) (nI c2) = nI (asc (b.1 c2)) := by unfold aMove; rw [hx, hy, eO, hm, k2]; rfl
        have e2 : sMove (nI c) (nI c2) (t, (w, h, last), b, ps, f, z) = (t, (w, h, last), mkB last b (16 * c + c2), psh ps b, f, z) := by
          have : sMove (nI c) (nI c2) (t, (w, h, last), b, ps, f, z) = (t, (w, h, last), mkB last b (16 * cI (nI c) + cI (nI c2)), psh ps b, f, z) := if_pos (by show ((inB (nI c) (w * h) && inB (nI c2) (w * h)) = true ∧ mvOk w h b (nI c) (nI c2) = true); rw [hx, hy, eO, hm]; exact ⟨rfl, rfl⟩)
          rw [this, k1, k2]
        rw [hm] at hip
        rw [Bool.and_eq_true] at hm
        have hl2 := of_decide_eq_true hm.1
        have hok := plP_ok hB.1 hB.2.2.2.1 hB.2.2.2.2.2 (by omega) hm.2
        have hkp := sp_X6_keepPly (d := d + 6) (J := J) hL p2 p3 p1 p4
        have ee : encM (16 * c + c2) = 16 * c + c2 := if_neg (by omega)
        have ec := (hV.1 c2 hc2).1
        rw [Nat.mul_zero, Nat.zero_add] at ec
        rw [e, e2]
        refine call_of_wp (by decide) (Nat.le_of_ble_eq_true rfl) ?_
        refine wp_aload_n (pc := 0) (i := 0) dX6_move_0 rfl rfl (by first | with_reducible assumption | rfl) ?_
        refine wp_iload_n (pc := 1) (i := 1) dX6_move_1 rfl rfl ?_
        refine wp_cVP1 (pc := 2) (ci := 6) dX6_move_2 lm_X6_94 m_X6_isCell (by first | with_reducible assumption | rfl) (by first | with_reducible assumption | rfl) (by decide) rfl (Nat.le_of_ble_eq_true rfl) (sp_X6_isCell (d := d + 5) hW) ?_
        rw [hx]
        refine wp_if_eqB (pc := 5) (tgt := 16) dX6_move_5 (by decide) (fun c_5 => ?_) (fun c_5 => ?_)
        · exact Bool.noConfusion c_5
        · refine wp_aload_n (pc := 8) (i := 0) dX6_move_8 rfl rfl (by first | with_reducible assumption | rfl) ?_
          refine wp_iload_n (pc := 9) (i := 2) dX6_move_9 rfl rfl ?_
          refine wp_cVP1 (pc := 10) (ci := 6) dX6_move_10 lm_X6_94 m_X6_isCell (by first | with_reducible assumption | rfl) (by first | with_reducible assumption | rfl) (by decide) rfl (Nat.le_of_ble_eq_true rfl) (sp_X6_isCell (d := d + 5) hW) ?_
          rw [hy]
          refine wp_if_neB (pc := 13) (tgt := 18) dX6_move_13 (by decide) (fun c_13 => ?_) (fun c_13 => ?_)
          · refine wp_aload_n (pc := 18) (i := 0) dX6_move_18 rfl rfl (by first | with_reducible assumption | rfl) ?_
            refine wp_iconst (pc := 19) (v := nI 0) dX6_move_19 (by decide +kernel) ?_
            refine wp_iload_n (pc := 20) (i := 1) dX6_move_20 rfl rfl ?_
            refine wp_iload_n (pc := 21) (i := 2) dX6_move_21 rfl rfl ?_
            refine wp_cVP3 (pc := 22) (ci := 6) dX6_move_22 lm_X6_136 m_X6_isPly (by first | with_reducible assumption | rfl) (by first | with_reducible assumption | rfl) (by decide) rfl (Nat.le_of_ble_eq_true rfl) hip ?_
            refine wp_if_neB (pc := 25) (tgt := 31) dX6_move_25 (by decide) (fun c_25 => ?_) (fun c_25 => ?_)
            · refine wp_aload_n (pc := 31) (i := 0) dX6_move_31 rfl rfl (by first | with_reducible assumption | rfl) ?_
              refine wp_cVV0 (pc := 32) (ci := 6) dX6_move_32 lm_X6_140 m_X6_keepPly (by first | with_reducible assumption | rfl) (by first | with_reducible assumption | rfl) (by decide) rfl (Nat.le_of_ble_eq_true rfl) hkp (fun I_32 J_32 h_32 => ?_)
              obtain ⟨g1, g2, g3, g4, rfl⟩ := h_32
              have hPm := PM_psh p2 p3 p4 p5 g1 g2 g3 g4
              have hfr1 : ∀ a i, ¬ a = 8 → ¬ (a = 0 ∧ (i = 11 ∨ i = 12)) → I_32 a i = I a i := fun a i y1 y2 => g4 a i (fun q => y1 q.1) y2
              have hL1 : LX (w * h) 0 b I_32 := LX_n hL (by decide) (fun a i y1 _ _ => hfr1 a i (by omega) (by omega)) (hfr1 3 0 (by decide) (by omega)) (hfr1 4 0 (by decide) (by omega))
              have hW1 : WH w h I_32 := ⟨hW.1, by rw [hfr1 0 0 (by decide) (by omega)]; exact hW.2.1, by rw [hfr1 0 1 (by decide) (by omega)]; exact hW.2.2⟩
              have hla1 : I_32 0 2 = nI last := by rw [hfr1 0 2 (by decide) (by omega)]; exact hla
              have hmk := sp_X6_make (d := d + 3) (J := J_32) hW1 hla1 hL1 hB hl2 hok (show 0 < 4 by decide) (show 0 < 4 by decide)
              rw [ee] at hmk
              have ec1 : I_32 1 c2 = nI (asc (b.1 c2)) := by rw [hfr1 1 c2 (by decide) (by omega)]; exact ec
              refine wp_aload_n (pc := 35) (i := 0) dX6_move_35 rfl rfl (by first | with_reducible assumption | rfl) ?_
              refine wp_getR (pc := 36) dX6_move_36 lf_X6_7 (by first | with_reducible assumption | rfl) (by first | with_reducible assumption | rfl) rfl (by first | with_reducible assumption | rfl) (by first | with_reducible assumption | rfl) ?_
              refine wp_iload_n (pc := 39) (i := 2) dX6_move_39 rfl rfl ?_
              refine wp_iald (pc := 40) dX6_move_40 (by first | with_reducible assumption | rfl) (by first | with_reducible assumption | rfl) (by first | with_reducible assumption | omega) (by first | decide | omega) ?_
              rw [ec1]
              refine wp_istore_n (pc := 41) (i := 3) dX6_move_41 rfl (by decide) ?_
              refine wp_aload_n (pc := 42) (i := 0) dX6_move_42 rfl rfl (by first | with_reducible assumption | rfl) ?_
              refine wp_iconst (pc := 43) (v := nI 0) dX6_move_43 (by decide +kernel) ?_
              refine wp_iconst (pc := 44) (v := nI 0) dX6_move_44 (by decide +kernel) ?_
              refine wp_bipush (pc := 45) (v := nI 16) dX6_move_45 (by decide +kernel) ?_
              refine wp_iload_n (pc := 47) (i := 1) dX6_move_47 rfl rfl ?_
              first | (refine wp_imulN (pc := 48) dX6_move_48 ?_) | (refine wp_imul (pc := 48) dX6_move_48 ?_)
              refine wp_iload_n (pc := 49) (i := 2) dX6_move_49 rfl rfl ?_
              first | (refine wp_iaddN (pc := 50) dX6_move_50 ?_) | (refine wp_iadd (pc := 50) dX6_move_50 ?_)
              refine wp_cVI3 (pc := 51) (ci := 6) dX6_move_51 lm_X6_143 m_X6_make (by first | with_reducible assumption | rfl) (by first | with_reducible assumption | rfl) (by decide) rfl (Nat.le_of_ble_eq_true rfl) hmk (fun x_51 I_51 J_51 h_51 => ?_)
              obtain ⟨m1, m2, m3, rfl⟩ := h_51
              refine wp_pop (pc := 54) dX6_move_54 rfl ?_
              refine wp_iload_n (pc := 55) (i := 3) dX6_move_55 rfl rfl ?_
              refine wp_ireturn (pc := 56) dX6_move_56 rfl ?_
              exact am_i rfl (RepM_ply hR hl2 hok hPm hfr1 m2 m3)
            · exact Bool.noConfusion c_25
          · exact Bool.noConfusion c_13
end MCO
