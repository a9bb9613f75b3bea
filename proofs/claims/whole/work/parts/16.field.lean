/-! THE FIELD: its tables, where men aim -/
def dX (k : Nat) : Int := match k with | 0 => 0 | 1 => 1 | 2 => 1 | 3 => 1 | 4 => 0 | _ => -1
def dY (k : Nat) : Int := match k with | 0 => -1 | 1 => -1 | 2 => 0 | 3 => 1 | 4 => 1 | 5 => 1 | 6 => 0 | _ => -1
def eX (k : Nat) : Int := match k with | 0 => 1 | 1 => 2 | 2 => 2 | 3 => 1 | 4 => -1 | 5 => -2 | 6 => -2 | _ => -1
def eY (k : Nat) : Int := match k with | 0 => -2 | 1 => -1 | 2 => 1 | 3 => 2 | 4 => 2 | 5 => 1 | 6 => -1 | _ => -2
theorem ro_dX : ∀ k, k < 8 → (roT 1000).getD k 0 = zI (dX k) := by decide +kernel
theorem ro_dY : ∀ k, k < 8 → (roT 1001).getD k 0 = zI (dY k) := by decide +kernel
theorem ro_eX : ∀ k, k < 8 → (roT 1002).getD k 0 = zI (eX k) := by decide +kernel
theorem ro_eY : ∀ k, k < 8 → (roT 1003).getD k 0 = zI (eY k) := by decide +kernel
theorem dX_b (k : Nat) : -2 ≤ dX k ∧ dX k ≤ 2 := by unfold dX; split <;> omega
theorem dY_b (k : Nat) : -2 ≤ dY k ∧ dY k ≤ 2 := by unfold dY; split <;> omega
theorem eX_b (k : Nat) : -2 ≤ eX k ∧ eX k ≤ 2 := by unfold eX; split <;> omega
theorem eY_b (k : Nat) : -2 ≤ eY k ∧ eY k ≤ 2 := by unfold eY; split <;> omega
def anK (f : Nat → Bool) : Nat → Bool
  | 0 => false
  | n + 1 => anK f n || f n
theorem anK_iff {f : Nat → Bool} : ∀ n, anK f n = true ↔ ∃ k, k < n ∧ f k = true
  | 0 => by simp [anK]
  | n + 1 => by
    rw [anK, Bool.or_eq_true, anK_iff n]
    constructor
    · rintro (⟨k, h1, h2⟩ | h)
      · exact ⟨k, by omega, h2⟩
      · exact ⟨n, by omega, h⟩
    · rintro ⟨k, h1, h2⟩
      by_cases hk : k = n
      · subst hk; exact Or.inr h2
      · exact Or.inl ⟨k, by omega, h2⟩
theorem or_ob {P : Nat → Bool} {o : Option Nat} (ho : ∀ c, o = some c → c < 16) : mset P ||| obN o = mset (fun t => P t || o == some t) := by
  cases o with
  | none => simp [obN]
  | some c =>
    show mset P ||| 2 ^ c = _
    rw [set_t (ho c rfl)]
    refine mset_eq fun i _ => ?_
    by_cases hi : i = c
    · subst hi; simp [upB]
    · have : ¬ (some c == some i) = true := by simp; exact fun z => hi z.symm
      simp [upB, hi, Bool.eq_false_iff.mpr this]
/-- the place of a cell -/
def cxx (w c : Nat) : Int := ((c % w : Nat) : Int)
def cyy (w c : Nat) : Int := ((c / w : Nat) : Int)
def nbr (w h c k : Nat) : Option Nat := cat w h (cxx w c + dX k) (cyy w c + dY k)
def lep (w h c k : Nat) : Option Nat := cat w h (cxx w c + eX k) (cyy w c + eY k)
def kst (w h c t : Nat) : Bool := anK (fun k => nbr w h c k == some t) 8
def nst (w h c t : Nat) : Bool := anK (fun k => lep w h c k == some t) 8
/-- rows ahead: 0 WHITE up, 1 BLACK down -/
def ahd (s : Nat) : Int := if s = 0 then -1 else 1
def stp (w h s c t : Nat) : Bool := cat w h (cxx w c) (cyy w c + ahd s) == some t
def sla (w h s c t : Nat) : Bool := (cat w h (cxx w c - 1) (cyy w c + ahd s) == some t) || (cat w h (cxx w c + 1) (cyy w c + ahd s) == some t)
/-- along a way from where one is -/
def ray (w h : Nat) (F : Nat → Bool) (k : Nat) : Nat → Option Nat → Nat → Bool
  | 0, _, _ => false
  | _ + 1, none, _ => false
  | n + 1, some q, t => (some q == some t) || ray w h F k n (if F q = true then none else nbr w h q k) t
def lin (w h fw : Nat) (F : Nat → Bool) (c t : Nat) : Bool := anK (fun j => ray w h F (fw + 2 * j) 3 (nbr w h c (fw + 2 * j)) t) 4
def kd (s : Nat) : Nat := if s < 7 then s - 2 else s - 7
def sd (s : Nat) : Nat := if s < 7 then 0 else 1
/-- where a sign aims; F: cells that aren't empty -/
def aimP (w h s : Nat) (F : Nat → Bool) (c t : Nat) : Bool := if s < 2 then false else match kd s with
  | 0 => kst w h c t
  | 1 => lin w h 0 F c t
  | 2 => lin w h 1 F c t
  | 3 => nst w h c t
  | _ => sla w h (sd s) c t
/-- where it may go if that is empty -/
def gngP (w h s : Nat) (A : Nat → Bool) (c t : Nat) : Bool := if kdI s = nI 4 then stp w h (sd s) c t else A t
/-- the tables of one cell -/
def Tab (w h : Nat) (I : MemI) (c : Nat) : Prop := (∀ k, k < 8 → I 4 (k * 16 + c) = ocI (nbr w h c k)) ∧ I 5 c = nI (mset (kst w h c)) ∧ I 6 c = nI (mset (nst w h c)) ∧ ∀ s, s < 2 → I 7 (s * 16 + c) = nI (mset (sla w h s c)) ∧ I 8 (s * 16 + c) = nI (mset (stp w h s c))
/-- the field's picture -/
def Fld (w h last : Nat) (I : MemI) : Prop := (1 ≤ w ∧ w ≤ 4 ∧ 1 ≤ h ∧ h ≤ 4) ∧ I 3 5 = nI w ∧ I 3 6 = nI h ∧ I 3 7 = nI last ∧ I 3 8 = nI (w * h) ∧ ∀ c, c < w * h → Tab w h I c
theorem wh16 {w h : Nat} (hw : w ≤ 4) (hh : h ≤ 4) : w * h ≤ 16 := Nat.mul_le_mul hw hh
theorem cxx_b {w c : Nat} (hw : 1 ≤ w) (hw4 : w ≤ 4) : 0 ≤ cxx w c ∧ cxx w c < 4 := by
  have := Nat.mod_lt c (show 0 < w by omega)
  unfold cxx
  omega
theorem cyy_b {w c : Nat} (hc : c < 16) : 0 ≤ cyy w c ∧ cyy w c < 16 := by
  have h := Nat.div_le_self c w
  unfold cyy
  generalize c / w = q at h ⊢
  omega
theorem cat16 {w h : Nat} (hw : w ≤ 4) (hh : h ≤ 4) {x y : Int} : ∀ c, cat w h x y = some c → c < 16 := fun c hc => Nat.lt_of_lt_of_le (cat_lt hc) (wh16 hw hh)
section FLD
variable {d : Nat} {I : MemI} {J : MemJ}
theorem wp_alenT8 {Ω : Shp} {K : Mth} {pc i : Nat} {L : Lcs} {S : List Value} {Q : Pst} (hd : decode K.2.1 pc = .ok (.arraylength, 1)) (h1 : 1000 ≤ i) (h2 : i < 1004) (kk : WP Ω d K (pc + 1) L (.int (nI 8) :: S) I J Q) : WP Ω d K pc L (.ref i :: S) I J Q := by
  intro l G cA A fm p e s m args below meth c H locs ls X hP hS hl
  rw [List.map_cons, cv_ref (ro_beq (by omega))]
  obtain ⟨cell, e1, e2, e3, e4, e5, e6, -⟩ := ((act_roe X).1.2 i h1 h2).kept hS.2.1
  exact W.alen X.1 X.2.1 e1 e2 e5 rfl rfl hd (kk l G cA A fm p e s m args below meth c H locs ls X hP hS hl)
set_option maxHeartbeats 16000000 in
theorem sp_X5_atT {Ω : Shp} {a j : Nat} (h1 : 1000 ≤ a) (h2 : a < 1004) (hj : j < 8) : CALL Ω d kX5_at [.ref a, .int (nI j)] I J (PQ (.int ((roT a).getD j 0)) I J) := by
  have hb : Nat.beq a 1010 = false := ro_beq (by omega)
  refine call_of_wp (by decide) (Nat.le_of_ble_eq_true rfl) ?_
  refine wp_iload_n (pc := 0) (i := 1) dX5_at_0 rfl rfl ?_
  refine wp_if_ltN (pc := 1) (tgt := 16) dX5_at_1 (by decide) (by first | with_reducible assumption | omega) ?_
  refine wp_iload_n (pc := 4) (i := 1) dX5_at_4 rfl rfl ?_
  refine wp_aload_n (pc := 5) (i := 0) dX5_at_5 rfl rfl (by first | with_reducible assumption | rfl) ?_
  refine wp_alenT8 (pc := 6) dX5_at_6 h1 h2 ?_
  first | (refine wp_icmp_geN (pc := 7) (tgt := 16) dX5_at_7 (by decide) (by first | with_reducible assumption | omega) (by first | with_reducible assumption | omega) (fun c_7 => ?_) (fun c_7 => ?_)) | (refine wp_icmp_ge (pc := 7) (tgt := 16) dX5_at_7 (by decide) (fun c_7 => ?_) (fun c_7 => ?_))
  · exact absurd hj (by omega)
  · refine wp_aload_n (pc := 10) (i := 0) dX5_at_10 rfl rfl (by first | with_reducible assumption | rfl) ?_
    refine wp_iload_n (pc := 11) (i := 1) dX5_at_11 rfl rfl ?_
    refine wp_ialdT (pc := 12) dX5_at_12 h1 h2 hj ?_
    refine wp_goto (pc := 13) (tgt := 17) dX5_at_13 (by decide) ?_
    refine wp_ireturn (pc := 17) dX5_at_17 rfl ?_
    exact pq_i rfl
/-- the ways' table filled for one cell, the first k ways -/
def srI (w h c k : Nat) (I : MemI) : MemI := fun a i => if a = 4 ∧ i % 16 = c ∧ i / 16 < k then ocI (nbr w h c (i / 16)) else I a i
theorem srI_0 {w h c : Nat} {I : MemI} : srI w h c 0 I = I := by
  funext a i; simp [srI]
theorem srI_s {w h c k : Nat} {I : MemI} (hc : c < 16) : uI (srI w h c k I) 4 (k * 16 + c) (ocI (nbr w h c k)) = srI w h c (k + 1) I := by
  funext a i
  unfold uI srI
  by_cases ha : a = 4
  · subst ha
    by_cases hi : i = k * 16 + c
    · subst hi
      have e1 : (k * 16 + c) % 16 = c := by omega
      have e2 : (k * 16 + c) / 16 = k := by omega
      simp [e1, e2]
    · rw [if_neg (fun z => hi z.2)]
      by_cases h1 : i % 16 = c ∧ i / 16 < k
      · rw [if_pos ⟨rfl, h1⟩, if_pos ⟨rfl, h1.1, by omega⟩]
      · rw [if_neg (fun z => h1 z.2), if_neg (fun z => h1 ⟨z.2.1, by omega⟩)]
  · rw [if_neg (fun z => ha z.1), if_neg (fun z => ha z.1), if_neg (fun z => ha z.1)]
theorem srI_o {w h c k a i : Nat} {I : MemI} (ha : a ≠ 4) : srI w h c k I a i = I a i := by simp [srI, ha]
set_option maxHeartbeats 16000000 in
theorem sp_X0_surround {w h c x y : Nat} (hw : I 3 5 = nI w) (hh : I 3 6 = nI h) (hw4 : w ≤ 4) (hh4 : h ≤ 4) (hc : c < 16) (hx : c % w = x) (hy : c / w = y) : CALL ΩC (d + 1) kX0_surround [.ref 3, .int (nI c), .int (nI x), .int (nI y)] I J (VQ (fun I' J' => I' = uI (uI (srI w h c 8 I) 5 c (nI (mset (kst w h c)))) 6 c (nI (mset (nst w h c))) ∧ J' = J)) := by
  have hx4 : x ≤ 16 := by rw [← hx]; have := Nat.mod_le c w; omega
  have hy4 : y ≤ 16 := by rw [← hy]; have := Nat.div_le_self c w; omega
  have loop : ∀ n k, n + k = 8 → WP ΩC (d + 1) kX0_surround 9 [(0, .ref 3), (1, .int (nI c)), (2, .int (nI x)), (3, .int (nI y)), (4, .int (nI (mset (fun t => anK (fun k => nbr w h c k == some t) k)))), (5, .int (nI (mset (fun t => anK (fun k => lep w h c k == some t) k)))), (6, .int (nI k))] [] (srI w h c k I) J (VQ (fun I' J' => I' = uI (uI (srI w h c 8 I) 5 c (nI (mset (kst w h c)))) 6 c (nI (mset (nst w h c))) ∧ J' = J)) := by
    intro n
    induction n with
    | zero =>
      intro k hk
      have hk8 : k = 8 := (Nat.zero_add k).symm.trans hk
      subst hk8
      refine wp_iload (pc := 9) dX0_surround_9 rfl ?_
      refine wp_bipush (pc := 11) (v := nI 8) dX0_surround_11 (by decide +kernel) ?_
      first | (refine wp_icmp_geN (pc := 13) (tgt := 106) dX0_surround_13 (by decide) (by first | with_reducible assumption | omega) (by first | with_reducible assumption | omega) (fun c_13 => ?_) (fun c_13 => ?_)) | (refine wp_icmp_ge (pc := 13) (tgt := 106) dX0_surround_13 (by decide) (fun c_13 => ?_) (fun c_13 => ?_))
      · refine wp_aload_n (pc := 106) (i := 0) dX0_surround_106 rfl rfl (by first | with_reducible assumption | rfl) ?_
        refine wp_getR (pc := 107) dX0_surround_107 lf_X0_15 (by first | with_reducible assumption | rfl) (by first | with_reducible assumption | rfl) rfl (by first | with_reducible assumption | rfl) (by first | with_reducible assumption | rfl) ?_
        refine wp_iload_n (pc := 110) (i := 1) dX0_surround_110 rfl rfl ?_
        refine wp_iload (pc := 111) dX0_surround_111 rfl ?_
        refine wp_cSV3 (pc := 113) dX0_surround_113 lm_X0_88 m_X5_lay (Nat.le_of_ble_eq_true rfl) (sp_X5_lay (by first | with_reducible assumption | rfl) (by first | with_reducible assumption | rfl) (by first | with_reducible assumption | omega) (by decide)) (fun I_113 J_113 h_113 => ?_)
        obtain ⟨rfl, rfl⟩ := h_113
        refine wp_aload_n (pc := 116) (i := 0) dX0_surround_116 rfl rfl (by first | with_reducible assumption | rfl) ?_
        refine wp_getR (pc := 117) dX0_surround_117 lf_X0_18 (by first | with_reducible assumption | rfl) (by first | with_reducible assumption | rfl) rfl (by first | with_reducible assumption | rfl) (by first | with_reducible assumption | rfl) ?_
        refine wp_iload_n (pc := 120) (i := 1) dX0_surround_120 rfl rfl ?_
        refine wp_iload (pc := 121) dX0_surround_121 rfl ?_
        refine wp_cSV3 (pc := 123) dX0_surround_123 lm_X0_88 m_X5_lay (Nat.le_of_ble_eq_true rfl) (sp_X5_lay (by first | with_reducible assumption | rfl) (by first | with_reducible assumption | rfl) (by first | with_reducible assumption | omega) (by decide)) (fun I_123 J_123 h_123 => ?_)
        obtain ⟨rfl, rfl⟩ := h_123
        refine wp_return (pc := 126) dX0_surround_126 rfl ?_
        exact vq_i ⟨rfl, rfl⟩
      · exact absurd (show 8 ≤ 8 by omega) c_13
    | succ n ih =>
      intro k hk
      have hk8 : k < 8 := by omega
      have hw' : srI w h c k I 3 5 = nI w := by rw [srI_o (by decide)]; exact hw
      have hh' : srI w h c k I 3 6 = nI h := by rw [srI_o (by decide)]; exact hh
      have b1 := dX_b k
      have b2 := dY_b k
      have b3 := eX_b k
      have b4 := eY_b k
      have e1 : cat w h ((x : Int) + dX k) ((y : Int) + dY k) = nbr w h c k := by rw [nbr, cxx, cyy, hx, hy]
      have e2 : cat w h ((x : Int) + eX k) ((y : Int) + eY k) = lep w h c k := by rw [lep, cxx, cyy, hx, hy]
      have h1 : ∀ q, nbr w h c k = some q → q < 16 := cat16 hw4 hh4
      have h2 : ∀ q, lep w h c k = some q → q < 16 := cat16 hw4 hh4
      have hw2 : srI w h c (k + 1) I 3 5 = nI w := by rw [srI_o (by decide)]; exact hw
      have hh2 : srI w h c (k + 1) I 3 6 = nI h := by rw [srI_o (by decide)]; exact hh
      refine wp_iload (pc := 9) dX0_surround_9 rfl ?_
      refine wp_bipush (pc := 11) (v := nI 8) dX0_surround_11 (by decide +kernel) ?_
      first | (refine wp_icmp_geN (pc := 13) (tgt := 106) dX0_surround_13 (by decide) (by first | with_reducible assumption | omega) (by first | with_reducible assumption | omega) (fun c_13 => ?_) (fun c_13 => ?_)) | (refine wp_icmp_ge (pc := 13) (tgt := 106) dX0_surround_13 (by decide) (fun c_13 => ?_) (fun c_13 => ?_))
      · exact absurd c_13 (by omega)
      · refine wp_aload_n (pc := 16) (i := 0) dX0_surround_16 rfl rfl (by first | with_reducible assumption | rfl) ?_
        refine wp_iload_n (pc := 17) (i := 2) dX0_surround_17 rfl rfl ?_
        refine wp_gets (pc := 18) (i := 1000) dX0_surround_18 (nm := "ACROSS") (by decide) sf_X0_78 rfl ?_
        refine wp_iload (pc := 21) dX0_surround_21 rfl ?_
        refine wp_cSP2 (pc := 23) dX0_surround_23 lm_X0_51 m_X5_at (Nat.le_of_ble_eq_true rfl) (sp_X5_atT (by omega) (by omega) hk8) ?_
        rw [ro_dX k hk8]
        refine wp_iadd (pc := 26) dX0_surround_26 ?_
        rw [show nI x + zI (dX k) = zI ((x : Int) + dX k) by rw [zI_n, zI_add]]
        refine wp_iload_n (pc := 27) (i := 3) dX0_surround_27 rfl rfl ?_
        refine wp_gets (pc := 28) (i := 1001) dX0_surround_28 (nm := "DOWN") (by decide) sf_X0_81 rfl ?_
        refine wp_iload (pc := 31) dX0_surround_31 rfl ?_
        refine wp_cSP2 (pc := 33) dX0_surround_33 lm_X0_51 m_X5_at (Nat.le_of_ble_eq_true rfl) (sp_X5_atT (by omega) (by omega) hk8) ?_
        rw [ro_dY k hk8]
        refine wp_iadd (pc := 36) dX0_surround_36 ?_
        rw [show nI y + zI (dY k) = zI ((y : Int) + dY k) by rw [zI_n, zI_add]]
        refine wp_cVP2 (pc := 37) (ci := 0) dX0_surround_37 lm_X0_84 m_X0_cellAt (by first | with_reducible assumption | rfl) (by first | with_reducible assumption | rfl) (by decide) rfl (Nat.le_of_ble_eq_true rfl) (sp_X0_cellAt (by omega) (by omega) hw' hh' hw4 hh4) ?_
        rw [e1]
        refine wp_istore (pc := 40) dX0_surround_40 (by decide) ?_
        refine wp_aload_n (pc := 42) (i := 0) dX0_surround_42 rfl rfl (by first | with_reducible assumption | rfl) ?_
        refine wp_getR (pc := 43) dX0_surround_43 lf_X0_11 (by first | with_reducible assumption | rfl) (by first | with_reducible assumption | rfl) rfl (by first | with_reducible assumption | rfl) (by first | with_reducible assumption | rfl) ?_
        refine wp_iload (pc := 46) dX0_surround_46 rfl ?_
        refine wp_bipush (pc := 48) (v := nI 16) dX0_surround_48 (by decide +kernel) ?_
        first | (refine wp_imulN (pc := 50) dX0_surround_50 ?_) | (refine wp_imul (pc := 50) dX0_surround_50 ?_)
        refine wp_iload_n (pc := 51) (i := 1) dX0_surround_51 rfl rfl ?_
        first | (refine wp_iaddN (pc := 52) dX0_surround_52 ?_) | (refine wp_iadd (pc := 52) dX0_surround_52 ?_)
        refine wp_iload (pc := 53) dX0_surround_53 rfl ?_
        refine wp_cSV3 (pc := 55) dX0_surround_55 lm_X0_88 m_X5_lay (Nat.le_of_ble_eq_true rfl) (sp_X5_lay (by first | with_reducible assumption | rfl) (by first | with_reducible assumption | rfl) (by first | with_reducible assumption | omega) (by decide)) (fun I_55 J_55 h_55 => ?_)
        obtain ⟨rfl, rfl⟩ := h_55
        rw [srI_s hc]
        refine wp_iload (pc := 58) dX0_surround_58 rfl ?_
        refine wp_iload (pc := 60) dX0_surround_60 rfl ?_
        refine wp_cSP1 (pc := 62) dX0_surround_62 lm_X0_92 m_X0_bitOf (Nat.le_of_ble_eq_true rfl) (sp_X0_bitOf (by with_reducible assumption)) ?_
        first | (refine wp_iorN (pc := 65) dX0_surround_65 ?_) | (refine wp_ior (pc := 65) dX0_surround_65 ?_)
        rw [or_ob h1]
        refine wp_istore (pc := 66) dX0_surround_66 (by decide) ?_
        refine wp_iload (pc := 68) dX0_surround_68 rfl ?_
        refine wp_aload_n (pc := 70) (i := 0) dX0_surround_70 rfl rfl (by first | with_reducible assumption | rfl) ?_
        refine wp_iload_n (pc := 71) (i := 2) dX0_surround_71 rfl rfl ?_
        refine wp_gets (pc := 72) (i := 1002) dX0_surround_72 (nm := "LEAP_ACROSS") (by decide) sf_X0_95 rfl ?_
        refine wp_iload (pc := 75) dX0_surround_75 rfl ?_
        refine wp_cSP2 (pc := 77) dX0_surround_77 lm_X0_51 m_X5_at (Nat.le_of_ble_eq_true rfl) (sp_X5_atT (by omega) (by omega) hk8) ?_
        rw [ro_eX k hk8]
        refine wp_iadd (pc := 80) dX0_surround_80 ?_
        rw [show nI x + zI (eX k) = zI ((x : Int) + eX k) by rw [zI_n, zI_add]]
        refine wp_iload_n (pc := 81) (i := 3) dX0_surround_81 rfl rfl ?_
        refine wp_gets (pc := 82) (i := 1003) dX0_surround_82 (nm := "LEAP_DOWN") (by decide) sf_X0_98 rfl ?_
        refine wp_iload (pc := 85) dX0_surround_85 rfl ?_
        refine wp_cSP2 (pc := 87) dX0_surround_87 lm_X0_51 m_X5_at (Nat.le_of_ble_eq_true rfl) (sp_X5_atT (by omega) (by omega) hk8) ?_
        rw [ro_eY k hk8]
        refine wp_iadd (pc := 90) dX0_surround_90 ?_
        rw [show nI y + zI (eY k) = zI ((y : Int) + eY k) by rw [zI_n, zI_add]]
        refine wp_cVP2 (pc := 91) (ci := 0) dX0_surround_91 lm_X0_84 m_X0_cellAt (by first | with_reducible assumption | rfl) (by first | with_reducible assumption | rfl) (by decide) rfl (Nat.le_of_ble_eq_true rfl) (sp_X0_cellAt (by omega) (by omega) hw2 hh2 hw4 hh4) ?_
        rw [e2]
        refine wp_cSP1 (pc := 94) dX0_surround_94 lm_X0_92 m_X0_bitOf (Nat.le_of_ble_eq_true rfl) (sp_X0_bitOf (by with_reducible assumption)) ?_
        first | (refine wp_iorN (pc := 97) dX0_surround_97 ?_) | (refine wp_ior (pc := 97) dX0_surround_97 ?_)
        rw [or_ob h2]
        refine wp_istore (pc := 98) dX0_surround_98 (by decide) ?_
        first | (refine wp_iincN (pc := 100) (m := 1) dX0_surround_100 rfl rfl (by decide) ?_) | (refine wp_iinc (pc := 100) dX0_surround_100 rfl rfl (by decide) ?_)
        refine wp_goto (pc := 103) (tgt := 9) dX0_surround_103 (by decide) ?_
        refine wp_drop 7 ?_
        exact ih (k + 1) (by omega)
  refine call_of_wp (by decide) (Nat.le_of_ble_eq_true rfl) ?_
  refine wp_iconst (pc := 0) (v := nI 0) dX0_surround_0 (by decide +kernel) ?_
  refine wp_istore (pc := 1) dX0_surround_1 (by decide) ?_
  refine wp_iconst (pc := 3) (v := nI 0) dX0_surround_3 (by decide +kernel) ?_
  refine wp_istore (pc := 4) dX0_surround_4 (by decide) ?_
  refine wp_iconst (pc := 6) (v := nI 0) dX0_surround_6 (by decide +kernel) ?_
  refine wp_istore (pc := 7) dX0_surround_7 (by decide) ?_
  have h := loop 8 0 rfl
  rw [srI_0] at h
  have e0 : ∀ f : Nat → Nat → Bool, mset (fun t => anK (f t) 0) = 0 := fun f => mset_none
  rw [e0, e0] at h
  exact h
set_option maxHeartbeats 16000000 in
theorem sp_X0_lookAhead {w h i x : Nat} {y : Int} (hw : I 3 5 = nI w) (hh : I 3 6 = nI h) (hw4 : w ≤ 4) (hh4 : h ≤ 4) (hi : i < 32) (hx : x ≤ 16) (hy : -100 ≤ y ∧ y ≤ 100) : CALL ΩC (d + 1) kX0_lookAhead [.ref 3, .int (nI i), .int (nI x), .int (zI y)] I J (VQ (fun I' J' => I' = uI (uI I 8 i (nI (mset (fun t => cat w h x y == some t)))) 7 i (nI (mset (fun t => (cat w h ((x : Int) - 1) y == some t) || (cat w h ((x : Int) + 1) y == some t)))) ∧ J' = J)) := by
  have g : ∀ {z : Int} (c : Nat), cat w h z y = some c → c < 16 := fun c => cat16 hw4 hh4 c
  have e0 : obN (cat w h x y) = mset (fun t => cat w h x y == some t) := by
    have := or_ob (P := fun _ => false) (g (z := x))
    rw [mset_none, Nat.zero_or] at this
    rw [this]
    exact mset_eq fun t _ => by simp
  have e1 : obN (cat w h ((x : Int) - 1) y) ||| obN (cat w h ((x : Int) + 1) y) = mset (fun t => (cat w h ((x : Int) - 1) y == some t) || (cat w h ((x : Int) + 1) y == some t)) := by
    have h1 := or_ob (P := fun _ => false) (g (z := (x : Int) - 1))
    rw [mset_none, Nat.zero_or] at h1
    rw [h1, or_ob (g (z := (x : Int) + 1))]
    exact mset_eq fun t _ => by simp
  refine call_of_wp (by decide) (Nat.le_of_ble_eq_true rfl) ?_
  refine wp_aload_n (pc := 0) (i := 0) dX0_lookAhead_0 rfl rfl (by first | with_reducible assumption | rfl) ?_
  refine wp_getR (pc := 1) dX0_lookAhead_1 lf_X0_24 (by first | with_reducible assumption | rfl) (by first | with_reducible assumption | rfl) rfl (by first | with_reducible assumption | rfl) (by first | with_reducible assumption | rfl) ?_
  refine wp_iload_n (pc := 4) (i := 1) dX0_lookAhead_4 rfl rfl ?_
  refine wp_aload_n (pc := 5) (i := 0) dX0_lookAhead_5 rfl rfl (by first | with_reducible assumption | rfl) ?_
  refine wp_iload_n (pc := 6) (i := 2) dX0_lookAhead_6 rfl rfl ?_
  refine wp_iload_n (pc := 7) (i := 3) dX0_lookAhead_7 rfl rfl ?_
  rw [show nI x = zI (x : Int) from rfl]
  refine wp_cVP2 (pc := 8) (ci := 0) dX0_lookAhead_8 lm_X0_84 m_X0_cellAt (by first | with_reducible assumption | rfl) (by first | with_reducible assumption | rfl) (by decide) rfl (Nat.le_of_ble_eq_true rfl) (sp_X0_cellAt (by omega) (by omega) hw hh hw4 hh4) ?_
  refine wp_cSP1 (pc := 11) dX0_lookAhead_11 lm_X0_92 m_X0_bitOf (Nat.le_of_ble_eq_true rfl) (sp_X0_bitOf g) ?_
  rw [e0]
  refine wp_cSV3 (pc := 14) dX0_lookAhead_14 lm_X0_88 m_X5_lay (Nat.le_of_ble_eq_true rfl) (sp_X5_lay (by first | with_reducible assumption | rfl) (by first | with_reducible assumption | rfl) (by first | with_reducible assumption | omega) (by decide)) (fun I_14 J_14 h_14 => ?_)
  obtain ⟨rfl, rfl⟩ := h_14
  have hw2 : uI I 8 i (nI (mset (fun t => cat w h x y == some t))) 3 5 = nI w := by simp [uI, hw]
  have hh2 : uI I 8 i (nI (mset (fun t => cat w h x y == some t))) 3 6 = nI h := by simp [uI, hh]
  refine wp_aload_n (pc := 17) (i := 0) dX0_lookAhead_17 rfl rfl (by first | with_reducible assumption | rfl) ?_
  refine wp_getR (pc := 18) dX0_lookAhead_18 lf_X0_21 (by first | with_reducible assumption | rfl) (by first | with_reducible assumption | rfl) rfl (by first | with_reducible assumption | rfl) (by first | with_reducible assumption | rfl) ?_
  refine wp_iload_n (pc := 21) (i := 1) dX0_lookAhead_21 rfl rfl ?_
  refine wp_aload_n (pc := 22) (i := 0) dX0_lookAhead_22 rfl rfl (by first | with_reducible assumption | rfl) ?_
  refine wp_iload_n (pc := 23) (i := 2) dX0_lookAhead_23 rfl rfl ?_
  refine wp_iconst (pc := 24) (v := nI 1) dX0_lookAhead_24 (by decide +kernel) ?_
  refine wp_isub (pc := 25) dX0_lookAhead_25 ?_
  rw [show zI (x : Int) - nI 1 = zI ((x : Int) - 1) by rw [zI_n, zI_sub]; rfl]
  refine wp_iload_n (pc := 26) (i := 3) dX0_lookAhead_26 rfl rfl ?_
  refine wp_cVP2 (pc := 27) (ci := 0) dX0_lookAhead_27 lm_X0_84 m_X0_cellAt (by first | with_reducible assumption | rfl) (by first | with_reducible assumption | rfl) (by decide) rfl (Nat.le_of_ble_eq_true rfl) (sp_X0_cellAt (by omega) (by omega) hw2 hh2 hw4 hh4) ?_
  refine wp_cSP1 (pc := 30) dX0_lookAhead_30 lm_X0_92 m_X0_bitOf (Nat.le_of_ble_eq_true rfl) (sp_X0_bitOf g) ?_
  refine wp_aload_n (pc := 33) (i := 0) dX0_lookAhead_33 rfl rfl (by first | with_reducible assumption | rfl) ?_
  refine wp_iload_n (pc := 34) (i := 2) dX0_lookAhead_34 rfl rfl ?_
  refine wp_iconst (pc := 35) (v := nI 1) dX0_lookAhead_35 (by decide +kernel) ?_
  refine wp_iadd (pc := 36) dX0_lookAhead_36 ?_
  rw [show zI (x : Int) + nI 1 = zI ((x : Int) + 1) by rw [zI_n, zI_add]; rfl]
  refine wp_iload_n (pc := 37) (i := 3) dX0_lookAhead_37 rfl rfl ?_
  refine wp_cVP2 (pc := 38) (ci := 0) dX0_lookAhead_38 lm_X0_84 m_X0_cellAt (by first | with_reducible assumption | rfl) (by first | with_reducible assumption | rfl) (by decide) rfl (Nat.le_of_ble_eq_true rfl) (sp_X0_cellAt (by omega) (by omega) hw2 hh2 hw4 hh4) ?_
  refine wp_cSP1 (pc := 41) dX0_lookAhead_41 lm_X0_92 m_X0_bitOf (Nat.le_of_ble_eq_true rfl) (sp_X0_bitOf g) ?_
  first | (refine wp_iorN (pc := 44) dX0_lookAhead_44 ?_) | (refine wp_ior (pc := 44) dX0_lookAhead_44 ?_)
  rw [e1]
  refine wp_cSV3 (pc := 45) dX0_lookAhead_45 lm_X0_88 m_X5_lay (Nat.le_of_ble_eq_true rfl) (sp_X5_lay (by first | with_reducible assumption | rfl) (by first | with_reducible assumption | rfl) (by first | with_reducible assumption | omega) (by decide)) (fun I_45 J_45 h_45 => ?_)
  obtain ⟨rfl, rfl⟩ := h_45
  refine wp_return (pc := 48) dX0_lookAhead_48 rfl ?_
  exact vq_i ⟨rfl, rfl⟩
end FLD
