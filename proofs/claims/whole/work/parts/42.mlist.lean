/-! THE REFERENCE: list -/
/-- what stands on a cell, as told by its byte; beyond the board 0 -/
def ccd (n : Nat) (g : Nat → Nat) (c : Nat) : Nat := if c < n then asc (g c) else 0
/-- one level in full -/
def LX (n k : Nat) (b : Bd) (I : MemI) : Prop := (∀ c, c < 16 → I 1 (16 * k + c) = nI (ccd n b.1 c) ∧ I 2 (16 * k + c) = nI (b.2.1 c)) ∧ I 3 k = nI b.2.2.1 ∧ I 4 k = lsI b.2.2.2
theorem LX_V {n k : Nat} {b : Bd} {I : MemI} (hn : n ≤ 16) (h : LX n k b I) : LV n k b I := ⟨fun c hc => by
  have := h.1 c (by omega)
  unfold ccd at this
  rw [if_pos hc] at this
  exact this, h.2⟩
theorem LX_n {n k : Nat} {b : Bd} {I I' : MemI} (h : LX n k b I) (hk : k < 4) (hI : ∀ a i, (a = 1 ∨ a = 2) → 16 * k ≤ i → i < 16 * k + 16 → I' a i = I a i) (h3 : I' 3 k = I 3 k) (h4 : I' 4 k = I 4 k) : LX n k b I' :=
  ⟨fun c hc => by rw [hI 1 _ (Or.inl rfl) (by omega) (by omega), hI 2 _ (Or.inr rfl) (by omega) (by omega)]; exact h.1 c hc, by rw [h3]; exact h.2.1, by rw [h4]; exact h.2.2⟩
theorem WH_fr {w h : Nat} {I I' : MemI} (hW : WH w h I) (h0 : ∀ i, I' 0 i = I 0 i) : WH w h I' := ⟨hW.1, by rw [h0]; exact hW.2.1, by rw [h0]; exact hW.2.2⟩
/-- a PLY as the reference tells it -/
def encM (x : Nat) : Nat := if x = 256 then 999 else x
/-- the list of a level; what else stands is as it was -/
def LsT (k : Nat) (l : List Nat) (I I' : MemI) : Prop := (∀ j, j < l.length → I' 6 (256 * k + j) = nI (encM (l.getD j 0))) ∧ ∀ a i, ¬ (a = 6 ∧ 256 * k ≤ i ∧ i < 256 * k + 64) → ¬ (a = 7 ∧ i = k) → I' a i = I a i
theorem bit_1 (m i : Nat) : m / 2 ^ i &&& 1 = (m.testBit i).toNat := by
  rw [Nat.and_one_is_mod, Nat.testBit_eq_decide_div_mod_eq]
  have := Nat.mod_lt (m / 2 ^ i) (show 0 < 2 by decide)
  by_cases h : m / 2 ^ i % 2 = 1
  · rw [decide_eq_true h, h]; rfl
  · rw [decide_eq_false h]
    show m / 2 ^ i % 2 = 0
    omega
theorem plL_s {w h x : Nat} {b : Bd} : plL w h b (x + 1) = plL w h b x ++ (if plP w h b x = true then [x] else []) := by
  unfold plL
  rw [List.range_succ, List.filter_append]
  congr 1
  cases hp : plP w h b x <;> simp [hp]
theorem plL_lt {w h n x : Nat} {b : Bd} (hx : x ∈ plL w h b n) : x < n := by
  unfold plL at hx
  rw [List.mem_filter, List.mem_range] at hx
  exact hx.1
theorem getD_mem {l : List Nat} {j : Nat} (hj : j < l.length) : l.getD j 0 ∈ l := by
  rw [List.getD_eq_getElem?_getD, List.getElem?_eq_getElem hj]
  exact List.getElem_mem hj
section MLI
variable {d : Nat} {I : MemI} {J : MemJ}
set_option maxHeartbeats 16000000 in
theorem sp_X6_list {w h k : Nat} {b : Bd} (hW : WH w h I) (hL : LX (w * h) k b I) (hB : Bok (w * h) b) (hk : k < 4) : CALL ΩM (d + 6) kX6_list [.ref 0, .int (nI k)] I J (IQ (fun x I' J' => x = nI (PLY w h b).length ∧ LsT k (PLY w h b) I I' ∧ I' 7 k = nI (PLY w h b).length ∧ J' = J)) := by
  have n16 := (WH_n hW).2
  have n1 := (WH_n hW).1
  have ho := hB.2.2.2.1
  have hl3 := hB.2.2.2.2.1
  have e0 := hW.2.1
  have e1 := hW.2.2
  have e4 := hL.2.2
  have tail : ∀ (l : List Nat) (I2 : MemI) (L : Lcs), l.length ≤ 64 → lget L 0 = some (.ref 0) → lget L 1 = some (.int (nI k)) → lget L 2 = some (.int (nI l.length)) → LsT k l I I2 → l = PLY w h b → WP ΩM (d + 6) kX6_list 148 L [] I2 J (IQ (fun x I' J' => x = nI (PLY w h b).length ∧ LsT k (PLY w h b) I I' ∧ I' 7 k = nI (PLY w h b).length ∧ J' = J)) := by
    intro l I2 L hl h0 h1 h2 hm he
    subst he
    refine wp_aload_n (pc := 148) (i := 0) dX6_list_148 rfl h0 rfl ?_
    refine wp_getR (pc := 149) dX6_list_149 lf_X6_28 (by first | with_reducible assumption | rfl) (by first | with_reducible assumption | rfl) rfl (by first | with_reducible assumption | rfl) (by first | with_reducible assumption | rfl) ?_
    refine wp_iload_n (pc := 152) (i := 1) dX6_list_152 rfl h1 ?_
    refine wp_iload_n (pc := 153) (i := 2) dX6_list_153 rfl h2 ?_
    refine wp_iast (pc := 154) dX6_list_154 (by first | with_reducible assumption | rfl) (by first | with_reducible assumption | rfl) (by first | with_reducible assumption | omega) (by first | decide | omega) ?_
    refine wp_iload_n (pc := 155) (i := 2) dX6_list_155 rfl h2 ?_
    refine wp_ireturn (pc := 156) dX6_list_156 rfl ?_
    refine iq_i ⟨rfl, ⟨fun j hj => ?_, fun a i z1 z2 => ?_⟩, ?_, rfl⟩
    · have := hm.1 j hj
      simp [uI, this]
    · have := hm.2 a i z1 z2
      simp [uI, z2, this]
    · simp [uI]
  by_cases hl : b.2.2.2 = 2
  · have e49 : I 4 k = -9 := by rw [e4, hl]; rfl
    have eP : PLY w h b = if plL w h b 256 = [] then [256] else plL w h b 256 := by
      unfold PLY
      rw [if_neg (fun z => z hl)]
    have fin : ∀ (I2 : MemI), LsT k (plL w h b 256) I I2 → WP ΩM (d + 6) kX6_list 118 [(0, .ref 0), (1, .int (nI k)), (2, .int (nI (plL w h b 256).length)), (3, .int (nI (w * h)))] [] I2 J (IQ (fun x I' J' => x = nI (PLY w h b).length ∧ LsT k (PLY w h b) I I' ∧ I' 7 k = nI (PLY w h b).length ∧ J' = J)) := by
      intro I2 hm
      have hl64 := plL_len (w := w) (h := h) (b := b) (n := 256) ho (Nat.le_refl _)
      have e42 : I2 4 k = -9 := by rw [hm.2 4 k (by omega) (by omega)]; exact e49
      by_cases hz : (plL w h b 256).length = 0
      · have hnil := List.length_eq_zero_iff.mp hz
        have hm2 : LsT k [256] I (uI I2 6 (256 * k) (nI 999)) := ⟨fun j hj => by
          have hj0 : j = 0 := by
            have : j < 1 := hj
            omega
          subst hj0
          simp [uI, encM], fun a i z1 z2 => by
          have : ¬ (a = 6 ∧ i = 256 * k) := fun y => z1 ⟨y.1, by omega, by omega⟩
          rw [← hm.2 a i z1 z2]
          show (if a = 6 ∧ i = 256 * k then nI 999 else I2 a i) = I2 a i
          rw [if_neg this]⟩
        have e2 : [256] = PLY w h b := by rw [eP, if_pos hnil]
        have ht := tail [256] (uI I2 6 (256 * k) (nI 999)) [(0, .ref 0), (1, .int (nI k)), (2, .int (nI 1)), (3, .int (nI (w * h)))] (by decide) rfl rfl rfl hm2 e2
        rw [hz]
        refine wp_iload_n (pc := 118) (i := 2) dX6_list_118 rfl rfl ?_
        refine wp_if_neN (pc := 119) (tgt := 148) dX6_list_119 (by decide) (by first | with_reducible assumption | omega) (fun c_119 => ?_) (fun c_119 => ?_)
        · exact absurd rfl c_119
        · refine wp_aload_n (pc := 122) (i := 0) dX6_list_122 rfl rfl (by first | with_reducible assumption | rfl) ?_
          refine wp_getR (pc := 123) dX6_list_123 lf_X6_19 (by first | with_reducible assumption | rfl) (by first | with_reducible assumption | rfl) rfl (by first | with_reducible assumption | rfl) (by first | with_reducible assumption | rfl) ?_
          refine wp_iload_n (pc := 126) (i := 1) dX6_list_126 rfl rfl ?_
          refine wp_iald (pc := 127) dX6_list_127 (by first | with_reducible assumption | rfl) (by first | with_reducible assumption | rfl) (by first | with_reducible assumption | omega) (by first | decide | omega) ?_
          rw [e42]
          refine wp_bipush (pc := 128) (v := (-9)) dX6_list_128 (by decide +kernel) ?_
          refine wp_icmp_ne (pc := 130) (tgt := 148) dX6_list_130 (by decide) (fun c_130 => ?_) (fun c_130 => ?_)
          · exact absurd rfl c_130
          · refine wp_aload_n (pc := 133) (i := 0) dX6_list_133 rfl rfl (by first | with_reducible assumption | rfl) ?_
            refine wp_getR (pc := 134) dX6_list_134 lf_X6_25 (by first | with_reducible assumption | rfl) (by first | with_reducible assumption | rfl) rfl (by first | with_reducible assumption | rfl) (by first | with_reducible assumption | rfl) ?_
            refine wp_sipush (pc := 137) (v := nI 256) dX6_list_137 (by decide +kernel) ?_
            refine wp_iload_n (pc := 140) (i := 1) dX6_list_140 rfl rfl ?_
            first | (refine wp_imulN (pc := 141) dX6_list_141 ?_) | (refine wp_imul (pc := 141) dX6_list_141 ?_)
            refine wp_sipush (pc := 142) (v := nI 999) dX6_list_142 (by decide +kernel) ?_
            refine wp_iast (pc := 145) dX6_list_145 (by first | with_reducible assumption | rfl) (by first | with_reducible assumption | rfl) (by first | with_reducible assumption | omega) (by first | decide | omega) ?_
            refine wp_iconst (pc := 146) (v := nI 1) dX6_list_146 (by decide +kernel) ?_
            refine wp_istore_n (pc := 147) (i := 2) dX6_list_147 rfl (by decide) ?_
            exact ht
      · have e2 : plL w h b 256 = PLY w h b := by rw [eP, if_neg (fun z => hz (by rw [z]; rfl))]
        have ht := tail (plL w h b 256) I2 [(0, .ref 0), (1, .int (nI k)), (2, .int (nI (plL w h b 256).length)), (3, .int (nI (w * h)))] hl64 rfl rfl rfl hm e2
        refine wp_iload_n (pc := 118) (i := 2) dX6_list_118 rfl rfl ?_
        refine wp_if_neN (pc := 119) (tgt := 148) dX6_list_119 (by decide) (by first | with_reducible assumption | omega) (fun c_119 => ?_) (fun c_119 => ?_)
        · exact ht
        · exact absurd c_119 hz
    have outer : ∀ m c (I2 : MemI), m + c = w * h → LsT k (plL w h b (16 * c)) I I2 → WP ΩM (d + 6) kX6_list 4 [(0, .ref 0), (1, .int (nI k)), (2, .int (nI (plL w h b (16 * c)).length)), (3, .int (nI c))] [] I2 J (IQ (fun x I' J' => x = nI (PLY w h b).length ∧ LsT k (PLY w h b) I I' ∧ I' 7 k = nI (PLY w h b).length ∧ J' = J)) := by
      intro m
      induction m with
      | zero =>
        intro c I2 hc hm
        have hc' : c = w * h := (Nat.zero_add c).symm.trans hc
        have f0 : I2 0 0 = nI w := by rw [hm.2 0 0 (by omega) (by omega)]; exact e0
        have f1 : I2 0 1 = nI h := by rw [hm.2 0 1 (by omega) (by omega)]; exact e1
        rw [hc', plL_end n16 hB.2.2.2.2.2] at hm
        have hf := fin I2 hm
        rw [hc', plL_end n16 hB.2.2.2.2.2]
        refine wp_iload_n (pc := 4) (i := 3) dX6_list_4 rfl rfl ?_
        refine wp_aload_n (pc := 5) (i := 0) dX6_list_5 rfl rfl (by first | with_reducible assumption | rfl) ?_
        refine wp_getI (pc := 6) dX6_list_6 lf_X6_47 (by first | with_reducible assumption | rfl) (by first | with_reducible assumption | rfl) rfl ?_
        rw [f0]
        refine wp_aload_n (pc := 9) (i := 0) dX6_list_9 rfl rfl (by first | with_reducible assumption | rfl) ?_
        refine wp_getI (pc := 10) dX6_list_10 lf_X6_51 (by first | with_reducible assumption | rfl) (by first | with_reducible assumption | rfl) rfl ?_
        rw [f1]
        first | (refine wp_imulN (pc := 13) dX6_list_13 ?_) | (refine wp_imul (pc := 13) dX6_list_13 ?_)
        first | (refine wp_icmp_geN (pc := 14) (tgt := 118) dX6_list_14 (by decide) (by first | with_reducible assumption | omega) (by first | with_reducible assumption | omega) (fun c_14 => ?_) (fun c_14 => ?_)) | (refine wp_icmp_ge (pc := 14) (tgt := 118) dX6_list_14 (by decide) (fun c_14 => ?_) (fun c_14 => ?_))
        · exact hf
        · exact absurd (Nat.le_refl _) c_14
      | succ m ih =>
        intro c I2 hc hm
        have hcn : c < w * h := by omega
        have inner : ∀ m2 t (I3 : MemI), m2 + t = 16 → LsT k (plL w h b (16 * c + t)) I I3 → WP ΩM (d + 6) kX6_list 66 [(0, .ref 0), (1, .int (nI k)), (2, .int (nI (plL w h b (16 * c + t)).length)), (3, .int (nI c)), (4, .int (nI (mset (fun i => menP b.1 b.2.2.1 c && reaP w h b.1 c i)))), (5, .int (nI t))] [] I3 J (IQ (fun x I' J' => x = nI (PLY w h b).length ∧ LsT k (PLY w h b) I I' ∧ I' 7 k = nI (PLY w h b).length ∧ J' = J)) := by
          intro m2
          induction m2 with
          | zero =>
            intro t I3 ht hm3
            have ht' : t = 16 := (Nat.zero_add t).symm.trans ht
            subst ht'
            have h0 := ih (c + 1) I3 (by omega) hm3
            clear ih
            refine wp_iload (pc := 66) dX6_list_66 rfl ?_
            refine wp_bipush (pc := 68) (v := nI 16) dX6_list_68 (by decide +kernel) ?_
            first | (refine wp_icmp_geN (pc := 70) (tgt := 112) dX6_list_70 (by decide) (by first | with_reducible assumption | omega) (by first | with_reducible assumption | omega) (fun c_70 => ?_) (fun c_70 => ?_)) | (refine wp_icmp_ge (pc := 70) (tgt := 112) dX6_list_70 (by decide) (fun c_70 => ?_) (fun c_70 => ?_))
            · first | (refine wp_iincN (pc := 112) (m := 1) dX6_list_112 rfl rfl (by decide) ?_) | (refine wp_iinc (pc := 112) dX6_list_112 rfl rfl (by decide) ?_)
              refine wp_goto (pc := 115) (tgt := 4) dX6_list_115 (by decide) ?_
              refine wp_drop 4 ?_
              exact h0
            · exact absurd (Nat.le_refl 16) c_70
          | succ m2 ih2 =>
            intro t I3 ht hm3
            have ht16 : t < 16 := by omega
            have hml := mset_lt (fun i => menP b.1 b.2.2.1 c && reaP w h b.1 c i)
            have d1 : (16 * c + t) / 16 = c := by omega
            have d2 : (16 * c + t) % 16 = t := by omega
            have hbit : mset (fun i => menP b.1 b.2.2.1 c && reaP w h b.1 c i) / 2 ^ t &&& 1 = (plP w h b (16 * c + t)).toNat := by
              rw [bit_1, mset_bit' _ ht16]
              unfold plP
              rw [d1, d2]
            have hs := plL_s (w := w) (h := h) (x := 16 * c + t) (b := b)
            have hl64 := plL_len (w := w) (h := h) (b := b) (n := 16 * c + t + 1) ho (by omega)
            have h0 := fun I4 => ih2 (t + 1) I4 (by omega)
            clear ih ih2
            cases hp : plP w h b (16 * c + t)
            · rw [hp] at hbit
              rw [hp, if_neg Bool.false_ne_true, List.append_nil] at hs
              rw [show 16 * c + (t + 1) = 16 * c + t + 1 from rfl, hs] at h0
              have h1 := h0 I3 hm3
              refine wp_iload (pc := 66) dX6_list_66 rfl ?_
              refine wp_bipush (pc := 68) (v := nI 16) dX6_list_68 (by decide +kernel) ?_
              first | (refine wp_icmp_geN (pc := 70) (tgt := 112) dX6_list_70 (by decide) (by first | with_reducible assumption | omega) (by first | with_reducible assumption | omega) (fun c_70 => ?_) (fun c_70 => ?_)) | (refine wp_icmp_ge (pc := 70) (tgt := 112) dX6_list_70 (by decide) (fun c_70 => ?_) (fun c_70 => ?_))
              · exact absurd c_70 (by omega)
              · refine wp_iload (pc := 73) dX6_list_73 rfl ?_
                refine wp_iload (pc := 75) dX6_list_75 rfl ?_
                first | (refine wp_ishrN (pc := 77) dX6_list_77 (by first | with_reducible assumption | omega) (by first | with_reducible assumption | omega) ?_) | (refine wp_ishr (pc := 77) dX6_list_77 ?_)
                refine wp_iconst (pc := 78) (v := nI 1) dX6_list_78 (by decide +kernel) ?_
                first | (refine wp_iandN (pc := 79) dX6_list_79 ?_) | (refine wp_iand (pc := 79) dX6_list_79 ?_)
                rw [hbit]
                refine wp_iconst (pc := 80) (v := nI 1) dX6_list_80 (by decide +kernel) ?_
                first | (refine wp_icmp_neN (pc := 81) (tgt := 106) dX6_list_81 (by decide) (by first | with_reducible assumption | omega) (by first | with_reducible assumption | omega) (fun c_81 => ?_) (fun c_81 => ?_)) | (refine wp_icmp_ne (pc := 81) (tgt := 106) dX6_list_81 (by decide) (fun c_81 => ?_) (fun c_81 => ?_))
                · first | (refine wp_iincN (pc := 106) (m := 1) dX6_list_106 rfl rfl (by decide) ?_) | (refine wp_iinc (pc := 106) dX6_list_106 rfl rfl (by decide) ?_)
                  refine wp_goto (pc := 109) (tgt := 66) dX6_list_109 (by decide) ?_
                  exact h1
                · exact absurd c_81 (by decide)
            · rw [hp] at hbit
              rw [hp, if_pos rfl] at hs
              rw [hs, List.length_append, List.length_singleton] at hl64
              generalize plL w h b (16 * c + t) = l at hm3 hs hl64 h0 ⊢
              rw [show 16 * c + (t + 1) = 16 * c + t + 1 from rfl, hs, List.length_append, List.length_singleton] at h0
              have hm4 : LsT k (l ++ [16 * c + t]) I (uI I3 6 (256 * k + l.length) (nI (16 * c + t))) := ⟨fun j hj => by
                rw [List.length_append, List.length_singleton] at hj
                by_cases e : j = l.length
                · rw [e, List.getD_eq_getElem?_getD, List.getElem?_append_right (Nat.le_refl _), Nat.sub_self]
                  have : ¬ 16 * c + t = 256 := by omega
                  simp [uI, encM, this]
                · rw [List.getD_eq_getElem?_getD, List.getElem?_append_left (by omega), ← List.getD_eq_getElem?_getD, ← hm3.1 j (by omega)]
                  have : ¬ 256 * k + j = 256 * k + l.length := by omega
                  simp [uI, e], fun a i z1 z2 => by
                have : ¬ (a = 6 ∧ i = 256 * k + l.length) := fun y => z1 ⟨y.1, by omega, by omega⟩
                rw [← hm3.2 a i z1 z2]
                show (if a = 6 ∧ i = 256 * k + l.length then nI (16 * c + t) else I3 a i) = I3 a i
                rw [if_neg this]⟩
              have h1 := h0 _ hm4
              refine wp_iload (pc := 66) dX6_list_66 rfl ?_
              refine wp_bipush (pc := 68) (v := nI 16) dX6_list_68 (by decide +kernel) ?_
              first | (refine wp_icmp_geN (pc := 70) (tgt := 112) dX6_list_70 (by decide) (by first | with_reducible assumption | omega) (by first | with_reducible assumption | omega) (fun c_70 => ?_) (fun c_70 => ?_)) | (refine wp_icmp_ge (pc := 70) (tgt := 112) dX6_list_70 (by decide) (fun c_70 => ?_) (fun c_70 => ?_))
              · exact absurd c_70 (by omega)
              · refine wp_iload (pc := 73) dX6_list_73 rfl ?_
                refine wp_iload (pc := 75) dX6_list_75 rfl ?_
                first | (refine wp_ishrN (pc := 77) dX6_list_77 (by first | with_reducible assumption | omega) (by first | with_reducible assumption | omega) ?_) | (refine wp_ishr (pc := 77) dX6_list_77 ?_)
                refine wp_iconst (pc := 78) (v := nI 1) dX6_list_78 (by decide +kernel) ?_
                first | (refine wp_iandN (pc := 79) dX6_list_79 ?_) | (refine wp_iand (pc := 79) dX6_list_79 ?_)
                rw [hbit]
                refine wp_iconst (pc := 80) (v := nI 1) dX6_list_80 (by decide +kernel) ?_
                first | (refine wp_icmp_neN (pc := 81) (tgt := 106) dX6_list_81 (by decide) (by first | with_reducible assumption | omega) (by first | with_reducible assumption | omega) (fun c_81 => ?_) (fun c_81 => ?_)) | (refine wp_icmp_ne (pc := 81) (tgt := 106) dX6_list_81 (by decide) (fun c_81 => ?_) (fun c_81 => ?_))
                · exact absurd rfl c_81
                · refine wp_aload_n (pc := 84) (i := 0) dX6_list_84 rfl rfl (by first | with_reducible assumption | rfl) ?_
                  refine wp_getR (pc := 85) dX6_list_85 lf_X6_25 (by first | with_reducible assumption | rfl) (by first | with_reducible assumption | rfl) rfl (by first | with_reducible assumption | rfl) (by first | with_reducible assumption | rfl) ?_
                  refine wp_sipush (pc := 88) (v := nI 256) dX6_list_88 (by decide +kernel) ?_
                  refine wp_iload_n (pc := 91) (i := 1) dX6_list_91 rfl rfl ?_
                  first | (refine wp_imulN (pc := 92) dX6_list_92 ?_) | (refine wp_imul (pc := 92) dX6_list_92 ?_)
                  refine wp_iload_n (pc := 93) (i := 2) dX6_list_93 rfl rfl ?_
                  first | (refine wp_iaddN (pc := 94) dX6_list_94 ?_) | (refine wp_iadd (pc := 94) dX6_list_94 ?_)
                  refine wp_bipush (pc := 95) (v := nI 16) dX6_list_95 (by decide +kernel) ?_
                  refine wp_iload_n (pc := 97) (i := 3) dX6_list_97 rfl rfl ?_
                  first | (refine wp_imulN (pc := 98) dX6_list_98 ?_) | (refine wp_imul (pc := 98) dX6_list_98 ?_)
                  refine wp_iload (pc := 99) dX6_list_99 rfl ?_
                  first | (refine wp_iaddN (pc := 101) dX6_list_101 ?_) | (refine wp_iadd (pc := 101) dX6_list_101 ?_)
                  refine wp_iast (pc := 102) dX6_list_102 (by first | with_reducible assumption | rfl) (by first | with_reducible assumption | rfl) (by first | with_reducible assumption | omega) (by first | decide | omega) ?_
                  first | (refine wp_iincN (pc := 103) (m := 1) dX6_list_103 rfl rfl (by decide) ?_) | (refine wp_iinc (pc := 103) dX6_list_103 rfl rfl (by decide) ?_)
                  first | (refine wp_iincN (pc := 106) (m := 1) dX6_list_106 rfl rfl (by decide) ?_) | (refine wp_iinc (pc := 106) dX6_list_106 rfl rfl (by decide) ?_)
                  refine wp_goto (pc := 109) (tgt := 66) dX6_list_109 (by decide) ?_
                  exact h1
        have f0 : I2 0 0 = nI w := by rw [hm.2 0 0 (by omega) (by omega)]; exact e0
        have f1 : I2 0 1 = nI h := by rw [hm.2 0 1 (by omega) (by omega)]; exact e1
        have f4 : I2 4 k = -9 := by rw [hm.2 4 k (by omega) (by omega)]; exact e49
        have f3 : I2 3 k = nI b.2.2.1 := by rw [hm.2 3 k (by omega) (by omega)]; exact hL.2.1
        have hL2 : LX (w * h) k b I2 := LX_n hL hk (fun a i z _ _ => hm.2 a i (by omega) (by omega)) (hm.2 3 k (by omega) (by omega)) (hm.2 4 k (by omega) (by omega))
        have hV := LX_V n16 hL2
        have hW2 : WH w h I2 := WH_fr hW (fun i => hm.2 0 i (by omega) (by omega))
        have ec := (hV.1 c hcn).1
        have hsc := hB.1 c (by omega)
        have hac := asc_lt (b.1 c)
        have hsf := sp_X6_sideOf (Ω := ΩM) (d := d + 5) (I := I2) (J := J) (b := asc (b.1 c)) (by omega)
        rw [sdB_asc _ hsc] at hsf
        have hms := menP_sd (g := b.1) (s := b.2.2.1) (t := c) ho hsc
        have hcan := sp_X6_canOf (d := d) (J := J) hW2 hV hB.1 hk hcn
        have h0 := inner 16 0 I2 rfl hm
        clear inner ih
        cases hM : menP b.1 b.2.2.1 c
        · rw [hM] at hms h0
          have hne : ¬ sdI (b.1 c) = nI b.2.2.1 := fun z => Bool.false_ne_true (hms.mp z)
          have ez : mset (fun i => false && reaP w h b.1 c i) = 0 := mset_zero.mpr (fun _ _ => rfl)
          rw [ez] at h0
          refine wp_iload_n (pc := 4) (i := 3) dX6_list_4 rfl rfl ?_
          refine wp_aload_n (pc := 5) (i := 0) dX6_list_5 rfl rfl (by first | with_reducible assumption | rfl) ?_
          refine wp_getI (pc := 6) dX6_list_6 lf_X6_47 (by first | with_reducible assumption | rfl) (by first | with_reducible assumption | rfl) rfl ?_
          rw [f0]
          refine wp_aload_n (pc := 9) (i := 0) dX6_list_9 rfl rfl (by first | with_reducible assumption | rfl) ?_
          refine wp_getI (pc := 10) dX6_list_10 lf_X6_51 (by first | with_reducible assumption | rfl) (by first | with_reducible assumption | rfl) rfl ?_
          rw [f1]
          first | (refine wp_imulN (pc := 13) dX6_list_13 ?_) | (refine wp_imul (pc := 13) dX6_list_13 ?_)
          first | (refine wp_icmp_geN (pc := 14) (tgt := 118) dX6_list_14 (by decide) (by first | with_reducible assumption | omega) (by first | with_reducible assumption | omega) (fun c_14 => ?_) (fun c_14 => ?_)) | (refine wp_icmp_ge (pc := 14) (tgt := 118) dX6_list_14 (by decide) (fun c_14 => ?_) (fun c_14 => ?_))
          · exact absurd c_14 (by omega)
          · refine wp_aload_n (pc := 17) (i := 0) dX6_list_17 rfl rfl (by first | with_reducible assumption | rfl) ?_
            refine wp_getR (pc := 18) dX6_list_18 lf_X6_19 (by first | with_reducible assumption | rfl) (by first | with_reducible assumption | rfl) rfl (by first | with_reducible assumption | rfl) (by first | with_reducible assumption | rfl) ?_
            refine wp_iload_n (pc := 21) (i := 1) dX6_list_21 rfl rfl ?_
            refine wp_iald (pc := 22) dX6_list_22 (by first | with_reducible assumption | rfl) (by first | with_reducible assumption | rfl) (by first | with_reducible assumption | omega) (by first | decide | omega) ?_
            rw [f4]
            refine wp_bipush (pc := 23) (v := (-9)) dX6_list_23 (by decide +kernel) ?_
            refine wp_icmp_ne (pc := 25) (tgt := 118) dX6_list_25 (by decide) (fun c_25 => ?_) (fun c_25 => ?_)
            · exact absurd rfl c_25
            · refine wp_aload_n (pc := 28) (i := 0) dX6_list_28 rfl rfl (by first | with_reducible assumption | rfl) ?_
              refine wp_getR (pc := 29) dX6_list_29 lf_X6_7 (by first | with_reducible assumption | rfl) (by first | with_reducible assumption | rfl) rfl (by first | with_reducible assumption | rfl) (by first | with_reducible assumption | rfl) ?_
              refine wp_bipush (pc := 32) (v := nI 16) dX6_list_32 (by decide +kernel) ?_
              refine wp_iload_n (pc := 34) (i := 1) dX6_list_34 rfl rfl ?_
              first | (refine wp_imulN (pc := 35) dX6_list_35 ?_) | (refine wp_imul (pc := 35) dX6_list_35 ?_)
              refine wp_iload_n (pc := 36) (i := 3) dX6_list_36 rfl rfl ?_
              first | (refine wp_iaddN (pc := 37) dX6_list_37 ?_) | (refine wp_iadd (pc := 37) dX6_list_37 ?_)
              refine wp_iald (pc := 38) dX6_list_38 (by first | with_reducible assumption | rfl) (by first | with_reducible assumption | rfl) (by first | with_reducible assumption | omega) (by first | decide | omega) ?_
              rw [ec]
              refine wp_cSP1 (pc := 39) dX6_list_39 lm_X6_65 m_X6_sideOf (Nat.le_of_ble_eq_true rfl) hsf ?_
              refine wp_aload_n (pc := 42) (i := 0) dX6_list_42 rfl rfl (by first | with_reducible assumption | rfl) ?_
              refine wp_getR (pc := 43) dX6_list_43 lf_X6_16 (by first | with_reducible assumption | rfl) (by first | with_reducible assumption | rfl) rfl (by first | with_reducible assumption | rfl) (by first | with_reducible assumption | rfl) ?_
              refine wp_iload_n (pc := 46) (i := 1) dX6_list_46 rfl rfl ?_
              refine wp_iald (pc := 47) dX6_list_47 (by first | with_reducible assumption | rfl) (by first | with_reducible assumption | rfl) (by first | with_reducible assumption | omega) (by first | decide | omega) ?_
              rw [f3]
              refine wp_icmp_ne (pc := 48) (tgt := 60) dX6_list_48 (by decide) (fun c_48 => ?_) (fun c_48 => ?_)
              · refine wp_iconst (pc := 60) (v := nI 0) dX6_list_60 (by decide +kernel) ?_
                refine wp_istore (pc := 61) dX6_list_61 (by decide) ?_
                refine wp_iconst (pc := 63) (v := nI 0) dX6_list_63 (by decide +kernel) ?_
                refine wp_istore (pc := 64) dX6_list_64 (by decide) ?_
                exact h0
              · exact absurd c_48 hne
        · rw [hM] at hms h0
          have hy : sdI (b.1 c) = nI b.2.2.1 := hms.mpr rfl
          have ez : mset (fun i => true && reaP w h b.1 c i) = mset (reaP w h b.1 c) := mset_eq fun i _ => Bool.true_and _
          rw [ez] at h0
          refine wp_iload_n (pc := 4) (i := 3) dX6_list_4 rfl rfl ?_
          refine wp_aload_n (pc := 5) (i := 0) dX6_list_5 rfl rfl (by first | with_reducible assumption | rfl) ?_
          refine wp_getI (pc := 6) dX6_list_6 lf_X6_47 (by first | with_reducible assumption | rfl) (by first | with_reducible assumption | rfl) rfl ?_
          rw [f0]
          refine wp_aload_n (pc := 9) (i := 0) dX6_list_9 rfl rfl (by first | with_reducible assumption | rfl) ?_
          refine wp_getI (pc := 10) dX6_list_10 lf_X6_51 (by first | with_reducible assumption | rfl) (by first | with_reducible assumption | rfl) rfl ?_
          rw [f1]
          first | (refine wp_imulN (pc := 13) dX6_list_13 ?_) | (refine wp_imul (pc := 13) dX6_list_13 ?_)
          first | (refine wp_icmp_geN (pc := 14) (tgt := 118) dX6_list_14 (by decide) (by first | with_reducible assumption | omega) (by first | with_reducible assumption | omega) (fun c_14 => ?_) (fun c_14 => ?_)) | (refine wp_icmp_ge (pc := 14) (tgt := 118) dX6_list_14 (by decide) (fun c_14 => ?_) (fun c_14 => ?_))
          · exact absurd c_14 (by omega)
          · refine wp_aload_n (pc := 17) (i := 0) dX6_list_17 rfl rfl (by first | with_reducible assumption | rfl) ?_
            refine wp_getR (pc := 18) dX6_list_18 lf_X6_19 (by first | with_reducible assumption | rfl) (by first | with_reducible assumption | rfl) rfl (by first | with_reducible assumption | rfl) (by first | with_reducible assumption | rfl) ?_
            refine wp_iload_n (pc := 21) (i := 1) dX6_list_21 rfl rfl ?_
            refine wp_iald (pc := 22) dX6_list_22 (by first | with_reducible assumption | rfl) (by first | with_reducible assumption | rfl) (by first | with_reducible assumption | omega) (by first | decide | omega) ?_
            rw [f4]
            refine wp_bipush (pc := 23) (v := (-9)) dX6_list_23 (by decide +kernel) ?_
            refine wp_icmp_ne (pc := 25) (tgt := 118) dX6_list_25 (by decide) (fun c_25 => ?_) (fun c_25 => ?_)
            · exact absurd rfl c_25
            · refine wp_aload_n (pc := 28) (i := 0) dX6_list_28 rfl rfl (by first | with_reducible assumption | rfl) ?_
              refine wp_getR (pc := 29) dX6_list_29 lf_X6_7 (by first | with_reducible assumption | rfl) (by first | with_reducible assumption | rfl) rfl (by first | with_reducible assumption | rfl) (by first | with_reducible assumption | rfl) ?_
              refine wp_bipush (pc := 32) (v := nI 16) dX6_list_32 (by decide +kernel) ?_
              refine wp_iload_n (pc := 34) (i := 1) dX6_list_34 rfl rfl ?_
              first | (refine wp_imulN (pc := 35) dX6_list_35 ?_) | (refine wp_imul (pc := 35) dX6_list_35 ?_)
              refine wp_iload_n (pc := 36) (i := 3) dX6_list_36 rfl rfl ?_
              first | (refine wp_iaddN (pc := 37) dX6_list_37 ?_) | (refine wp_iadd (pc := 37) dX6_list_37 ?_)
              refine wp_iald (pc := 38) dX6_list_38 (by first | with_reducible assumption | rfl) (by first | with_reducible assumption | rfl) (by first | with_reducible assumption | omega) (by first | decide | omega) ?_
              rw [ec]
              refine wp_cSP1 (pc := 39) dX6_list_39 lm_X6_65 m_X6_sideOf (Nat.le_of_ble_eq_true rfl) hsf ?_
              refine wp_aload_n (pc := 42) (i := 0) dX6_list_42 rfl rfl (by first | with_reducible assumption | rfl) ?_
              refine wp_getR (pc := 43) dX6_list_43 lf_X6_16 (by first | with_reducible assumption | rfl) (by first | with_reducible assumption | rfl) rfl (by first | with_reducible assumption | rfl) (by first | with_reducible assumption | rfl) ?_
              refine wp_iload_n (pc := 46) (i := 1) dX6_list_46 rfl rfl ?_
              refine wp_iald (pc := 47) dX6_list_47 (by first | with_reducible assumption | rfl) (by first | with_reducible assumption | rfl) (by first | with_reducible assumption | omega) (by first | decide | omega) ?_
              rw [f3]
              refine wp_icmp_ne (pc := 48) (tgt := 60) dX6_list_48 (by decide) (fun c_48 => ?_) (fun c_48 => ?_)
              · exact absurd hy c_48
              · refine wp_aload_n (pc := 51) (i := 0) dX6_list_51 rfl rfl (by first | with_reducible assumption | rfl) ?_
                refine wp_iload_n (pc := 52) (i := 1) dX6_list_52 rfl rfl ?_
                refine wp_iload_n (pc := 53) (i := 3) dX6_list_53 rfl rfl ?_
                refine wp_cVP2 (pc := 54) (ci := 6) dX6_list_54 lm_X6_122 m_X6_canOf (by first | with_reducible assumption | rfl) (by first | with_reducible assumption | rfl) (by decide) rfl (Nat.le_of_ble_eq_true rfl) hcan ?_
                refine wp_goto (pc := 57) (tgt := 61) dX6_list_57 (by decide) ?_
                refine wp_istore (pc := 61) dX6_list_61 (by decide) ?_
                refine wp_iconst (pc := 63) (v := nI 0) dX6_list_63 (by decide +kernel) ?_
                refine wp_istore (pc := 64) dX6_list_64 (by decide) ?_
                exact h0
    have h00 := outer (w * h) 0 I rfl ⟨fun j hj => absurd hj (by simp [plL]), fun _ _ _ _ => rfl⟩
    refine call_of_wp (by decide) (Nat.le_of_ble_eq_true rfl) ?_
    refine wp_iconst (pc := 0) (v := nI 0) dX6_list_0 (by decide +kernel) ?_
    refine wp_istore_n (pc := 1) (i := 2) dX6_list_1 rfl (by decide) ?_
    refine wp_iconst (pc := 2) (v := nI 0) dX6_list_2 (by decide +kernel) ?_
    refine wp_istore_n (pc := 3) (i := 3) dX6_list_3 rfl (by decide) ?_
    exact h00
  · have eP : PLY w h b = [] := by unfold PLY; rw [if_pos hl]
    have hne := lsI_ne hl hl3
    have ht := tail [] I [(0, .ref 0), (1, .int (nI k)), (2, .int (nI 0)), (3, .int (nI 0))] (by decide) rfl rfl rfl ⟨fun j hj => absurd hj (Nat.not_lt_zero j), fun _ _ _ _ => rfl⟩ eP.symm
    refine call_of_wp (by decide) (Nat.le_of_ble_eq_true rfl) ?_
    refine wp_iconst (pc := 0) (v := nI 0) dX6_list_0 (by decide +kernel) ?_
    refine wp_istore_n (pc := 1) (i := 2) dX6_list_1 rfl (by decide) ?_
    refine wp_iconst (pc := 2) (v := nI 0) dX6_list_2 (by decide +kernel) ?_
    refine wp_istore_n (pc := 3) (i := 3) dX6_list_3 rfl (by decide) ?_
    refine wp_iload_n (pc := 4) (i := 3) dX6_list_4 rfl rfl ?_
    refine wp_aload_n (pc := 5) (i := 0) dX6_list_5 rfl rfl (by first | with_reducible assumption | rfl) ?_
    refine wp_getI (pc := 6) dX6_list_6 lf_X6_47 (by first | with_reducible assumption | rfl) (by first | with_reducible assumption | rfl) rfl ?_
    rw [e0]
    refine wp_aload_n (pc := 9) (i := 0) dX6_list_9 rfl rfl (by first | with_reducible assumption | rfl) ?_
    refine wp_getI (pc := 10) dX6_list_10 lf_X6_51 (by first | with_reducible assumption | rfl) (by first | with_reducible assumption | rfl) rfl ?_
    rw [e1]
    first | (refine wp_imulN (pc := 13) dX6_list_13 ?_) | (refine wp_imul (pc := 13) dX6_list_13 ?_)
    first | (refine wp_icmp_geN (pc := 14) (tgt := 118) dX6_list_14 (by decide) (by first | with_reducible assumption | omega) (by first | with_reducible assumption | omega) (fun c_14 => ?_) (fun c_14 => ?_)) | (refine wp_icmp_ge (pc := 14) (tgt := 118) dX6_list_14 (by decide) (fun c_14 => ?_) (fun c_14 => ?_))
    · exact absurd c_14 (by omega)
    · refine wp_aload_n (pc := 17) (i := 0) dX6_list_17 rfl rfl (by first | with_reducible assumption | rfl) ?_
      refine wp_getR (pc := 18) dX6_list_18 lf_X6_19 (by first | with_reducible assumption | rfl) (by first | with_reducible assumption | rfl) rfl (by first | with_reducible assumption | rfl) (by first | with_reducible assumption | rfl) ?_
      refine wp_iload_n (pc := 21) (i := 1) dX6_list_21 rfl rfl ?_
      refine wp_iald (pc := 22) dX6_list_22 (by first | with_reducible assumption | rfl) (by first | with_reducible assumption | rfl) (by first | with_reducible assumption | omega) (by first | decide | omega) ?_
      rw [e4]
      refine wp_bipush (pc := 23) (v := (-9)) dX6_list_23 (by decide +kernel) ?_
      refine wp_icmp_ne (pc := 25) (tgt := 118) dX6_list_25 (by decide) (fun c_25 => ?_) (fun c_25 => ?_)
      · refine wp_iload_n (pc := 118) (i := 2) dX6_list_118 rfl rfl ?_
        refine wp_if_neN (pc := 119) (tgt := 148) dX6_list_119 (by decide) (by first | with_reducible assumption | omega) (fun c_119 => ?_) (fun c_119 => ?_)
        · exact absurd rfl c_119
        · refine wp_aload_n (pc := 122) (i := 0) dX6_list_122 rfl rfl (by first | with_reducible assumption | rfl) ?_
          refine wp_getR (pc := 123) dX6_list_123 lf_X6_19 (by first | with_reducible assumption | rfl) (by first | with_reducible assumption | rfl) rfl (by first | with_reducible assumption | rfl) (by first | with_reducible assumption | rfl) ?_
          refine wp_iload_n (pc := 126) (i := 1) dX6_list_126 rfl rfl ?_
          refine wp_iald (pc := 127) dX6_list_127 (by first | with_reducible assumption | rfl) (by first | with_reducible assumption | rfl) (by first | with_reducible assumption | omega) (by first | decide | omega) ?_
          rw [e4]
          refine wp_bipush (pc := 128) (v := (-9)) dX6_list_128 (by decide +kernel) ?_
          refine wp_icmp_ne (pc := 130) (tgt := 148) dX6_list_130 (by decide) (fun c_130 => ?_) (fun c_130 => ?_)
          · exact ht
          · exact absurd c_130 hne
      · exact absurd c_25 hne
end MLI
