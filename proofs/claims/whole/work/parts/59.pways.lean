/-! THE TWO SIDES' WAYS ARE THE SAME -/
/-- the times that are not 0 are all different, and at most last -/
def Tok (last : Nat) (b : Bd) : Prop := (∀ c, c < 16 → b.2.1 c ≤ last) ∧ ∀ c k, c < 16 → k < 16 → b.2.1 c = b.2.1 k → 0 < b.2.1 c → c = k
theorem mk_cases {last x : Nat} {b : Bd} : (x = 256 ∧ mkB last b x = (ageG b, ageT b, 1 - b.2.2.1, b.2.2.2)) ∨ (mkB last b x = (up (up (ageG b) (x % 16) (ageG b (x / 16))) (x / 16) 0, ageT b, 1 - b.2.2.1, b.2.2.2)) ∨ (mkB last b x).1 = up (ageG b) (x % 16) 1 ∧ (mkB last b x).2.1 = up (ageT b) (x % 16) last := by
  by_cases hx : x = 256
  · left
    refine ⟨hx, ?_⟩
    unfold mkB
    rw [if_pos hx]
  · right
    have eM : mkB last b x = if ageG b (x % 16) = 0 then (up (up (ageG b) (x % 16) (ageG b (x / 16))) (x / 16) 0, ageT b, 1 - b.2.2.1, b.2.2.2) else fal last (ageG b, ageT b, 1 - b.2.2.1, b.2.2.2) (x % 16) := by
      unfold mkB
      rw [if_neg hx]
    rw [eM]
    split
    · exact Or.inl rfl
    · exact Or.inr ⟨rfl, rfl⟩
theorem Tok_age {last : Nat} {b : Bd} (h : Tok last b) : (∀ c, c < 16 → ageT b c ≤ last) ∧ ∀ c k, c < 16 → k < 16 → ageT b c = ageT b k → 0 < ageT b c → c = k := by
  obtain ⟨h1, h2⟩ := h
  have e : ∀ c, ageT b c = b.2.1 c - 1 := fun _ => rfl
  refine ⟨fun c hc => by have := h1 c hc; rw [e]; omega, fun c k hc hk he hp => h2 c k hc hk ?_ ?_⟩
  · rw [e] at he hp
    rw [e] at he
    omega
  · rw [e] at hp; omega
theorem Tok_mk {last x : Nat} {b : Bd} (h : Tok last b) : Tok last (mkB last b x) := by
  have ha := Tok_age h
  rcases mk_cases (last := last) (x := x) (b := b) with ⟨-, e⟩ | e | ⟨-, e⟩
  · rw [e]; exact ha
  · rw [e]; exact ha
  · have e0 : ∀ c, ageT b c = b.2.1 c - 1 := fun _ => rfl
    unfold Tok
    rw [e]
    refine ⟨fun c hc => ?_, fun c k hc hk he hp => ?_⟩
    · have := ha.1 c hc
      rcases up_cs (ageT b) (x % 16) last c with y | y <;> omega
    · have hlt : ∀ c, c < 16 → 0 < ageT b c → ageT b c < last := fun c hc hp => by
        have := h.1 c hc
        rw [e0] at hp ⊢
        omega
      rcases up_cs (ageT b) (x % 16) last c with y | y <;> rcases up_cs (ageT b) (x % 16) last k with y' | y'
      · rw [y.1, y'.1]
      · have := hlt k hk
        omega
      · have := hlt c hc
        omega
      · exact ha.2 c k hc hk (by omega) (by omega)
theorem cnt_or (P Q : Nat → Bool) : ∀ n, fb_ct (fun c => P c || Q c) n ≤ fb_ct P n + fb_ct Q n
  | 0 => Nat.zero_le _
  | n + 1 => by
    have := cnt_or P Q n
    rw [fb_ct_succ, fb_ct_succ, fb_ct_succ]
    show fb_ct (fun c => P c || Q c) n + (if (P n || Q n) = true then 1 else 0) ≤ _
    cases P n <;> cases Q n <;> simp <;> omega
theorem cnt_del {P : Nat → Bool} {x : Nat} (hx : x < 16) : cnt P ≤ cnt (upB P x false) + 1 := by
  have e := fb_ct_upd P false (i := x) (n := 16) hx
  have : fb_ct (upB P x false) 16 = fb_ct (fun k => if k = x then false else P k) 16 := rfl
  unfold cnt
  rw [this]
  simp only [Bool.false_eq_true, if_false] at e
  split at e <;> omega
theorem cnt_3 {P : Nat → Bool} {x y z : Nat} (hx : x < 16) (hy : y < 16) (hz : z < 16) (h : ∀ c, c < 16 → P c = true → c = x ∨ c = y ∨ c = z) : cnt P ≤ 3 := by
  have h1 := cnt_del (P := P) hx
  have h2 := cnt_del (P := upB P x false) hy
  have h3 := cnt_del (P := upB (upB P x false) y false) hz
  have h0 : cnt (upB (upB (upB P x false) y false) z false) = 0 := fb_ct_zero.mpr (fun c hc => by
    unfold upB
    by_cases a : c = z
    · rw [if_pos a]
    · rw [if_neg a]
      by_cases a2 : c = y
      · rw [if_pos a2]
      · rw [if_neg a2]
        by_cases a3 : c = x
        · rw [if_pos a3]
        · rw [if_neg a3]
          rw [Bool.eq_false_iff]
          intro hp
          rcases h c hc hp with k | k | k
          · exact a3 k
          · exact a2 k
          · exact a k)
  omega
theorem dif_3 {n last x : Nat} {b : Bd} (hT : Tok last b) (hok : okP n b x) (hn : n ≤ 16) : cnt (dif b.1 (mkB last b x).1) ≤ 3 := by
  obtain ⟨v, hv, hv2⟩ : ∃ v, v < 16 ∧ ∀ c, c < 16 → b.2.1 c = 1 → c = v := by
    rcases Classical.em (∃ v, v < 16 ∧ b.2.1 v = 1) with ⟨v, h1, h2⟩ | h
    · exact ⟨v, h1, fun c hc h3 => hT.2 c v hc h1 (by omega) (by omega)⟩
    · exact ⟨0, by decide, fun c hc h3 => absurd ⟨c, hc, h3⟩ h⟩
  have hag : ∀ c, c < 16 → ¬ ageG b c = b.1 c → c = v := fun c hc h => hv2 c hc (by
    rcases Classical.em (b.2.1 c = 1) with y | y
    · exact y
    · exact absurd (by unfold ageG; rw [if_neg y]) h)
  have hd : ∀ {g : Nat → Nat} {c : Nat}, dif b.1 g c = true → ¬ b.1 c = g c := fun h => of_decide_eq_true h
  by_cases hx : x = 256
  · have e : mkB last b x = (ageG b, ageT b, 1 - b.2.2.1, b.2.2.2) := by unfold mkB; rw [if_pos hx]
    rw [e]
    exact cnt_3 hv hv hv (fun c hc h => Or.inl (hag c hc (fun y => hd h y.symm)))
  · obtain ⟨hx2, -⟩ := hok.resolve_left hx
    rcases mk_cases (last := last) (x := x) (b := b) with ⟨e, -⟩ | e | ⟨e, -⟩
    · exact absurd e hx
    · rw [e]
      refine cnt_3 (x := x / 16) (y := x % 16) (by omega) (by omega) hv (fun c hc h => ?_)
      have h1 := hd h
      by_cases a1 : c = x / 16
      · exact Or.inl a1
      · by_cases a2 : c = x % 16
        · exact Or.inr (Or.inl a2)
        · refine Or.inr (Or.inr (hag c hc (fun y => h1 ?_)))
          show b.1 c = up (up (ageG b) (x % 16) (ageG b (x / 16))) (x / 16) 0 c
          rw [up_n a1, up_n a2]; exact y.symm
    · rw [e]
      refine cnt_3 (x := x % 16) (y := x % 16) (by omega) (by omega) hv (fun c hc h => ?_)
      have h1 := hd h
      by_cases a2 : c = x % 16
      · exact Or.inl a2
      · exact Or.inr (Or.inr (hag c hc (fun y => h1 (by rw [up_n a2]; exact y.symm))))
theorem dif_tri {f g k : Nat → Nat} : cnt (dif f k) ≤ cnt (dif f g) + cnt (dif g k) := by
  refine Nat.le_trans ?_ (cnt_or (dif f g) (dif g k) 16)
  refine fb_ct_sub (fun c _ h => ?_)
  have h1 : ¬ f c = k c := of_decide_eq_true h
  rw [Bool.or_eq_true]
  unfold dif
  rw [decide_eq_true_iff, decide_eq_true_iff]
  by_cases h2 : f c = g c
  · exact Or.inr (fun y => h1 (h2.trans y))
  · exact Or.inl h2
theorem sam_lik {n : Nat} {b q : Bd} (hn : n ≤ 16) (hB : Bok n b) (hQ : Bok n q) : samB b q = likB n b q := by
  have s1 : ∀ c, c < 16 → b.1 c < 16 := fun c h => Nat.lt_trans (hB.1 c h) (by decide)
  have s2 : ∀ c, c < 16 → q.1 c < 16 := fun c h => Nat.lt_trans (hQ.1 c h) (by decide)
  have t1 : ∀ c, c < 16 → b.2.1 c < 16 := fun c h => Nat.lt_trans (hB.2.1 c h) (by decide)
  have t2 : ∀ c, c < 16 → q.2.1 c < 16 := fun c h => Nat.lt_trans (hQ.2.1 c h) (by decide)
  have zero : ∀ {e : Bd}, Bok n e → ∀ c, c < 16 → n ≤ c → e.1 c = 0 ∧ e.2.1 c = 0 := fun hE c hc hnc => by
    have h1 := hE.2.2.2.2.2 c hnc
    refine ⟨h1, ?_⟩
    rcases Nat.eq_zero_or_pos _ with y | y
    · exact y
    · have := hE.2.2.1 c hc y; omega
  unfold samB likB
  rw [← Bool.decide_and]
  refine decide_eq_decide.mpr ⟨fun h => ⟨h.2.2, fun j hj => ⟨pn_inj s1 s2 h.1 j (by omega), pn_inj t1 t2 h.2.1 j (by omega)⟩⟩, fun h => ⟨pn_cong (fun c hc => ?_), pn_cong (fun c hc => ?_), h.1⟩⟩
  · rcases Nat.lt_or_ge c n with y | y
    · exact (h.2 c y).1
    · rw [(zero hB c hc y).1, (zero hQ c hc y).1]
  · rcases Nat.lt_or_ge c n with y | y
    · exact (h.2 c y).2
    · rw [(zero hB c hc y).2, (zero hQ c hc y).2]
theorem sum_cong {l : List Nat} {P R : Nat → Nat} (h : ∀ x, x ∈ l → P x = R x) : (l.map P).sum = (l.map R).sum := by
  rw [List.map_congr_left h]
theorem sum_no {l : List Nat} {P : Nat → Nat} (h : ∀ x, x ∈ l → P x = 0) : (l.map P).sum = 0 := by
  induction l with
  | nil => rfl
  | cons a t ih =>
    rw [List.map_cons, List.sum_cons, h a List.mem_cons_self, ih (fun x hx => h x (List.mem_cons_of_mem _ hx))]
theorem wy_rws {w h last : Nat} {q : Bd} (hwh : w * h ≤ 16) (hl9 : last < 10) (hQ : Bok (w * h) q) : ∀ m b, Bok (w * h) b → Tok last b → rws w h last q m b = wyM w h last q m b
  | 0, b, hB, hT => by
    unfold rws wyM
    by_cases hc : cnt (dif b.1 q.1) ≤ 0
    · rw [if_pos hc, ← sam_lik hwh hB hQ]
      cases samB b q <;> rfl
    · rw [if_neg hc]
      have : likB (w * h) b q = false := by
        rw [Bool.eq_false_iff]
        intro y
        unfold likB at y
        rw [Bool.and_eq_true] at y
        have h1 := of_decide_eq_true y.2
        have h2 : cnt (dif b.1 q.1) = 0 := fb_ct_zero.mpr (fun c hc16 => by
          refine decide_eq_false (fun z => z ?_)
          rcases Nat.lt_or_ge c (w * h) with k | k
          · exact (h1 c k).1
          · rw [hB.2.2.2.2.2 c k, hQ.2.2.2.2.2 c k])
        omega
      rw [this]; rfl
  | m + 1, b, hB, hT => by
    have hch : ∀ x, x ∈ PLY w h b → rws w h last q m (mkB last b x) = wyM w h last q m (mkB last b x) := fun x hx => by
      have hlg := okP_leg (PLY_ok hB hx)
      exact wy_rws hwh hl9 hQ m _ (Bok_mk hB hlg.1 hlg.2 hl9) (Tok_mk hT)
    unfold rws wyM
    by_cases hc : cnt (dif b.1 q.1) ≤ 3 * (m + 1)
    · rw [if_pos hc]
      exact sum_cong hch
    · rw [if_neg hc]
      refine (sum_no (fun x hx => ?_)).symm
      rw [← hch x hx]
      refine rws_far (fun y => hc ?_)
      have h1 := dif_3 hT (PLY_ok hB hx) hwh
      have h2 := dif_tri (f := b.1) (g := (mkB last b x).1) (k := q.1)
      omega
theorem wy_par {w h last : Nat} {q : Bd} : ∀ m b, b.2.2.1 < 2 → ¬ (b.2.2.1 + m) % 2 = q.2.2.1 → wyM w h last q m b = 0
  | 0, b, ho, hp => by
    unfold wyM likB
    rw [decide_eq_false (show ¬ b.2.2.1 = q.2.2.1 by omega)]
    rfl
  | m + 1, b, ho, hp => by
    unfold wyM
    refine sum_no (fun x _ => wy_par m _ ?_ ?_)
    · rw [mk_on]; omega
    · rw [mk_on]; omega
theorem aWays_eq {w h last : Nat} {b : Bd} {f : Nat → Option Bd} {x y : Int32} (hwh : w * h ≤ 16) (hl9 : last < 10) (hB : Bok (w * h) b) (hT : Tok last b) (hS : ∀ i q, f i = some q → Bok (w * h) q) : aWaysM w h last b f x y = aWays w h last b f x y := by
  unfold aWaysM aWays
  by_cases hx : inB x 2 = true
  · rw [if_pos hx, if_pos hx]
    by_cases hy : y < nI 1 ∨ nI 3 < y
    · rw [if_pos hy, if_pos hy]
    · rw [if_neg hy, if_neg hy]
      cases hf : f (cI x) with
      | none => rfl
      | some q =>
        show nI (wyM w h last q (cI y) b) = if (b.2.2.1 + cI y) % 2 = q.2.2.1 then nI (rws w h last q (cI y) b) else nI 0
        by_cases hp : (b.2.2.1 + cI y) % 2 = q.2.2.1
        · rw [if_pos hp, wy_rws hwh hl9 (hS _ q hf) _ b hB hT]
        · rw [if_neg hp, wy_par _ _ hB.2.2.2.1 hp]
  · rw [if_neg hx, if_neg hx]
