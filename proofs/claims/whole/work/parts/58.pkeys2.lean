/-! THE TWO SIDES' KEYS ARE THE SAME, 2 -/
theorem any_cong {l : List Nat} {P R : Nat → Bool} (h : ∀ x, x ∈ l → P x = R x) : l.any P = l.any R := by
  rw [Bool.eq_iff_iff, List.any_eq_true, List.any_eq_true]
  exact ⟨fun ⟨x, hx, hp⟩ => ⟨x, hx, by rw [← h x hx]; exact hp⟩, fun ⟨x, hx, hp⟩ => ⟨x, hx, by rw [h x hx]; exact hp⟩⟩
theorem all_cong {l : List Nat} {P R : Nat → Bool} (h : ∀ x, x ∈ l → P x = R x) : l.all P = l.all R := by
  rw [Bool.eq_iff_iff, List.all_eq_true, List.all_eq_true]
  exact ⟨fun g x hx => by rw [← h x hx]; exact g x hx, fun g x hx => by rw [h x hx]; exact g x hx⟩
theorem mk_on {last x : Nat} {b : Bd} : (mkB last b x).2.2.1 = 1 - b.2.2.1 := by
  by_cases hx : x = 256
  · unfold mkB
    rw [if_pos hx]
  · have eM : mkB last b x = if ageG b (x % 16) = 0 then (up (up (ageG b) (x % 16) (ageG b (x / 16))) (x / 16) 0, ageT b, 1 - b.2.2.1, b.2.2.2) else fal last (ageG b, ageT b, 1 - b.2.2.1, b.2.2.2) (x % 16) := by
      unfold mkB
      rw [if_neg hx]
    rw [eM]
    split <;> rfl
theorem mk_lost {n last x : Nat} {b : Bd} (hB : Bok n b) (hl : b.2.2.2 = 2) (hok : okP n b x) : (mkB last b x).2.2.2 = 2 ∨ (mkB last b x).2.2.2 = (mkB last b x).2.2.1 := by
  rw [mk_on]
  by_cases hx : x = 256
  · left
    unfold mkB
    rw [if_pos hx]
    exact hl
  · obtain ⟨hx2, hfn, htn, hf2, ht2⟩ := hok.resolve_left hx
    have ht16 : x % 16 < 16 := by omega
    have eM : mkB last b x = if ageG b (x % 16) = 0 then (up (up (ageG b) (x % 16) (ageG b (x / 16))) (x / 16) 0, ageT b, 1 - b.2.2.1, b.2.2.2) else fal last (ageG b, ageT b, 1 - b.2.2.1, b.2.2.2) (x % 16) := by
      unfold mkB
      rw [if_neg hx]
    rw [eM]
    clear eM
    generalize x % 16 = t at *
    by_cases h0 : ageG b t = 0
    · rw [if_pos h0]; exact Or.inl hl
    · rw [if_neg h0]
      show (if kng (ageG b) t = true ∧ hasK (up (ageG b) t 1) (sd (ageG b t)) = false then sd (ageG b t) else b.2.2.2) = 2 ∨ _ = _
      by_cases hk : kng (ageG b) t = true ∧ hasK (up (ageG b) t 1) (sd (ageG b t)) = false
      · right
        show (if kng (ageG b) t = true ∧ hasK (up (ageG b) t 1) (sd (ageG b t)) = false then sd (ageG b t) else b.2.2.2) = _
        rw [if_pos hk]
        have hb0 : ¬ b.1 t = 0 := fun y => h0 (by unfold ageG; rw [y]; split <;> rfl)
        have hm := ht2.resolve_left hb0
        have h2 := menP_2 hm
        have eG : ageG b t = b.1 t := by
          unfold ageG
          rw [if_neg (fun y => by have := hB.2.2.1 t ht16 (by omega); omega)]
        rw [eG]
        exact menP_s (by omega) hm
      · rw [if_neg hk]; exact Or.inl hl
theorem fe_t {last x : Nat} {b : Bd} : feP last b x = true ↔ (mkB last b x).2.2.2 = (mkB last b x).2.2.1 := decide_eq_true_iff
theorem frc_fe {w h last m x : Nat} {b : Bd} {side : Nat} (ho : b.2.2.1 < 2) (hf : feP last b x = true) : frc w h last side m (mkB last b x) = decide (¬ 1 - b.2.2.1 = side) := by
  have h1 := fe_t.mp hf
  rw [mk_on] at h1
  rw [frc_l (by omega), h1]
/-- a done board -/
theorem id_frc {w h last k : Nat} {e : Bd} (hwh : w * h ≤ 16) (hB : Bok (w * h) e) (hl : e.2.2.2 = 2) (hl9 : last < 10) (hk : k < 2) : idM w h last e = frc w h last (1 - e.2.2.1) (k + 2) e := by
  have ho := hB.2.2.2.1
  rw [frc_all hl (by omega)]
  unfold idM
  refine all_cong (fun y hy => ?_)
  have hok := PLY_ok hB hy
  have hlg := okP_leg hok
  have hB2 := Bok_mk hB hlg.1 hlg.2 hl9
  rcases mk_lost (last := last) hB hl hok with h2 | h2
  · have e1 : (mkB last e y).2.2.1 = 1 - e.2.2.1 := mk_on
    rw [frc_m h2 e1 (by omega) (by omega)]
    unfold dnP
    rw [decide_eq_true h2, Bool.true_and, wn_cf hwh hB2 h2]
  · rw [frc_fe ho (fe_t.mpr h2)]
    have e1 : (mkB last e y).2.2.1 = 1 - e.2.2.1 := mk_on
    unfold dnP
    rw [decide_eq_false (show ¬ (mkB last e y).2.2.2 = 2 by omega), Bool.false_and, decide_eq_false (fun z => z rfl)]
theorem ky_frc {w h last n x : Nat} {b : Bd} (hwh : w * h ≤ 16) (hB : Bok (w * h) b) (hl : b.2.2.2 = 2) (hl9 : last < 10) (hx : x ∈ PLY w h b) (hn1 : 1 ≤ n) (hn4 : n ≤ 4) : kyP w h last n b x = frc w h last b.2.2.1 (n - 1) (mkB last b x) := by
  have ho := hB.2.2.2.1
  have hok := PLY_ok hB hx
  have hlg := okP_leg hok
  have hB2 := Bok_mk hB hlg.1 hlg.2 hl9
  have e1 : (mkB last b x).2.2.1 = 1 - b.2.2.1 := mk_on
  unfold kyP
  rcases mk_lost (last := last) hB hl hok with h2 | h2
  · have hf : feP last b x = false := by
      rw [Bool.eq_false_iff]
      intro y
      have := fe_t.mp y
      omega
    rw [hf, Bool.false_or, decide_eq_true h2, Bool.true_and]
    have hne : ¬ (mkB last b x).2.2.1 = b.2.2.1 := by omega
    rcases (show n = 1 ∨ n = 2 ∨ n = 3 ∨ n = 4 by omega) with rfl | rfl | rfl | rfl
    · rw [frc_0 h2]; rfl
    · rw [frc_1 h2 hne]; rfl
    · rw [id_frc (k := 0) hwh hB2 h2 hl9 (by decide), show 1 - (mkB last b x).2.2.1 = b.2.2.1 by omega]; rfl
    · rw [id_frc (k := 1) hwh hB2 h2 hl9 (by decide), show 1 - (mkB last b x).2.2.1 = b.2.2.1 by omega]; rfl
  · rw [fe_t.mpr h2, Bool.true_or, frc_fe ho (fe_t.mpr h2), decide_eq_true (by omega)]
theorem key_eq {w h last n : Nat} {b : Bd} (hwh : w * h ≤ 16) (hB : Bok (w * h) b) (hl : b.2.2.2 = 2) (hl9 : last < 10) (hn1 : 1 ≤ n) (hn4 : n ≤ 4) : keyLM w h last b n = keyL w h last b (n - 1) := by
  unfold keyLM keyL
  exact List.filter_congr (fun x hx => ky_frc hwh hB hl hl9 hx hn1 hn4)
theorem any_len {l : List Nat} {P : Nat → Bool} : decide (0 < (l.filter P).length) = l.any P := by
  rw [Bool.eq_iff_iff, decide_eq_true_iff, List.length_pos_iff_exists_mem, List.any_eq_true]
  constructor
  · rintro ⟨x, hx⟩
    rw [List.mem_filter] at hx
    exact ⟨x, hx.1, hx.2⟩
  · rintro ⟨x, hx, hp⟩
    exact ⟨x, List.mem_filter.mpr ⟨hx, hp⟩⟩
section PKE
variable {w h last : Nat} {b : Bd}
theorem aKeys_eq {x : Int32} (hwh : w * h ≤ 16) (hB : Bok (w * h) b) (hl9 : last < 10) : aKeysM w h last b x = aKeys w h last b x := by
  unfold aKeysM aKeys
  by_cases hr : refA b.2.2.2 x = -9
  · obtain ⟨hl, n, n1, n4, rfl⟩ := refA_9 hr
    rw [if_pos hr, if_pos hr, cI_n (by omega), key_eq hwh hB hl hl9 n1 n4]
  · rw [if_neg hr, if_neg hr]
theorem aKeyAt_eq {x y : Int32} (hwh : w * h ≤ 16) (hB : Bok (w * h) b) (hl9 : last < 10) : aKeyAtM w h last b x y = aKeyAt w h last b x y := by
  unfold aKeyAtM aKeyAt
  by_cases hr : refA b.2.2.2 x = -9
  · obtain ⟨hl, n, n1, n4, rfl⟩ := refA_9 hr
    rw [if_pos hr, if_pos hr, cI_n (by omega), key_eq hwh hB hl hl9 n1 n4]
  · rw [if_neg hr, if_neg hr]
theorem aWins_eq {x : Int32} (hwh : w * h ≤ 16) (hB : Bok (w * h) b) (hl9 : last < 10) : aWinsM w h last b x = aWins w h last b x := by
  unfold aWinsM aWins
  by_cases hr : refA b.2.2.2 x = -9
  · obtain ⟨hl, n, n1, n4, rfl⟩ := refA_9 hr
    rw [if_pos hr, if_pos hr, cI_n (by omega)]
    congr 1
    by_cases h3 : n < 3
    · rw [frc_m hl rfl n1 h3, ← wn_cf (last := last) hwh hB hl]
      unfold keyLM
      rw [any_len]
      unfold wnM
      refine any_cong (fun y _ => ?_)
      unfold kyP
      rw [decide_eq_false (show ¬ 2 < n by omega), Bool.false_and, Bool.or_false]
    · obtain ⟨k, rfl⟩ : ∃ k, n = k + 3 := ⟨n - 3, by omega⟩
      rw [frc_any hl rfl]
      unfold keyLM
      rw [any_len]
      exact any_cong (fun y hy => ky_frc hwh hB hl hl9 hy n1 n4)
  · rw [if_neg hr, if_neg hr]
end PKE
