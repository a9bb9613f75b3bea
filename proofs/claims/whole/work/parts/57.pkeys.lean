/-! THE TWO SIDES' KEYS ARE THE SAME -/
theorem men_cong {g k : Nat → Nat} {s c : Nat} (h : g c = k c) : menP g s c = menP k s c ∧ kng g c = kng k c := by
  unfold menP wht blk kng
  rw [h]
  exact ⟨rfl, rfl⟩
theorem fe_has {b : Bd} {t : Nat} (hB : ∀ c, c < 16 → 0 < b.2.1 c → b.1 c = 1) (ht : t < 16) (hk : thr b t = true) : hasK (up (ageG b) t 1) (1 - b.2.2.1) = false ↔ cnt (thr b) = 1 := by
  have e := fb_ct_upd (thr b) false (i := t) (n := 16) ht
  rw [hk] at e
  simp only [Bool.false_eq_true, if_false, if_true] at e
  have hc : cnt (thr b) = fb_ct (fun k => if k = t then false else thr b k) 16 + 1 := by unfold cnt; omega
  have hq : ∀ c, c < 16 → (kng (up (ageG b) t 1) c && menP (up (ageG b) t 1) (1 - b.2.2.1) c) = (if c = t then false else thr b c) := fun c hc16 => by
    by_cases h1 : c = t
    · rw [if_pos h1]
      have : kng (up (ageG b) t 1) c = false := by
        unfold kng
        rw [h1, up_s]
        rfl
      rw [this]; rfl
    · rw [if_neg h1]
      by_cases h2 : b.2.1 c = 1
      · have h3 := hB c hc16 (by omega)
        have a1 : kng (up (ageG b) t 1) c = false := by
          unfold kng
          rw [up_n h1]
          unfold ageG
          rw [if_pos h2]
          rfl
        have a2 : thr b c = false := by
          unfold thr kng
          rw [h3]
          rfl
        rw [a1, a2]; rfl
      · have h3 : up (ageG b) t 1 c = b.1 c := by
          rw [up_n h1]
          unfold ageG
          rw [if_neg h2]
        have := men_cong (s := 1 - b.2.2.1) h3
        rw [this.1, this.2]
        rfl
  unfold hasK
  rw [decide_eq_false_iff_not, Classical.not_not, mset_zero, hc]
  constructor
  · intro h
    have : fb_ct (fun k => if k = t then false else thr b k) 16 = 0 := fb_ct_zero.mpr (fun k hk16 => by
      rw [← hq k hk16]; exact h k hk16)
    omega
  · intro h k hk16
    have h0 : fb_ct (fun k => if k = t then false else thr b k) 16 = 0 := by omega
    have := (fb_ct_zero.mp h0) k hk16
    show (kng (up (ageG b) t 1) k && menP (up (ageG b) t 1) (1 - b.2.2.1) k) = false
    rw [hq k hk16]
    exact this
theorem fe_iff {n last x : Nat} {b : Bd} (hB : Bok n b) (hl : b.2.2.2 = 2) (hok : okP n b x) : feP last b x = true ↔ ¬ x = 256 ∧ thr b (x % 16) = true ∧ cnt (thr b) = 1 := by
  have ho := hB.2.2.2.1
  unfold feP
  rw [decide_eq_true_iff]
  by_cases hx : x = 256
  · have eM : mkB last b x = (ageG b, ageT b, 1 - b.2.2.1, b.2.2.2) := by unfold mkB; rw [if_pos hx]
    rw [eM]
    constructor
    · intro h
      have h' : b.2.2.2 = 1 - b.2.2.1 := h
      omega
    · intro h; exact absurd hx h.1
  · obtain ⟨hx2, hfn, htn, hf2, ht2⟩ := hok.resolve_left hx
    have ht16 : x % 16 < 16 := by omega
    have eM : mkB last b x = if ageG b (x % 16) = 0 then (up (up (ageG b) (x % 16) (ageG b (x / 16))) (x / 16) 0, ageT b, 1 - b.2.2.1, b.2.2.2) else fal last (ageG b, ageT b, 1 - b.2.2.1, b.2.2.2) (x % 16) := by
      unfold mkB
      rw [if_neg hx]
    rw [eM]
    clear eM hfn hf2 hx2 htn hok
    generalize x % 16 = t at *
    have ht1 : ¬ b.1 t = 1 := by
      rcases ht2 with y | y
      · omega
      · have := menP_2 y; omega
    have eG : ageG b t = b.1 t := by
      unfold ageG
      rw [if_neg (fun y => ht1 (hB.2.2.1 t ht16 (by omega)))]
    by_cases h0 : b.1 t = 0
    · rw [if_pos (by rw [eG]; exact h0)]
      constructor
      · intro h
        have h' : b.2.2.2 = 1 - b.2.2.1 := h
        omega
      · intro h
        have h2 := h.2.1
        unfold thr kng at h2
        rw [h0] at h2
        exact absurd h2 (by simp)
    · have hm := ht2.resolve_left h0
      have hsd := menP_s (g := b.1) (s := 1 - b.2.2.1) (c := t) (by omega) hm
      have hth : thr b t = kng b.1 t := by unfold thr; rw [hm, Bool.and_true]
      rw [if_neg (by rw [eG]; exact h0)]
      show (if kng (ageG b) t = true ∧ hasK (up (ageG b) t 1) (sd (ageG b t)) = false then sd (ageG b t) else b.2.2.2) = 1 - b.2.2.1 ↔ _
      have hkg : kng (ageG b) t = kng b.1 t := by unfold kng; rw [eG]
      rw [hkg, eG, hsd, hl, hth]
      constructor
      · intro h
        by_cases hk : kng b.1 t = true ∧ hasK (up (ageG b) t 1) (1 - b.2.2.1) = false
        · exact ⟨hx, hk.1, (fe_has hB.2.2.1 ht16 (by rw [hth]; exact hk.1)).mp hk.2⟩
        · rw [if_neg hk] at h
          omega
      · rintro ⟨-, h1, h2⟩
        rw [if_pos ⟨h1, (fe_has hB.2.2.1 ht16 (by rw [hth]; exact h1)).mpr h2⟩]
theorem plP_thr {w h c t : Nat} {b : Bd} (hB : Bok (w * h) b) (hc : c < 16) (ht : t < 16) (hk : thr b t = true) : plP w h b (16 * c + t) = (menP b.1 b.2.2.1 c && aimP w h (b.1 c) (ful b.1) c t) := by
  have d1 : (16 * c + t) / 16 = c := by omega
  have d2 : (16 * c + t) % 16 = t := by omega
  unfold plP
  rw [d1, d2]
  cases hm : menP b.1 b.2.2.1 c
  · rfl
  · have hsd := menP_s hB.2.2.2.1 hm
    have h2 := menP_2 hm
    unfold thr at hk
    rw [Bool.and_eq_true] at hk
    have h2t := menP_2 hk.2
    have hf : ful b.1 t = true := by rw [ful_0]; exact decide_eq_true (by omega)
    rw [Bool.true_and, Bool.true_and]
    unfold reaP
    rw [if_neg (by omega), hf, hsd, hk.2]
    simp
theorem wn_cf {w h last : Nat} {b : Bd} (hwh : w * h ≤ 16) (hB : Bok (w * h) b) (hl : b.2.2.2 = 2) : wnM w h last b = cfP w h b := by
  rw [Bool.eq_iff_iff]
  unfold wnM cfP
  rw [List.any_eq_true, decide_eq_true_iff]
  constructor
  · rintro ⟨x, hx, hf⟩
    have hok := PLY_ok hB hx
    obtain ⟨h1, h2, h3⟩ := (fe_iff hB hl hok).mp hf
    obtain ⟨hx2, hfn, htn, -, -⟩ := hok.resolve_left h1
    refine ⟨h3, x / 16, hfn, ?_⟩
    have hp : plP w h b x = true := by
      unfold PLY at hx
      rw [if_neg (fun y => y hl)] at hx
      split at hx
      · rw [List.mem_singleton] at hx; exact absurd hx h1
      · unfold plL at hx
        rw [List.mem_filter] at hx
        exact hx.2
    rw [show x = 16 * (x / 16) + x % 16 by omega, plP_thr hB (by omega) (by omega) h2, Bool.and_eq_true] at hp
    unfold cfA
    rw [Bool.and_eq_true, decide_eq_true_iff, mset_ex]
    exact ⟨hp.1, x % 16, by omega, by rw [hp.2, h2]; rfl⟩
  · rintro ⟨h3, c, hc, hA⟩
    unfold cfA at hA
    rw [Bool.and_eq_true, decide_eq_true_iff, mset_ex] at hA
    obtain ⟨hm, t, ht, hat⟩ := hA
    rw [Bool.and_eq_true] at hat
    have hp : plP w h b (16 * c + t) = true := by
      rw [plP_thr hB (by omega) ht hat.2, hm, hat.1]; rfl
    have hmem : 16 * c + t ∈ PLY w h b := by
      have hin : 16 * c + t ∈ plL w h b 256 := by
        unfold plL
        rw [List.mem_filter, List.mem_range]
        exact ⟨by omega, hp⟩
      unfold PLY
      rw [if_neg (fun y => y hl), if_neg (fun y => by rw [y] at hin; cases hin)]
      exact hin
    refine ⟨16 * c + t, hmem, (fe_iff hB hl (PLY_ok hB hmem)).mpr ⟨by omega, ?_, h3⟩⟩
    rw [show (16 * c + t) % 16 = t by omega]
    exact hat.2
