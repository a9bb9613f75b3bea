/-! PARTS: leaders -/
theorem kst_sym0 : ∀ w, w < 5 → ∀ h, h < 5 → ∀ a, a < 16 → ∀ t, t < 16 → ((decide (a < w * h) && (decide (t < w * h) && kst w h a t)) = true → kst w h t a = true) := by decide +kernel
theorem hg_sym {w h a t : Nat} {g : Nat → Nat} (hw : w < 5) (hh : h < 5) (hwh : w * h ≤ 16) (ha : opn w h g a = true) (hr : hgR w h (opn w h g) a t = true) : hgR w h (opn w h g) t a = true := by
  unfold hgR at hr ⊢
  rw [Bool.and_eq_true] at hr ⊢
  have h1 : a < w * h := by
    unfold opn at ha
    rw [Bool.and_eq_true] at ha
    exact of_decide_eq_true ha.1
  have h2 := kst_t hr.1
  exact ⟨kst_sym0 w hw h hh a (by omega) t (by omega) (by rw [decide_eq_true h1, decide_eq_true h2, hr.1]; rfl), ha⟩
theorem Cl_sym {w h a t : Nat} {g : Nat → Nat} (hw : w < 5) (hh : h < 5) (hwh : w * h ≤ 16) (ha : opn w h g a = true) (hc : Cl (hgR w h (opn w h g)) a t) : Cl (hgR w h (opn w h g)) t a ∧ opn w h g t = true := by
  refine hc (fun x => Cl (hgR w h (opn w h g)) x a ∧ opn w h g x = true) ⟨Cl.base, ha⟩ (fun x y hx hr => ?_)
  have hy : opn w h g y = true := by
    unfold hgR at hr
    rw [Bool.and_eq_true] at hr
    exact hr.2
  exact ⟨(Cl.base.step (hg_sym hw hh hwh hx.2 hr)).trans hx.1, hy⟩
/-- every open cell hangs together with a leader at or ahead of it -/
theorem ldr_ex {w h : Nat} {O : Nat → Bool} : ∀ n c, c < n → O c = true → ∃ l, l ≤ c ∧ ldr w h O l = true ∧ clB (hgR w h O) l c = true
  | 0, c, h1, _ => absurd h1 (Nat.not_lt_zero c)
  | n + 1, c, h1, hO => by
    by_cases hl : ldr w h O c = true
    · exact ⟨c, Nat.le_refl c, hl, clB_iff.mpr Cl.base⟩
    · have h2 : anK (fun k => O k && clB (hgR w h O) k c) c = true := by
        rw [Bool.not_eq_true] at hl
        unfold ldr at hl
        rw [hO, Bool.true_and, Bool.not_eq_false'] at hl
        exact hl
      obtain ⟨k, hk, h3⟩ := (anK_iff _).mp h2
      rw [Bool.and_eq_true] at h3
      obtain ⟨l, hl1, hl2, hl3⟩ := ldr_ex n k (by omega) h3.1
      exact ⟨l, by omega, hl2, clB_iff.mpr ((clB_iff.mp hl3).trans (clB_iff.mp h3.2))⟩
theorem ldr_O {w h c : Nat} {O : Nat → Bool} (hl : ldr w h O c = true) : O c = true := by
  unfold ldr at hl
  rw [Bool.and_eq_true] at hl
  exact hl.1
/-- two leaders' parts don't meet -/
theorem ldr_two {w h l k i : Nat} {g : Nat → Nat} (hw : w < 5) (hh : h < 5) (hwh : w * h ≤ 16) (h1 : ldr w h (opn w h g) l = true) (h2 : ldr w h (opn w h g) k = true) (hlk : l < k) (h3 : clB (hgR w h (opn w h g)) l i = true) : clB (hgR w h (opn w h g)) k i = false := by
  rw [Bool.eq_false_iff]
  intro h4
  have h5 := (Cl_sym hw hh hwh (ldr_O h2) (clB_iff.mp h4)).1
  have h6 := (clB_iff.mp h3).trans h5
  unfold ldr at h2
  rw [Bool.and_eq_true, Bool.not_eq_true'] at h2
  have h7 : anK (fun c => opn w h g c && clB (hgR w h (opn w h g)) c k) k = true := (anK_iff _).mpr ⟨l, hlk, by rw [ldr_O h1, clB_iff.mpr h6]; rfl⟩
  rw [h7] at h2
  exact absurd h2.2 (by simp)
