/-! BOARDS STAY GOOD; FRAMES; THE CLASS'S PICTURE -/
theorem menP_2 {g : Nat → Nat} {s c : Nat} (h : menP g s c = true) : 2 ≤ g c := by
  unfold menP at h
  split at h
  · exact (of_decide_eq_true h).1
  · have := of_decide_eq_true h
    omega
theorem plP_leg {w h x : Nat} {b : Bd} (hs : ∀ c, c < 16 → b.1 c < 12) (hx : x < 256) (hp : plP w h b x = true) : legX b x ∧ x % 16 < w * h := by
  unfold plP at hp
  rw [Bool.and_eq_true] at hp
  refine ⟨Or.inr ⟨hx, menP_2 hp.1, ?_⟩, rea_t hp.2⟩
  have h16 : x % 16 < 16 := Nat.mod_lt _ (by decide)
  have hsx := hs _ h16
  have hr := hp.2
  unfold reaP at hr
  split at hr
  · cases hr
  · rw [Bool.or_eq_true] at hr
    rcases hr with h1 | h1
    · rw [Bool.and_eq_true, Bool.not_eq_true'] at h1
      have h2 := h1.2
      unfold ful wht blk ded at h2
      rw [Bool.or_eq_false_iff, Bool.or_eq_false_iff] at h2
      have a1 := of_decide_eq_false h2.1.1
      have a2 := of_decide_eq_false h2.1.2
      have a3 := of_decide_eq_false h2.2
      left
      omega
    · rw [Bool.and_eq_true] at h1
      exact Or.inr (menP_2 h1.2)
theorem PLY_mem {w h x : Nat} {b : Bd} (hs : ∀ c, c < 16 → b.1 c < 12) (hx : x ∈ PLY w h b) : b.2.2.2 = 2 ∧ legX b x ∧ (x = 256 ∨ x % 16 < w * h) := by
  unfold PLY at hx
  by_cases hl : b.2.2.2 = 2
  · rw [if_neg (fun z => z hl)] at hx
    by_cases he : plL w h b 256 = []
    · rw [if_pos he, List.mem_singleton] at hx
      exact ⟨hl, Or.inl hx, Or.inl hx⟩
    · rw [if_neg he] at hx
      unfold plL at hx
      rw [List.mem_filter, List.mem_range] at hx
      have := plP_leg hs hx.1 hx.2
      exact ⟨hl, this.1, Or.inr this.2⟩
  · rw [if_pos hl] at hx
    cases hx
theorem PLY_get {w h k : Nat} {b : Bd} (hk : k < (PLY w h b).length) : (PLY w h b).getD k 0 ∈ PLY w h b := by
  rw [List.getD_eq_getElem?_getD, List.getElem?_eq_getElem hk]
  exact List.getElem_mem hk
theorem up_cs (f : Nat → Nat) (c v k : Nat) : (k = c ∧ up f c v k = v) ∨ (k ≠ c ∧ up f c v k = f k) := by
  by_cases h : k = c
  · exact Or.inl ⟨h, by rw [h]; exact up_s⟩
  · exact Or.inr ⟨h, up_n h⟩
theorem Bok_mk {n last x : Nat} {b : Bd} (h : Bok n b) (hx : legX b x) (hn : x = 256 ∨ x % 16 < n) (hl : last < 10) : Bok n (mkB last b x) := by
  obtain ⟨h1, h2, h3, h4, h5, h6⟩ := h
  have gG : ∀ c, (b.2.1 c = 1 ∧ ageG b c = 0) ∨ (b.2.1 c ≠ 1 ∧ ageG b c = b.1 c) := fun c => by
    unfold ageG
    by_cases z : b.2.1 c = 1
    · exact Or.inl ⟨z, if_pos z⟩
    · exact Or.inr ⟨z, if_neg z⟩
  have gT : ∀ c, ageT b c = b.2.1 c - 1 := fun _ => rfl
  have k1 : ∀ c, c < 16 → ageG b c < 12 := fun c hc => by
    have := h1 c hc
    rcases gG c with z | z <;> omega
  have k2 : ∀ c, c < 16 → ageT b c < 10 := fun c hc => by
    have := h2 c hc
    rw [gT]; omega
  have k3 : ∀ c, c < 16 → 0 < ageT b c → ageG b c = 1 := fun c hc hp => by
    rw [gT] at hp
    have := h3 c hc (by omega)
    rcases gG c with z | z <;> omega
  have k6 : ∀ c, n ≤ c → ageG b c = 0 := fun c hc => by
    have := h6 c hc
    rcases gG c with z | z <;> omega
  by_cases e : x = 256
  · unfold mkB
    rw [if_pos e]
    exact ⟨k1, k2, k3, by show 1 - b.2.2.1 < 2; omega, h5, k6⟩
  · have hx2 : x < 256 ∧ 2 ≤ b.1 (x / 16) ∧ (b.1 (x % 16) = 0 ∨ 2 ≤ b.1 (x % 16)) := hx.resolve_left e
    have ht : x % 16 < n := hn.resolve_left e
    have f16 : x / 16 < 16 := by omega
    have t16 : x % 16 < 16 := Nat.mod_lt _ (by decide)
    obtain ⟨x1, x2, x3⟩ := hx2
    have hM : mkB last b x = if ageG b (x % 16) = 0 then (up (up (ageG b) (x % 16) (ageG b (x / 16))) (x / 16) 0, ageT b, 1 - b.2.2.1, b.2.2.2) else fal last (ageG b, ageT b, 1 - b.2.2.1, b.2.2.2) (x % 16) := by
      unfold mkB
      rw [if_neg e]
    rw [hM]
    clear hM
    generalize x / 16 = f at *
    generalize x % 16 = t at *
    have f0 : b.2.1 f = 0 := by
      rcases Nat.eq_zero_or_pos (b.2.1 f) with z | z
      · exact z
      · have := h3 f f16 z; omega
    have fG : ageG b f = b.1 f := by
      rcases gG f with z | z
      · omega
      · exact z.2
    have sf := h1 f f16
    have fn : f < n := by
      rcases Nat.lt_or_ge f n with z | z
      · exact z
      · have := h6 f z; omega
    by_cases e0 : ageG b t = 0
    · rw [if_pos e0]
      have u : ∀ c, (c = f ∧ up (up (ageG b) t (ageG b f)) f 0 c = 0) ∨ (c ≠ f ∧ c = t ∧ up (up (ageG b) t (ageG b f)) f 0 c = b.1 f) ∨ (c ≠ f ∧ c ≠ t ∧ up (up (ageG b) t (ageG b f)) f 0 c = ageG b c) := fun c => by
        rcases up_cs (up (ageG b) t (ageG b f)) f 0 c with z | z
        · exact Or.inl z
        · rcases up_cs (ageG b) t (ageG b f) c with y | y
          · exact Or.inr (Or.inl ⟨z.1, y.1, by rw [z.2, y.2, fG]⟩)
          · exact Or.inr (Or.inr ⟨z.1, y.1, by rw [z.2, y.2]⟩)
      refine ⟨fun c hc => ?_, k2, fun c hc hp => ?_, by show 1 - b.2.2.1 < 2; omega, h5, fun c hc => ?_⟩
      · show up (up (ageG b) t (ageG b f)) f 0 c < 12
        have := k1 c hc
        rcases u c with z | z | z <;> omega
      · show up (up (ageG b) t (ageG b f)) f 0 c = 1
        have a1 := k3 c hc hp
        have a2 := gT c
        have a3 : 0 < ageT b c := hp
        rcases u c with z | z | z
        · rw [z.1] at a2 a3; omega
        · rw [z.2.1] at a1; omega
        · omega
      · show up (up (ageG b) t (ageG b f)) f 0 c = 0
        have := k6 c hc
        rcases u c with z | z | z <;> omega
    · rw [if_neg e0]
      have u := up_cs (ageG b) t 1
      have v := up_cs (ageT b) t last
      refine ⟨fun c hc => ?_, fun c hc => ?_, fun c hc hp => ?_, by show 1 - b.2.2.1 < 2; omega, ?_, fun c hc => ?_⟩
      · show up (ageG b) t 1 c < 12
        have := k1 c hc
        rcases u c with z | z <;> omega
      · show up (ageT b) t last c < 10
        have := k2 c hc
        rcases v c with z | z <;> omega
      · show up (ageG b) t 1 c = 1
        have hp' : 0 < up (ageT b) t last c := hp
        rcases u c with z | z
        · exact z.2
        · rw [z.2]
          refine k3 c hc ?_
          rcases v c with y | y
          · exact absurd y.1 z.1
          · rw [← y.2]; exact hp'
      · show (if kng (ageG b) t = true ∧ hasK (up (ageG b) t 1) (sd (ageG b t)) = false then sd (ageG b t) else b.2.2.2) < 3
        have := sd_lt (ageG b t)
        split <;> omega
      · show up (ageG b) t 1 c = 0
        have := k6 c hc
        rcases u c with z | z <;> omega
/-- what changes lies in P -/
def FR (P : Nat → Nat → Prop) (I I' : MemI) (J J' : MemJ) : Prop := (∀ a i, ¬ P a i → I' a i = I a i) ∧ ∀ a i, ¬ P a i → J' a i = J a i
theorem FR.refl {P : Nat → Nat → Prop} {I : MemI} {J : MemJ} : FR P I I J J := ⟨fun _ _ _ => rfl, fun _ _ _ => rfl⟩
theorem FR.trans {P : Nat → Nat → Prop} {I I1 I2 : MemI} {J J1 J2 : MemJ} (h : FR P I I1 J J1) (k : FR P I1 I2 J1 J2) : FR P I I2 J J2 := ⟨fun a i z => (k.1 a i z).trans (h.1 a i z), fun a i z => (k.2 a i z).trans (h.2 a i z)⟩
theorem FR.mono {P R : Nat → Nat → Prop} {I I1 : MemI} {J J1 : MemJ} (h : FR P I I1 J J1) (hm : ∀ a i, P a i → R a i) : FR R I I1 J J1 := ⟨fun a i z => h.1 a i (fun y => z (hm a i y)), fun a i z => h.2 a i (fun y => z (hm a i y))⟩
theorem FR.w {p : Nat} {b : Bd} {P : Nat → Nat → Prop} {I : MemI} {J : MemJ} (hP : ∀ i, P p i) : FR P I (wI p b I) J (wJ p b J) := ⟨fun a i z => wI_n (fun y => z (by rw [y]; exact hP i)), fun a i z => wJ_n (fun y => z (by rw [y]; exact hP i))⟩
theorem FR.ls {p : Nat} {l : List Nat} {P : Nat → Nat → Prop} {I : MemI} {J : MemJ} (h1 : P p 2) (h2 : ∀ i, P (p + 5) i) : FR P I (lsM p l I) J J := ⟨fun a i z => lsM_o (fun y => z (by rw [y.1, y.2]; exact h1)) (fun y => z (by rw [y]; exact h2 i)), fun _ _ _ => rfl⟩
theorem PL_fr {p : Nat} {b : Bd} {P : Nat → Nat → Prop} {I I' : MemI} {J J' : MemJ} (h : PL p b I J) (hf : FR P I I' J J') (hP : ∀ i, 3 ≤ i → i ≤ 10 → ¬ P p i) : PL p b I' J' := ⟨fun i z y => by rw [hf.1 p i (hP i (by omega) y)]; exact h.1 i z y, fun i z y => by rw [hf.2 p i (hP i z (by omega))]; exact h.2 i z y⟩
theorem Fld_fr {w h last : Nat} {P : Nat → Nat → Prop} {I I' : MemI} {J J' : MemJ} (hF : Fld w h last I) (hf : FR P I I' J J') (hP : ∀ a i, 3 ≤ a → a ≤ 8 → ¬ P a i) : Fld w h last I' := by
  have e : ∀ a i, 3 ≤ a → a ≤ 8 → I' a i = I a i := fun a i z y => hf.1 a i (hP a i z y)
  obtain ⟨a0, a1, a2, a3, a4, a5⟩ := hF
  refine ⟨a0, by rw [e 3 5 (by omega) (by omega)]; exact a1, by rw [e 3 6 (by omega) (by omega)]; exact a2, by rw [e 3 7 (by omega) (by omega)]; exact a3, by rw [e 3 8 (by omega) (by omega)]; exact a4, fun c hc => ?_⟩
  obtain ⟨t1, t2, t3, t4⟩ := a5 c hc
  refine ⟨fun k hk => by rw [e 4 _ (by omega) (by omega)]; exact t1 k hk, by rw [e 5 _ (by omega) (by omega)]; exact t2, by rw [e 6 _ (by omega) (by omega)]; exact t3, fun s hs => ?_⟩
  rw [e 7 _ (by omega) (by omega), e 8 _ (by omega) (by omega)]
  exact t4 s hs
/-- what looking ahead may leave changed -/
def scrC (a i : Nat) : Prop := (9 ≤ a ∧ a ≤ 11) ∨ (14 ≤ a ∧ a ≤ 18) ∨ (a = 12 ∧ i = 2)
/-- THE CLASS'S PICTURE -/
def RepC (t : List Nat) (w h last : Nat) (b : Bd) (ps : List Bd) (f : Nat → Option Bd) (z : Int64) (I : MemI) (J : MemJ) : Prop :=
  last < 10 ∧ TX t I ∧ Fld w h last I ∧ (PL 12 b I J ∧ Bok (w * h) b) ∧ (PT ps I J ∧ ∀ c, c ∈ ps → Bok (w * h) c) ∧ (SL 25 2 f I J ∧ ∀ i c, f i = some c → Bok (w * h) c) ∧ J 0 7 = z ∧ ∃ k, PL 13 k I J ∧ ∀ c, c < 16 → k.1 c < 12
theorem RepC_fr {t : List Nat} {w h last : Nat} {b : Bd} {ps : List Bd} {f : Nat → Option Bd} {z : Int64} {I I' : MemI} {J J' : MemJ} (h0 : RepC t w h last b ps f z I J) (hf : FR scrC I I' J J') : RepC t w h last b ps f z I' J' := by
  obtain ⟨h1, h2, h3, ⟨h4, h5⟩, ⟨h6, h7⟩, ⟨h8, h9⟩, h10, k, h11, h12⟩ := h0
  have e : ∀ a i, ¬ scrC a i → I' a i = I a i := hf.1
  have eJ : ∀ a i, ¬ scrC a i → J' a i = J a i := hf.2
  refine ⟨h1, TX_n h2 (fun a i x y => e a i (by unfold scrC; omega)), Fld_fr h3 hf (fun a i x y => by unfold scrC; omega), ⟨PL_fr h4 hf (fun i x y => by unfold scrC; omega), h5⟩, ⟨PT_n h6 (fun a i x y => e a i (by unfold scrC; omega)) (fun a i x y => eJ a i (by unfold scrC; omega)), h7⟩, ⟨SL_n h8 (fun a i x y => e a i (by unfold scrC; omega)) (fun a i x y => eJ a i (by unfold scrC; omega)), h9⟩, by rw [eJ 0 7 (by unfold scrC; omega)]; exact h10, k, PL_fr h11 hf (fun i x y => by unfold scrC; omega), h12⟩
