/-! CONSTRUCTORS: the two objects' worlds -/
def b00 : Bd := (fun _ => 0, fun _ => 0, 0, 2)
/-- the state of a new object -/
def s00 : Sg := ([], (1, 1, 0), b00, [], fun _ => none, 0)
def I0C : MemI := fun a => match a with
  | 3 => fun k => match k with
    | 5 => nI 1
    | 6 => nI 1
    | 8 => nI 1
    | _ => nI 0
  | 9 => fun k => match k with
    | 10 => -9
    | _ => nI 0
  | 10 => fun k => match k with
    | 10 => -9
    | _ => nI 0
  | 11 => fun k => match k with
    | 10 => -9
    | _ => nI 0
  | 12 => fun k => match k with
    | 10 => -9
    | _ => nI 0
  | 13 => fun k => match k with
    | 10 => -9
    | _ => nI 0
  | 23 => fun j => if j < 16 then -9 else 0
  | 28 => fun j => if j < 2 then -9 else 0
  | _ => fun _ => 0
def J00 : MemJ := fun _ _ => 0
def I0M : MemI := fun a => match a with
  | 0 => fun k => match k with
    | 0 => nI 1
    | 1 => nI 1
    | _ => 0
  | 1 => upd (fun _ => 0) 0 (nI 46)
  | 4 => upd (fun _ => 0) 0 (-9)
  | _ => fun _ => 0
theorem pkN_0 : ∀ n, pkN (fun _ => 0) n = 0
  | 0 => rfl
  | n + 1 => by
    show 2 ^ (4 * n) * 0 + pkN (fun _ => 0) n = 0
    rw [pkN_0 n, Nat.mul_zero]
theorem ms_0 {P : Nat → Bool} (h : ∀ c, P c = false) : mset P = 0 := mset_zero.mpr (fun c _ => h c)
theorem nI_z : (0 : Int32) = nI 0 := nI_0.symm
theorem fI_0 : ∀ i, 5 ≤ i → i ≤ 9 → fI b00 i = nI 0 := by
  intro i h1 h2
  have e1 : mset (wht b00.1) = 0 := ms_0 (fun _ => rfl)
  have e2 : mset (blk b00.1) = 0 := ms_0 (fun _ => rfl)
  have e3 : mset (ded b00.1) = 0 := ms_0 (fun _ => rfl)
  have e4 : mset (kng b00.1) = 0 := ms_0 (fun _ => rfl)
  rcases (show i = 5 ∨ i = 6 ∨ i = 7 ∨ i = 8 ∨ i = 9 by omega) with rfl | rfl | rfl | rfl | rfl
  · show nI (mset (wht b00.1)) = nI 0; rw [e1]
  · show nI (mset (blk b00.1)) = nI 0; rw [e2]
  · show nI (mset (ded b00.1)) = nI 0; rw [e3]
  · show nI (mset (kng b00.1)) = nI 0; rw [e4]
  · rfl
theorem fJ_0 : ∀ i, 3 ≤ i → i ≤ 4 → fJ b00 i = 0 := by
  intro i h1 h2
  have e : lN (pk (fun _ => 0)) = 0 := by unfold pk; rw [pkN_0]; decide +kernel
  rcases (show i = 3 ∨ i = 4 by omega) with rfl | rfl
  · exact e
  · exact e
theorem Bok_0 {n : Nat} : Bok n b00 := ⟨fun _ _ => show 0 < 12 by decide, fun _ _ => show 0 < 10 by decide, fun _ _ h => absurd h (Nat.lt_irrefl 0), by decide, by decide, fun _ _ => rfl⟩
theorem PL_0 {p : Nat} {I : MemI} (h : ∀ i, I p i = if i = 10 then -9 else nI 0) : PL p b00 I J00 := ⟨fun i h1 h2 => by
  rw [h]
  by_cases e : i = 10
  · subst e; rfl
  · rw [if_neg e, fI_0 i h1 (by omega)], fun i h1 h2 => by rw [fJ_0 i h1 h2]; rfl⟩
theorem I0_p : ∀ p, p = 12 ∨ p = 13 → ∀ i, I0C p i = if i = 10 then -9 else nI 0 := by
  intro p hp i
  rcases hp with rfl | rfl
  · show (match i with | 10 => (-9 : Int32) | _ => nI 0) = _
    split
    · rfl
    · rename_i h; rw [if_neg (fun e => h e)]
  · show (match i with | 10 => (-9 : Int32) | _ => nI 0) = _
    split
    · rfl
    · rename_i h; rw [if_neg (fun e => h e)]
theorem RC_0 {I : MemI} (hF : Fld 1 1 0 I) (hI : ∀ a i, (a < 3 ∨ 9 ≤ a) → I a i = I0C a i) : RC s00 I J00 := by
  refine ⟨by decide, ⟨by rw [hI 1 1 (by omega)]; exact nI_z, by decide, fun j b h => by cases h⟩, hF, ⟨PL_0 (fun i => by rw [hI 12 i (by omega)]; exact I0_p 12 (Or.inl rfl) i), Bok_0⟩, ⟨⟨0, fun _ => none, by rw [hI 19 1 (by omega)]; exact nI_z, by rw [hI 19 2 (by omega)]; exact nI_z, by decide, by decide, fun i hi => ?_, fun j b h => by cases h⟩, fun c hc => absurd hc List.not_mem_nil⟩, ⟨fun i hi => ?_, fun i c h => by cases h⟩, rfl, b00, PL_0 (fun i => by rw [hI 13 i (by omega)]; exact I0_p 13 (Or.inr rfl) i), fun _ _ => show 0 < 12 by decide⟩
  · show I 23 i = -9
    rw [hI 23 i (by omega)]
    exact if_pos hi
  · show I 28 i = -9
    rw [hI 28 i (by omega)]
    exact if_pos hi
theorem RM_0 : RM s00 I0M J00 := by
  refine ⟨by decide, ⟨nI_z, by decide, fun j b h => by cases h⟩, ⟨⟨⟨by decide, by decide, by decide, by decide⟩, rfl, rfl⟩, nI_z⟩, ⟨⟨fun c hc => ⟨?_, ?_⟩, nI_z, rfl⟩, Bok_0⟩, ⟨⟨0, nI_z, nI_z, by decide, by decide, fun j c h => by cases h⟩, fun c hc => absurd hc List.not_mem_nil⟩, ⟨fun s hs => ⟨nI_z, fun c h => by cases h⟩, fun i c h => by cases h⟩, rfl⟩
  · show upd (fun _ => 0) 0 (nI 46) (16 * 0 + c) = nI (if c < 1 then asc 0 else 0)
    rw [Nat.mul_zero, Nat.zero_add]
    unfold upd
    by_cases e : c = 0
    · rw [if_pos e, if_pos (by omega)]; rfl
    · rw [if_neg e, if_neg (by omega)]; rfl
  · exact nI_z
/-- addresses by the places of a world -/
def adr (ws : va_W) (A0 : Nat → Nat) : Nat → Nat := fun i => if i < 1000 then (ws.map Prod.fst).getD i 0 else A0 i
theorem adr_get {ws : va_W} {A0 : Nat → Nat} {i : Nat} {q : Nat × va_E} (h : ws[i]? = some q) (hi : i < 1000) : adr ws A0 i = q.1 := by
  unfold adr
  rw [if_pos hi]
  simp [h]
theorem adr_in {ws : va_W} {A0 : Nat → Nat} {A : Nat → Prop} (hD : va_D A ws) (hl : ws.length ≤ 1000) : (∀ i j, i < ws.length → j < ws.length → adr ws A0 i = adr ws A0 j → i = j) ∧ ∀ i, i < ws.length → A (adr ws A0 i) := by
  refine ⟨fun i j hi hj he => ?_, fun i hi => ?_⟩
  · have h1 : ws[i]? = some ws[i] := List.getElem?_eq_getElem hi
    have h2 : ws[j]? = some ws[j] := List.getElem?_eq_getElem hj
    rw [adr_get h1 (by omega), adr_get h2 (by omega)] at he
    exact hD.1 i j _ _ h1 h2 he
  · have h1 : ws[i]? = some ws[i] := List.getElem?_eq_getElem hi
    rw [adr_get h1 (by omega)]
    exact hD.2 i _ h1
theorem wld_of {G : va_G} {cA : Nat → ClassId} {Ω : Shp} {A : Nat → Nat} {I : MemI} {J : MemJ} {H : Heap} {ws : va_W} (hP : va_P G vwCl ws H) (h : ∀ i q, Ω.1[i]? = some q → ws[i]? = some (A i, cel cA Ω A I J i q)) : va_P G vwCl (wld cA Ω A I J) H := by
  intro k q hk
  have hl : k < (wld cA Ω A I J).length := (List.getElem?_eq_some_iff.mp hk).1
  rw [wld_len] at hl
  rw [wld_get (List.getElem?_eq_getElem hl)] at hk
  cases hk
  exact hP k _ (h k _ (List.getElem?_eq_getElem hl))
theorem Roe.cong {A A1 : Nat → Nat} {fm : Value} {B : Nat → Prop} {U : State} {H : Heap} (h : Roe A fm B U H) (e : ∀ i, 1000 ≤ i → A1 i = A i) : Roe A1 fm B U H := by
  obtain ⟨⟨h1, h2⟩, h3, ⟨h4, h5⟩, h6, h7, h8⟩ := h
  refine ⟨⟨fun q hq => ?_, fun i a b => ?_⟩, fun i a b => ?_, ⟨?_, ?_⟩, h6, h7, h8⟩
  · have hq2 : 1000 ≤ q.2 := by
      simp only [roS, List.mem_cons, List.not_mem_nil, or_false] at hq
      rcases hq with rfl | rfl | rfl | rfl <;> decide
    rw [e _ hq2]; exact h1 q hq
  · rw [e _ a]; exact h2 i a b
  · rw [e i (by omega), e (i + 2) (by omega)]; exact h3 i a b
  · rw [e 1004 (by omega)]; exact h4
  · rw [e 1005 (by omega)]; exact h5
/-- what stands behind a constructor of one of the two -/
def XQ (Ω : Shp) (R : MemI → MemJ → Prop) (G : va_G) (cA : Nat → ClassId) (A0 : Nat → Nat) (h0 : Nat) (A : Nat → Prop) (u : (Nat → Nat) × MemI × MemJ) (t : State) : Prop :=
  va_P G vwCl (wld cA Ω u.1 u.2.1 u.2.2) t.heap ∧ Apt Ω u.1 ∧ (∀ i, 1000 ≤ i → u.1 i = A0 i) ∧ u.1 0 = h0 ∧ (∀ i, i < Ω.1.length → A (u.1 i)) ∧ R u.2.1 u.2.2
/-- a call of a method of a world, from a frame of any room -/
theorem x_callA {p : Program} {l : Launch} {e : Env} {R : Room} {s : State} {m : MethodId} {args : Array Value} {below : List Frame} {meth : Method} {c : Code} {H : Heap} {locs : List Loc} {k n : Nat} {Qw : State → Prop} {G : va_G} {cA : Nat → ClassId} {A1 : Nat → Nat} {fm : Value} {Ω : Shp} {A : Nat → Prop} {ls : Array Slot} {pc : Nat} {a : Array Value} {st0 rest : List Value} {Q' : Pst} (hS : va_S A s.heap H locs) (hAS : ∀ q, AS Ω A1 H.size q → A q)
    (run : va_Run p l e R s m args below meth c H locs k n 0 0 (F0 m pc ls st0) rest (QCn Ω G cA A1 fm Q' a) (AS Ω A1 H.size))
    (kk : ∀ (r : Option Value) (I' : MemI) (J' : MemJ) (H1 : Heap) (locs1 : List Loc), Q' r I' J' → va_P G vwCl (wld cA Ω A1 I' J') H1 → va_S A s.heap H1 locs1 → H.size ≤ H1.size → (∀ q : Nat, q < H.size → ¬ AS Ω A1 H.size q → H1[q]? = H[q]?) → W p l e R s m args below meth c H1 locs1 k n Qw (F0 m (pc + 3) ls ((r.map (cv A1 fm)).toList ++ rest))) : W p l e R s m args below meth c H locs k n Qw (F0 m pc ls st0) := by
  intro T hT XT
  obtain ⟨v, st₀, t, T', Lx, h0, X', hL, e1, e2, ⟨⟨r, I', J', hv, hq, hp⟩, hz, hk⟩, st⟩ := run T hT XT
  cases hv
  rw [h0] at hz hk
  obtain ⟨t2, a1, b1⟩ := kk r I' J' t.heap (locs ++ Lx) hq hp ⟨Nat.le_trans hS.1 hz, fun q h1 h2 => by
      rw [hk q (Nat.lt_of_lt_of_le h1 hS.1) (fun z => h2 (hAS q z))]
      exact hS.2.1 q h1 h2, fun q hq => by
      rcases List.mem_append.mp hq with h | h
      · exact hS.2.2 q h
      · exact hAS _ (hL q h)⟩ hz hk T' e1 X'
  exact ⟨t2, st t2 a1, b1⟩
section CPF
variable {G : va_G} {cA : Nat → ClassId} {A0 : Nat → Nat} {fm : Value} {d NC NS : Nat} {A : Nat → Prop} {l : Launch} {L : Lcs} {k n : Nat} {ws : va_W}
theorem cp_shape {h0 a3 : Nat} {ws' : va_W} (perm : List Nat) (hPs : perm.filterMap (fun i => ws[i]?) = ws') (hnd : va_nd perm = true) (hDs : perm.map (fun i => ws[i]?) = ws'.map some) (hlen : ws'.length = 30) (hcel : ∀ i q, shC[i]? = some q → ws'[i]? = some (adr ws' A0 i, cel cA ΩC (adr ws' A0) I0C J00 i q)) (h3 : adr ws' A0 3 = a3) (h00 : adr ws' A0 0 = h0) (hk : k ≤ NC) (hn : n ≤ NS) (h3d : 3 ≤ d) : CP G cA A0 fm kX5_init d NC NS A l (CTQ (XQ ΩC (RC s00) G cA A0 h0 A) A) 114 L [.int (nI 0), .int (nI 1), .int (nI 1), .ref a3] k n ws := by
  intro p e s m args below meth c H locs ls X hP hD hS hl
  obtain ⟨hx, hb, hr, hlocks, hml, hown, hts, hK, hR, hN, hnm, hA⟩ := id X
  have hP' : va_P G vwCl ws' H := hP.sub perm hPs
  have hD' : va_D A ws' := hD.sub perm hnd hDs
  obtain ⟨hap, hin⟩ := adr_in (A0 := A0) hD' (by omega)
  rw [hlen] at hap hin
  have e1000 : ∀ i, 1000 ≤ i → adr ws' A0 i = A0 i := fun i hi => by unfold adr; rw [if_neg (by omega)]
  have hP1 := wld_of (Ω := ΩC) hP' hcel
  generalize adr ws' A0 = A1 at hap hin e1000 hP1 h3 h00
  subst h3
  have hAp : Apt ΩC A1 := hap
  have hR1 : Roe A1 fm A s s.heap := hR.cong e1000
  have hAS : ∀ q, AS ΩC A1 H.size q → A q := fun q hq => hq.elim (fun ⟨i, hi, e⟩ => by rw [e]; exact hin i hi) (fun h => hA q (Nat.le_trans hS.1 h))
  have hrecv : ∃ cellB : Cell, H[A1 3]? = some cellB ∧ cellB.vm.isStatics = false ∧ s.vm.findClass RX0 = some cellB.cls := va_recv hK hP1 (cl_ok 0 (by decide)) (wld_get (show ΩC.1[3]? = some (0, 0, 0) from rfl))
  have hpre : ∀ U : State, U.heap = H → s.WarmedH U.vm → PCn ΩC G cA A1 fm H.size [.ref 3, .int (nI 1), .int (nI 1), .int (nI 0)] I0C J00 (Value.ref (A1 3) :: [.int (nI 1), .int (nI 1), .int (nI 0)]).toArray U := fun U hU hW => ⟨rfl, by rw [hU], by rw [hU]; exact hP1, va_K.moved hW.alike hK, hAp, by rw [hU]; exact hR1.go hW hS.2.1 hAS, hN.warm hW⟩
  have hC := sp_X0_shape (d := 0) (w := 1) (h := 1) (last := 0) (I := I0C) (J := J00) (by decide) (by decide) (by decide) (by decide)
  have mi := m_X0_shape
  have hrm : (rmD (0 + 2)).frames + 1 ≤ (rmC d NC NS).frames ∧ 8 + (kX0_shape.2.2.1 + 11) + (rmD (0 + 2)).locals ≤ (rmC d NC NS).locals := by
    have := mi.1.2.2.2
    refine ⟨h3d, ?_⟩
    show 8 + (kX0_shape.2.2.1 + 11) + 50 * 2 ≤ 50 * d
    omega
  have run : va_Run p l e (rmC d NC NS) s m args below meth c H locs k n 0 0 (F0 m 114 ls [.int (nI 0), .int (nI 1), .int (nI 1), .ref (A1 3)]) [] (QCn ΩC G cA A1 fm (VQ (fun I' J' => Fld 1 1 0 I' ∧ (∀ a i, (a < 3 ∨ 9 ≤ a) → I' a i = I0C a i) ∧ J' = J00)) (Value.ref (A1 3) :: [.int (nI 1), .int (nI 1), .int (nI 0)]).toArray) (AS ΩC A1 H.size) := by
    rcases lm_X5_58 with lk | lk
    · exact va_runV (C := RX0) (As := [.int (nI 1), .int (nI 1), .int (nI 0)]) ⟨hx, hb, hml, hown, hts⟩ (hC l G cA A1 fm H.size)
        (cwV 3 hts (C := RX0) (tb_gi (fun w hw => by
          rcases List.mem_append.mp hw with h | h
          · simp only [List.mem_cons, List.not_mem_nil, or_false] at h
            rcases h with rfl | rfl | rfl | rfl
            · exact lk
            · exact mi.2.1
            · exact mi.2.2
            · exact mi.1.2.2.1
          · exact tb_ws mi.1 w h)) rfl rfl rfl ⟨rfl, mi.1.1⟩ hrm) ⟨pc_blind, hrecv, hpre⟩ rfl rfl hl.1 rfl (lv_room (Nat.zero_le _)) dX5_init_114 ⟨hk, hn⟩
    · exact va_runVN (C := RX0) (As := [.int (nI 1), .int (nI 1), .int (nI 0)]) ⟨hx, hb, hml, hown, hts⟩ (hC l G cA A1 fm H.size)
        ⟨va_cnB 3 hts (tb_gi (tb_ws mi.1)) rfl rfl rfl (hN.2 _ lk) (hts _ mi.1.2.2.1) mi.1.1 hrm, hts _ mi.2.1, hts _ mi.2.2⟩ ⟨pc_blind, hrecv, hpre⟩ rfl rfl hl.1 rfl (lv_room (Nat.zero_le _)) dX5_init_114 ⟨hk, hn⟩
  refine x_callA hS hAS run (fun r I' J' H1 locs1 hq hP2 hS2 _ _ => ?_)
  obtain ⟨rfl, g1, g2, rfl⟩ := hq
  refine W.widen (k := NC) (n := NS) hk hn ?_
  exact W.vret hx hb hr (fun t ht hW => ⟨⟨(A1, I', J00), rfl, trivial, by rw [ht]; exact hP2, hAp, e1000, h00, hin, RC_0 g1 g2⟩, hS2.F ht⟩) hS2.2.2 dX5_init_117 hlocks
theorem cp_mend {h0 : Nat} {ws' : va_W} (perm : List Nat) (hPs : perm.filterMap (fun i => ws[i]?) = ws') (hnd : va_nd perm = true) (hDs : perm.map (fun i => ws[i]?) = ws'.map some) (hlen : ws'.length = 13) (hcel : ∀ i q, shM[i]? = some q → ws'[i]? = some (adr ws' A0 i, cel cA ΩM (adr ws' A0) I0M J00 i q)) (h00 : adr ws' A0 0 = h0) (hk : k ≤ NC) (hn : n ≤ NS) : CP G cA A0 fm kX6_init d NC NS A l (CTQ (XQ ΩM (RM s00) G cA A0 h0 A) A) 125 L [] k n ws := by
  refine cp_return dX6_init_125 rfl hk hn (adr ws' A0, I0M, J00) (fun t hP hD => ?_)
  have hP' : va_P G vwCl ws' t.heap := hP.sub perm hPs
  have hD' : va_D A ws' := hD.sub perm hnd hDs
  obtain ⟨hap, hin⟩ := adr_in (A0 := A0) hD' (by omega)
  rw [hlen] at hap hin
  exact ⟨wld_of (Ω := ΩM) hP' hcel, hap, fun i hi => by show adr ws' A0 i = A0 i; unfold adr; rw [if_neg (by omega)], h00, hin, RM_0⟩
end CPF
