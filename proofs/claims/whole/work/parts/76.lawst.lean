/-! THE LAW, from its entry -/
theorem va_1 {ws : va_W} {q1 q sz : Nat} {en : va_E} (h : va_A [(q1, en)] sz q) : q = q1 ∨ sz ≤ q := by
  rcases h with ⟨k, e, h⟩ | h
  · have hk : k < 1 := (List.getElem?_eq_some_iff.mp h).1
    obtain rfl : k = 0 := by omega
    cases h
    exact Or.inl rfl
  · exact Or.inr h
theorem TkS_0 : TkS s00 := ⟨Tok_0 (fun _ => rfl), fun c hc => absurd hc List.not_mem_nil, fun i c h => by cases h⟩
set_option maxHeartbeats 16000000 in
theorem whole_start {p : Program} {e : Env} {s : State} {m : MethodId} {below : List Frame} {meth : Method} {c : Code} (l : Launch) (hflags : l.flags = flags0) {b L : Nat} {xs : Nat → Int32} (hL : L ≤ 2048) (C0 : lw_At p s m meth c b L xs) : W p l e room_1 s m #[Value.ref b] below meth c s.heap [] 0 0 (lw_Z below #[Value.ref b] s) (entryFrame m ([Value.ref b] : List Value).toArray 4) := by
  obtain ⟨hx, hb, hr, hml, hown, hts, hX, hbl, hlocks, hgv⟩ := id C0
  have hA : ∀ q : Nat, s.heap.size ≤ q → (fun q : Nat => s.heap.size ≤ q) q := fun _ h => h
  have htb : ∀ w ∈ TB, w.before #[Value.ref b] s = true := fun w hw => hts w (tb_ok hw)
  obtain ⟨G, cA, hK⟩ := ents_K hts
  obtain ⟨A0, fm, hR⟩ := ents_R hts hgv
  have hN := nst_ok hts
  have hS : va_S (fun q : Nat => s.heap.size ≤ q) s.heap s.heap [] := va_S.rf
  have hP : va_P G vwCl [] s.heap := fun k q h => by simp at h
  have hD : va_D (fun q : Nat => s.heap.size ≤ q) [] := ⟨fun i j p q h => by simp at h, fun k q h => by simp at h⟩
  have hl := lv_entry ([.ref b]) (n := 4) (Nat.le_of_ble_eq_true rfl)
  rw [lg_entry_eq]
  generalize (lg_sl ([.ref b]) ++ List.replicate (4 - (lg_sl ([.ref b])).length) Slot.unset).toArray = ls at hl ⊢
  have hl : lv_has ls 4 [(0, .ref b)] := hl
  refine va_new hx hb htb (cl_in 5 (by decide)) (cTy 5) (cl_ty 5 (by decide)) hown (htb _ (tb_in 62 (by decide +kernel))) (htb _ (tb_in 63 (by decide +kernel))) (htb _ (tb_in 47 (by decide +kernel))) hK hP hD hS hA (cl_ok 5 (by decide)) df_5 (Nat.le_of_ble_eq_true rfl) (Nat.le_of_ble_eq_true rfl) dL_law_0 (fun q0 H1 hP hD hS => ?_)
  refine lv_dup hx hb dL_law_3 rfl ?_
  have hP : va_P G vwCl [(q0, .inr (5, [.null, .null, .null, .null, .null, .null, .null, .long 0]))] H1 := hP
  have hD : va_D (fun q : Nat => s.heap.size ≤ q) [(q0, .inr (5, [.null, .null, .null, .null, .null, .null, .null, .long 0]))] := hD
  have hF1 := va_free (wc := [(q0, .inr (5, [.null, .null, .null, .null, .null, .null, .null, .long 0]))]) hD hS hA [0] rfl
  have pre1 : ∀ U : State, U.heap = H1 → s.WarmedH U.vm → CTP G cA A0 fm [(q0, .inr (5, [.null, .null, .null, .null, .null, .null, .null, .long 0]))] H1.size [.ref q0] (Value.ref q0 :: []).toArray U := fun U hU hW => ⟨rfl, by rw [hU], by rw [hU]; exact hP, hD.weaken (fun _ _ _ _ => trivial), va_K.moved hW.alike hK, by rw [hU]; exact hR.go hW hS.2.1 hF1, hN.warm hW⟩
  refine va_callv (va_runI (As := []) (rest := [.ref q0]) ⟨hx, hb, hml, hown, htb⟩ (mt_X5_init (l := l) (G := G) (cA := cA) (A0 := A0) (fm := fm) (sz := H1.size) (h0 := q0)) (cwI 0 htb (tb_gi (tb_ws m_X5_init.1)) rfl rfl rfl (htb _ m_X5_init.1.2.2.1) (htb _ (tb_in 64 (by decide +kernel))) (htb _ m_X5_init.2.1) rfl m_X5_init.1.1 ⟨Nat.le_of_ble_eq_true rfl, Nat.le_of_ble_eq_true rfl⟩) ⟨ct_blind, pre1⟩ rfl rfl hl.1 rfl (lv_room (Nat.le_of_ble_eq_true rfl)) dL_law_4 ⟨Nat.le_of_ble_eq_true rfl, Nat.le_of_ble_eq_true rfl⟩) hS (fun q _ h => hF1 q h) hF1 (fun u t H2 locs2 ht hvm _ hB hz1 hk1 hS => ?_)
  obtain ⟨A1, I1, J1⟩ := u
  have hP1 : va_P G vwCl (wld cA ΩC A1 I1 J1) H2 := by rw [← ht]; exact hB.1
  have hAp1 : Apt ΩC A1 := hB.2.1
  have e1 : ∀ i, 1000 ≤ i → A1 i = A0 i := hB.2.2.1
  have z1 : A1 0 = q0 := hB.2.2.2.1
  have in1 : ∀ i, i < 30 → s.heap.size ≤ A1 i := fun i hi => hF1 _ (hB.2.2.2.2.1 i hi)
  have r1 : RC s00 I1 J1 := hB.2.2.2.2.2
  clear hB hP hD pre1 hF1
  refine lv_astore_n (lv' := [(1, .ref q0), (0, .ref b)]) hx hb dL_law_7 rfl hl (by decide) rfl (fun ls hl => ?_)
  have hD1 : va_D (fun q : Nat => s.heap.size ≤ q) (wld cA ΩC A1 I1 J1) := (hAp1.D (cA := cA) (I := I1) (J := J1) (sz := s.heap.size)).weaken (fun k q _ h => h.elim (fun ⟨i, hi, e⟩ => by rw [e]; exact in1 i hi) (fun h => h))
  refine va_new hx hb htb (cl_in 6 (by decide)) (cTy 6) (cl_ty 6 (by decide)) hown (htb _ (tb_in 784 (by decide +kernel))) (htb _ (tb_in 785 (by decide +kernel))) (htb _ (tb_in 53 (by decide +kernel))) hK hP1 hD1 hS hA (cl_ok 6 (by decide)) df_6 (Nat.le_of_ble_eq_true rfl) (Nat.le_of_ble_eq_true rfl) dL_law_8 (fun q1 H3 hP hD hS => ?_)
  refine lv_dup hx hb dL_law_11 rfl ?_
  generalize hen : (Sum.inr (6, [.int 0, .int 0, .int 0, .null, .null, .null, .null, .null, .int 0, .null, .null, .int 0, .int 0, .null, .null, .null, .long 0, .null, .null]) : va_E) = en at hP hD
  have hl30 : (wld cA ΩC A1 I1 J1).length = 30 := wld_len
  have h30 : (wld cA ΩC A1 I1 J1 ++ [(q1, en)])[30]? = some (q1, en) := by
    rw [List.getElem?_append_right (by omega), hl30]
    rfl
  have hlo : ∀ (k : Nat) (q : Nat × va_E), (wld cA ΩC A1 I1 J1)[k]? = some q → (wld cA ΩC A1 I1 J1 ++ [(q1, en)])[k]? = some q := fun k q h => by
    rw [List.getElem?_append_left (List.getElem?_eq_some_iff.mp h).1]
    exact h
  have hPc : va_P G vwCl (wld cA ΩC A1 I1 J1) H3 := fun k q h => hP k q (hlo k q h)
  have hPm : va_P G vwCl [(q1, en)] H3 := hP.sub [30] (by simp [h30])
  have hDm : va_D (fun q : Nat => s.heap.size ≤ q) [(q1, en)] := hD.sub [30] rfl (by simp [h30])
  have hne : ∀ (k : Nat) (q : Nat × va_E), (wld cA ΩC A1 I1 J1)[k]? = some q → ¬ q.1 = q1 := fun k q h he => by
    have h1 := hD.1 k 30 q (q1, en) (hlo k q h) h30 he
    have h2 := (List.getElem?_eq_some_iff.mp h).1
    omega
  have hF2 := va_free (wc := [(q1, en)]) hD hS hA [30] (by simp [h30])
  have pre2 : ∀ U : State, U.heap = H3 → s.WarmedH U.vm → CTP G cA A0 fm [(q1, en)] H3.size [.ref q1] (Value.ref q1 :: []).toArray U := fun U hU hW => ⟨rfl, by rw [hU], by rw [hU]; exact hPm, hDm.weaken (fun _ _ _ _ => trivial), va_K.moved hW.alike hK, by rw [hU]; exact hR.go hW hS.2.1 hF2, hN.warm hW⟩
  have mt2 := mt_X6_init (l := l) (G := G) (cA := cA) (A0 := A0) (fm := fm) (sz := H3.size) (h0 := q1)
  rw [hen] at mt2
  refine va_callv (va_runI (As := []) (rest := [.ref q1]) ⟨hx, hb, hml, hown, htb⟩ mt2 (cwI 0 htb (tb_gi (tb_ws m_X6_init.1)) rfl rfl rfl (htb _ m_X6_init.1.2.2.1) (htb _ (tb_in 786 (by decide +kernel))) (htb _ m_X6_init.2.1) rfl m_X6_init.1.1 ⟨Nat.le_of_ble_eq_true rfl, Nat.le_of_ble_eq_true rfl⟩) ⟨ct_blind, pre2⟩ rfl rfl hl.1 rfl (lv_room (Nat.le_of_ble_eq_true rfl)) dL_law_12 ⟨Nat.le_of_ble_eq_true rfl, Nat.le_of_ble_eq_true rfl⟩) hS (fun q _ h => hF2 q h) hF2 (fun u t H4 locs4 ht hvm _ hB hz2 hk2 hS => ?_)
  obtain ⟨A2, I2, J2⟩ := u
  have hP2 : va_P G vwCl (wld cA ΩM A2 I2 J2) H4 := by rw [← ht]; exact hB.1
  have hAp2 : Apt ΩM A2 := hB.2.1
  have e2 : ∀ i, 1000 ≤ i → A2 i = A0 i := hB.2.2.1
  have z2 : A2 0 = q1 := hB.2.2.2.1
  have in2 : ∀ i, i < 13 → va_A [(q1, en)] H3.size (A2 i) := hB.2.2.2.2.1
  have r2 : RM s00 I2 J2 := hB.2.2.2.2.2
  have hP4 : va_P G vwCl (wld cA ΩC A1 I1 J1) H4 := hPc.kept (fun k q hq => hk2 q.1 (hPc k q hq).lt (fun z => (va_1 (ws := []) z).elim (hne k q hq) (fun h => absurd (hPc k q hq).lt (Nat.not_lt.mpr h))))
  have hdis : ∀ i j, i < 30 → j < 13 → ¬ A1 i = A2 j := fun i j hi hj he => by
    have hlt : i < ΩC.1.length := hi
    have hq := wld_get (cA := cA) (A := A1) (I := I1) (J := J1) (List.getElem?_eq_getElem hlt)
    rcases va_1 (ws := []) (in2 j hj) with h | h
    · exact hne i _ hq (he.trans h)
    · have h3 : A1 i < H3.size := (hPc i _ hq).lt
      omega
  have hg2 : ∀ j, j < 13 → s.heap.size ≤ A2 j := fun j hj => hF2 _ (in2 j hj)
  clear hB hP hD hPc hPm hDm hne hlo h30 pre2 mt2 hD1 hP1
  refine lv_astore_n (lv' := [(2, .ref q1), (1, .ref q0), (0, .ref b)]) hx hb dL_law_15 rfl hl (by decide) rfl (fun ls hl => ?_)
  refine lv_iconst (v := nI 0) hx hb dL_law_16 (by decide +kernel) ?_
  refine lv_istore_n (lv' := [(3, .int (nI 0)), (2, .ref q1), (1, .ref q0), (0, .ref b)]) hx hb dL_law_17 rfl hl (by decide) rfl (fun ls hl => ?_)
  refine W.widen (k := 600000) (n := 7302250) (Nat.le_of_ble_eq_true rfl) (Nat.le_of_ble_eq_true rfl) ?_
  have hl4 : lv_has ls 4 [(0, .ref b), (1, .ref (A1 0)), (2, .ref (A2 0)), (3, .int (nI 0))] := by
    rw [z1, z2]
    exact lv_sub hl [3, 2, 1, 0] rfl
  exact law_loop (l := l) (e := e) (below := below) ⟨C0, hK, hAp1, hAp2, hdis, in1, hg2, hR.cong e1, hR.cong e2, hN⟩ hL (L + 1) 0 s00 (Nat.zero_le _) (by omega) TkS_0 I1 J1 I2 J2 H4 locs4 ls r1 r2 hP4 hP2 hS hl4
