/-! ROWS: fields, arrays, statics, calls, answers -/
/-- a field by its entry in a class's pool -/
def LF (own : String) (idx ci k : Nat) : Prop := ci < 7 ∧ k < cNf ci ∧ ((cTb ci) k).1 = cNm ci ∧ (Cond.fieldLink own idx (cNm ci) ((cTb ci) k).2.1 ((cTb ci) k).2.2.1 ∈ TB ∨ (own, idx, cNm ci, ((cTb ci) k).2.1, ((cTb ci) k).2.2.1, "StayWhereFell") ∈ nestF)
section HPR
variable {Ω : Shp} {d : Nat} {K : Mth} {pc : Nat} {L : Lcs} {S : List Value} {I : MemI} {J : MemJ} {Q : Pst}
variable {p : Program} {l : Launch} {e : Env} {R : Room} {s : State} {m : MethodId} {args : Array Value} {below : List Frame} {meth : Method} {c : Code} {H : Heap} {locs : List Loc} {cells slots : Nat} {Qw : State → Prop}
variable {G : va_G} {cA : Nat → ClassId} {A : Nat → Nat} {fm : Value} {ls : Array Slot} {rest : List Value}
theorem fs_get {ci a k : Nat} (hk : k < cNf ci) : ((List.range (cNf ci)).map (fun k => fvl Ω A I J ci a k))[k]? = some (fvl Ω A I J ci a k) := by
  simp [hk]
theorem x_get {q0 ci idx k y : Nat} (X : Act Ω K G cA A fm p s m args meth c) (hP : va_P G vwCl (wld cA Ω A I J) H) (hd : decode K.2.1 pc = .ok (.getfield idx, 3)) (hf : LF K.1.cls idx ci k) (ha : Ω.1[q0]? = some (0, ci, y))
    (kk : W p l e R s m args below meth c H locs cells slots Qw (F0 m (pc + 3) ls (fvl Ω A I J ci q0 k :: rest))) : W p l e R s m args below meth c H locs cells slots Qw (F0 m pc ls (.ref (A q0) :: rest)) := by
  obtain ⟨hx, hb, -, -, -, hown, hts, hK, -, -, hN⟩ := X
  obtain ⟨hci, hk, hC, hlk⟩ := hf
  rcases hlk with hlk | hlk
  · exact va_get hx hb hts (cl_in ci hci) hown hK hP q0 (wld_get ha) (cl_ok ci hci) k hk (hts _ hlk) (fun z hz => by rw [← hC]; exact hz) (fs_get hk) hd kk
  · exact va_getN hx hb hts (cl_in ci hci) hown hK hP q0 (wld_get ha) (cl_ok ci hci) k hk (va_Nw.use rfl (hN.1 _ hlk)) (fun z hz => by rw [← hC]; exact hz) (fs_get hk) hd kk
theorem x_put {q0 ci idx k y : Nat} {v : Value} {I' : MemI} {J' : MemJ} (X : Act Ω K G cA A fm p s m args meth c) (hP : va_P G vwCl (wld cA Ω A I J) H) (hS : va_S (AS Ω A s.heap.size) s.heap H locs) (hd : decode K.2.1 pc = .ok (.putfield idx, 3)) (hf : LF K.1.cls idx ci k) (ha : Ω.1[q0]? = some (0, ci, y))
    (hfin : ((cTb ci) k).2.2.2 = false) (hn : narrow (cTy ci k) v = v) (hfit : fits (cTy ci k) v = true) (hne : ∀ i q', i ≠ q0 → cel cA Ω A I' J' i q' = cel cA Ω A I J i q') (he : cel cA Ω A I' J' q0 (0, ci, y) = .inr (ci, ((List.range (cNf ci)).map (fun k => fvl Ω A I J ci q0 k)).set k v))
    (kk : ∀ (H1 : Heap) (locs1 : List Loc), va_P G vwCl (wld cA Ω A I' J') H1 → va_S (AS Ω A s.heap.size) s.heap H1 locs1 → W p l e R s m args below meth c H1 locs1 cells slots Qw (F0 m (pc + 3) ls rest)) : W p l e R s m args below meth c H locs cells slots Qw (F0 m pc ls (v :: .ref (A q0) :: rest)) := by
  obtain ⟨hx, hb, -, -, -, hown, hts, hK, hA, -, hN⟩ := X
  obtain ⟨hci, hk, hC, hlk⟩ := hf
  have hl : k < ((List.range (cNf ci)).map (fun k => fvl Ω A I J ci q0 k)).length := by simpa using hk
  rcases hlk with hlk | hlk
  · refine va_put hx hb hts (cl_in ci hci) (cTy ci) (cl_ty ci hci) (cl_nm ci hci) hown hK hP hA.D hS q0 (wld_get ha) (cl_ok ci hci) k hk (hts _ hlk) (fun z hz => by rw [← hC]; exact hz) hfin (cl_ty ci hci k hk) hn hfit hl hd (fun H1 locs1 hP1 _ hS1 => ?_)
    rw [wld_set ha hne he] at hP1
    exact kk H1 locs1 hP1 hS1
  · refine va_putN hx hb hts (cl_in ci hci) (cTy ci) (cl_ty ci hci) (cl_nm ci hci) hown hK hP hA.D hS q0 (wld_get ha) (cl_ok ci hci) k hk (va_Nw.use rfl (hN.1 _ hlk)) (fun z hz => by rw [← hC]; exact hz) hfin (cl_ty ci hci k hk) hn hfit hl hd (fun H1 locs1 hP1 _ hS1 => ?_)
    rw [wld_set ha hne he] at hP1
    exact kk H1 locs1 hP1 hS1
theorem cv_ref {i : Nat} (h : Nat.beq i 1010 = false) : cv A fm (.ref i) = .ref (A i) := by
  have h1 : ¬ i = 1010 := fun e => by rw [e] at h; cases h
  simp [cv, h1]
theorem sh_ne {q0 : Nat} {q : Nat × Nat × Nat} (hΩ : Ω.1.length ≤ 100) (ha : Ω.1[q0]? = some q) : Nat.beq q0 1010 = false := by
  have h := (List.getElem?_eq_some_iff.mp ha).1
  cases hb : Nat.beq q0 1010 with
  | false => rfl
  | true => have := Nat.eq_of_beq_eq_true hb; omega
theorem wp_getI {q0 ci idx k y : Nat} (hd : decode K.2.1 pc = .ok (.getfield idx, 3)) (hf : LF K.1.cls idx ci k) (ha : Ω.1[q0]? = some (0, ci, y)) (hb : Nat.beq q0 1010 = false) (ht : cTy ci k = .int) (kk : WP Ω d K (pc + 3) L (.int (I q0 k) :: S) I J Q) : WP Ω d K pc L (.ref q0 :: S) I J Q := by
  intro l G cA A fm p e s m args below meth c H locs ls X hP hS hl
  rw [List.map_cons, cv_ref hb]
  refine x_get X hP hd hf ha ?_
  have h2 := kk l G cA A fm p e s m args below meth c H locs ls X hP hS hl
  rwa [show fvl Ω A I J ci q0 k = .int (I q0 k) by simp [fvl, ht]]
theorem wp_getJ {q0 ci idx k y : Nat} (hd : decode K.2.1 pc = .ok (.getfield idx, 3)) (hf : LF K.1.cls idx ci k) (ha : Ω.1[q0]? = some (0, ci, y)) (hb : Nat.beq q0 1010 = false) (ht : cTy ci k = .long) (kk : WP Ω d K (pc + 3) L (.long (J q0 k) :: S) I J Q) : WP Ω d K pc L (.ref q0 :: S) I J Q := by
  intro l G cA A fm p e s m args below meth c H locs ls X hP hS hl
  rw [List.map_cons, cv_ref hb]
  refine x_get X hP hd hf ha ?_
  have h2 := kk l G cA A fm p e s m args below meth c H locs ls X hP hS hl
  rwa [show fvl Ω A I J ci q0 k = .long (J q0 k) by simp [fvl, ht]]
def isRefT (t : FieldType) : Bool := match t with
  | .object _ => true
  | .array _ => true
  | _ => false
theorem fvl_ref {ci i k : Nat} (ht : isRefT (cTy ci k) = true) : fvl Ω A I J ci i k = va_rf ((Ω.2 i k).map A) := by
  unfold fvl
  cases h : cTy ci k <;> simp_all [isRefT]
theorem wp_getR {q0 ci idx k y r : Nat} (hd : decode K.2.1 pc = .ok (.getfield idx, 3)) (hf : LF K.1.cls idx ci k) (ha : Ω.1[q0]? = some (0, ci, y)) (hb : Nat.beq q0 1010 = false) (ht : isRefT (cTy ci k) = true) (hr : Ω.2 q0 k = some r) (hr2 : Nat.beq r 1010 = false) (kk : WP Ω d K (pc + 3) L (.ref r :: S) I J Q) : WP Ω d K pc L (.ref q0 :: S) I J Q := by
  intro l G cA A fm p e s m args below meth c H locs ls X hP hS hl
  rw [List.map_cons, cv_ref hb]
  refine x_get X hP hd hf ha ?_
  have h2 := kk l G cA A fm p e s m args below meth c H locs ls X hP hS hl
  rw [List.map_cons, cv_ref hr2] at h2
  rw [fvl_ref ht, hr]
  exact h2
theorem wp_getN {q0 ci idx k y : Nat} (hd : decode K.2.1 pc = .ok (.getfield idx, 3)) (hf : LF K.1.cls idx ci k) (ha : Ω.1[q0]? = some (0, ci, y)) (hb : Nat.beq q0 1010 = false) (ht : isRefT (cTy ci k) = true) (hr : Ω.2 q0 k = none) (kk : WP Ω d K (pc + 3) L (.null :: S) I J Q) : WP Ω d K pc L (.ref q0 :: S) I J Q := by
  intro l G cA A fm p e s m args below meth c H locs ls X hP hS hl
  rw [List.map_cons, cv_ref hb]
  refine x_get X hP hd hf ha ?_
  have h2 := kk l G cA A fm p e s m args below meth c H locs ls X hP hS hl
  rw [fvl_ref ht, hr]
  exact h2
theorem map_setI {ci a k : Nat} {x : Int32} (ht : cTy ci k = .int) : (List.range (cNf ci)).map (fun j => fvl Ω A (uI I a k x) J ci a j) = ((List.range (cNf ci)).map (fun j => fvl Ω A I J ci a j)).set k (.int x) := by
  apply List.ext_getElem?
  intro j
  by_cases hj : j = k
  · subst hj
    by_cases hl : j < cNf ci
    · rw [List.getElem?_set_self (by simpa using hl)]
      simp [hl, fvl, ht, uI]
    · simp [hl]
  · rw [List.getElem?_set_ne (Ne.symm hj)]
    by_cases hl : j < cNf ci
    · simp only [List.getElem?_map, List.getElem?_range hl, Option.map_some]
      congr 1
      unfold fvl
      split <;> simp [uI, hj]
    · simp [hl]
theorem map_setJ {ci a k : Nat} {x : Int64} (ht : cTy ci k = .long) : (List.range (cNf ci)).map (fun j => fvl Ω A I (uJ J a k x) ci a j) = ((List.range (cNf ci)).map (fun j => fvl Ω A I J ci a j)).set k (.long x) := by
  apply List.ext_getElem?
  intro j
  by_cases hj : j = k
  · subst hj
    by_cases hl : j < cNf ci
    · rw [List.getElem?_set_self (by simpa using hl)]
      simp [hl, fvl, ht, uJ]
    · simp [hl]
  · rw [List.getElem?_set_ne (Ne.symm hj)]
    by_cases hl : j < cNf ci
    · simp only [List.getElem?_map, List.getElem?_range hl, Option.map_some]
      congr 1
      unfold fvl
      split <;> simp [uJ, hj]
    · simp [hl]
theorem wp_putI {q0 ci idx k y : Nat} {x : Int32} (hd : decode K.2.1 pc = .ok (.putfield idx, 3)) (hf : LF K.1.cls idx ci k) (ha : Ω.1[q0]? = some (0, ci, y)) (hb : Nat.beq q0 1010 = false) (ht : cTy ci k = .int) (hfin : ((cTb ci) k).2.2.2 = false) (kk : WP Ω d K (pc + 3) L S (uI I q0 k x) J Q) : WP Ω d K pc L (.int x :: .ref q0 :: S) I J Q := by
  intro l G cA A fm p e s m args below meth c H locs ls X hP hS hl
  rw [List.map_cons, List.map_cons, cv_ref hb]
  exact x_put X hP hS hd hf ha hfin (by rw [ht]; rfl) (by rw [ht]; rfl) (fun i q' h => cel_ne h) (congrArg (fun z => Sum.inr (ci, z)) (map_setI ht)) (fun H1 locs1 hP1 hS1 => kk l G cA A fm p e s m args below meth c H1 locs1 ls X hP1 hS1 hl)
theorem wp_putJ {q0 ci idx k y : Nat} {x : Int64} (hd : decode K.2.1 pc = .ok (.putfield idx, 3)) (hf : LF K.1.cls idx ci k) (ha : Ω.1[q0]? = some (0, ci, y)) (hb : Nat.beq q0 1010 = false) (ht : cTy ci k = .long) (hfin : ((cTb ci) k).2.2.2 = false) (kk : WP Ω d K (pc + 3) L S I (uJ J q0 k x) Q) : WP Ω d K pc L (.long x :: .ref q0 :: S) I J Q := by
  intro l G cA A fm p e s m args below meth c H locs ls X hP hS hl
  rw [List.map_cons, List.map_cons, cv_ref hb]
  exact x_put X hP hS hd hf ha hfin (by rw [ht]; rfl) (by rw [ht]; rfl) (fun i q' h => cel_neJ h) (congrArg (fun z => Sum.inr (ci, z)) (map_setJ ht)) (fun H1 locs1 hP1 hS1 => kk l G cA A fm p e s m args below meth c H1 locs1 ls X hP1 hS1 hl)
theorem upd_uI {a j : Nat} {x : Int32} : upd (I a) j x = uI I a j x a := by
  funext i; simp [upd, uI]
theorem upd_uJ {a j : Nat} {x : Int64} : vp_updL (J a) j x = uJ J a j x a := by
  funext i; simp [vp_updL, uJ]
theorem wp_iald {a j n : Nat} (hd : decode K.2.1 pc = .ok (.iaload, 1)) (ha : Ω.1[a]? = some (1, 0, n)) (hb : Nat.beq a 1010 = false) (hj : j < n) (hn : n < 65536) (kk : WP Ω d K (pc + 1) L (.int (I a j) :: S) I J Q) : WP Ω d K pc L (.int (nI j) :: .ref a :: S) I J Q := by
  intro l G cA A fm p e s m args below meth c H locs ls X hP hS hl
  rw [List.map_cons, List.map_cons, cv_ref hb]
  have h2 := kk l G cA A fm p e s m args below meth c H locs ls X hP hS hl
  refine va_iald X.1 X.2.1 X.2.2.2.2.2.2.2.1 hP a 0 (wld_get ha) rfl (vp_in_nI hj (by omega)) hd ?_
  rw [nI_clamp (by omega)]
  exact h2
theorem wp_zald {a j n : Nat} (hd : decode K.2.1 pc = .ok (.baload, 1)) (ha : Ω.1[a]? = some (1, 3, n)) (hb : Nat.beq a 1010 = false) (hj : j < n) (hn : n < 65536) (kk : WP Ω d K (pc + 1) L (.int (I a j) :: S) I J Q) : WP Ω d K pc L (.int (nI j) :: .ref a :: S) I J Q := by
  intro l G cA A fm p e s m args below meth c H locs ls X hP hS hl
  rw [List.map_cons, List.map_cons, cv_ref hb]
  have h2 := kk l G cA A fm p e s m args below meth c H locs ls X hP hS hl
  refine va_zald X.1 X.2.1 X.2.2.2.2.2.2.2.1 hP a 3 (wld_get ha) rfl (vp_in_nI hj (by omega)) hd ?_
  rw [nI_clamp (by omega)]
  exact h2
theorem wp_bald {a j n : Nat} (hd : decode K.2.1 pc = .ok (.baload, 1)) (ha : Ω.1[a]? = some (1, 2, n)) (hb : Nat.beq a 1010 = false) (hj : j < n) (hn : n < 65536) (kk : WP Ω d K (pc + 1) L (.int (I a j) :: S) I J Q) : WP Ω d K pc L (.int (nI j) :: .ref a :: S) I J Q := by
  intro l G cA A fm p e s m args below meth c H locs ls X hP hS hl
  rw [List.map_cons, List.map_cons, cv_ref hb]
  have h2 := kk l G cA A fm p e s m args below meth c H locs ls X hP hS hl
  refine va_bald X.1 X.2.1 X.2.2.2.2.2.2.2.1 hP a 2 (wld_get ha) rfl (vp_in_nI hj (by omega)) hd ?_
  rw [nI_clamp (by omega)]
  exact h2
theorem wp_lald {a j n : Nat} (hd : decode K.2.1 pc = .ok (.laload, 1)) (ha : Ω.1[a]? = some (1, 1, n)) (hb : Nat.beq a 1010 = false) (hj : j < n) (hn : n < 65536) (kk : WP Ω d K (pc + 1) L (.long (J a j) :: S) I J Q) : WP Ω d K pc L (.int (nI j) :: .ref a :: S) I J Q := by
  intro l G cA A fm p e s m args below meth c H locs ls X hP hS hl
  rw [List.map_cons, List.map_cons, cv_ref hb]
  have h2 := kk l G cA A fm p e s m args below meth c H locs ls X hP hS hl
  refine va_lald X.1 X.2.1 X.2.2.2.2.2.2.2.1 hP a 1 (wld_get ha) rfl (vp_in_nI hj (by omega)) hd ?_
  rw [nI_clamp (by omega)]
  exact h2
theorem wp_iast {a j n : Nat} {x : Int32} (hd : decode K.2.1 pc = .ok (.iastore, 1)) (ha : Ω.1[a]? = some (1, 0, n)) (hb : Nat.beq a 1010 = false) (hj : j < n) (hn : n < 65536) (kk : WP Ω d K (pc + 1) L S (uI I a j x) J Q) : WP Ω d K pc L (.int x :: .int (nI j) :: .ref a :: S) I J Q := by
  intro l G cA A fm p e s m args below meth c H locs ls X hP hS hl
  rw [List.map_cons, List.map_cons, List.map_cons, cv_ref hb]
  refine va_iast X.1 X.2.1 X.2.2.2.2.2.2.2.1 hP X.2.2.2.2.2.2.2.2.1.D hS a 0 (wld_get ha) rfl (vp_in_nI hj (by omega)) hd (fun H1 locs1 hP1 _ hS1 => ?_)
  have hw : (wld cA Ω A I J).set a (A a, .inl (cA 0, n, .inl (uI I a j x a))) = wld cA Ω A (uI I a j x) J := wld_set ha (fun i q' h => cel_ne h) rfl
  rw [nI_clamp (by omega), upd_uI, hw] at hP1
  exact kk l G cA A fm p e s m args below meth c H1 locs1 ls X hP1 hS1 hl
theorem wp_bast {a j n : Nat} {x : Int32} (hd : decode K.2.1 pc = .ok (.bastore, 1)) (ha : Ω.1[a]? = some (1, 2, n)) (hb : Nat.beq a 1010 = false) (hj : j < n) (hn : n < 65536) (kk : WP Ω d K (pc + 1) L S (uI I a j (vp_nar .byte x)) J Q) : WP Ω d K pc L (.int x :: .int (nI j) :: .ref a :: S) I J Q := by
  intro l G cA A fm p e s m args below meth c H locs ls X hP hS hl
  rw [List.map_cons, List.map_cons, List.map_cons, cv_ref hb]
  refine va_bast X.1 X.2.1 X.2.2.2.2.2.2.2.1 hP X.2.2.2.2.2.2.2.2.1.D hS a 2 (wld_get ha) rfl (vp_in_nI hj (by omega)) hd (fun H1 locs1 hP1 _ hS1 => ?_)
  have hw : (wld cA Ω A I J).set a (A a, .inl (cA 2, n, .inl (uI I a j (vp_nar .byte x) a))) = wld cA Ω A (uI I a j (vp_nar .byte x)) J := wld_set ha (fun i q' h => cel_ne h) rfl
  rw [nI_clamp (by omega), upd_uI, hw] at hP1
  exact kk l G cA A fm p e s m args below meth c H1 locs1 ls X hP1 hS1 hl
theorem wp_zast {a j n : Nat} {x : Int32} (hd : decode K.2.1 pc = .ok (.bastore, 1)) (ha : Ω.1[a]? = some (1, 3, n)) (hb : Nat.beq a 1010 = false) (hj : j < n) (hn : n < 65536) (kk : WP Ω d K (pc + 1) L S (uI I a j (vp_nar .boolean x)) J Q) : WP Ω d K pc L (.int x :: .int (nI j) :: .ref a :: S) I J Q := by
  intro l G cA A fm p e s m args below meth c H locs ls X hP hS hl
  rw [List.map_cons, List.map_cons, List.map_cons, cv_ref hb]
  refine va_zast X.1 X.2.1 X.2.2.2.2.2.2.2.1 hP X.2.2.2.2.2.2.2.2.1.D hS a 3 (wld_get ha) rfl (vp_in_nI hj (by omega)) hd (fun H1 locs1 hP1 _ hS1 => ?_)
  have hw : (wld cA Ω A I J).set a (A a, .inl (cA 3, n, .inl (uI I a j (vp_nar .boolean x) a))) = wld cA Ω A (uI I a j (vp_nar .boolean x)) J := wld_set ha (fun i q' h => cel_ne h) rfl
  rw [nI_clamp (by omega), upd_uI, hw] at hP1
  exact kk l G cA A fm p e s m args below meth c H1 locs1 ls X hP1 hS1 hl
theorem wp_last {a j n : Nat} {x : Int64} (hd : decode K.2.1 pc = .ok (.lastore, 1)) (ha : Ω.1[a]? = some (1, 1, n)) (hb : Nat.beq a 1010 = false) (hj : j < n) (hn : n < 65536) (kk : WP Ω d K (pc + 1) L S I (uJ J a j x) Q) : WP Ω d K pc L (.long x :: .int (nI j) :: .ref a :: S) I J Q := by
  intro l G cA A fm p e s m args below meth c H locs ls X hP hS hl
  rw [List.map_cons, List.map_cons, List.map_cons, cv_ref hb]
  refine va_last X.1 X.2.1 X.2.2.2.2.2.2.2.1 hP X.2.2.2.2.2.2.2.2.1.D hS a 1 (wld_get ha) rfl (vp_in_nI hj (by omega)) hd (fun H1 locs1 hP1 _ hS1 => ?_)
  have hw : (wld cA Ω A I J).set a (A a, .inl (cA 1, n, .inr (.inl (uJ J a j x a)))) = wld cA Ω A I (uJ J a j x) := wld_set ha (fun i q' h => cel_neJ h) rfl
  rw [nI_clamp (by omega), upd_uJ, hw] at hP1
  exact kk l G cA A fm p e s m args below meth c H1 locs1 ls X hP1 hS1 hl
theorem wp_alen {a t n : Nat} (hd : decode K.2.1 pc = .ok (.arraylength, 1)) (ha : Ω.1[a]? = some (1, t, n)) (hb : Nat.beq a 1010 = false) (ht : t < 4) (kk : WP Ω d K (pc + 1) L (.int (nI n) :: S) I J Q) : WP Ω d K pc L (.ref a :: S) I J Q := by
  intro l G cA A fm p e s m args below meth c H locs ls X hP hS hl
  rw [List.map_cons, cv_ref hb]
  have h2 := kk l G cA A fm p e s m args below meth c H locs ls X hP hS hl
  match t, ht with
  | 0, _ => exact va_alen X.1 X.2.1 X.2.2.2.2.2.2.2.1 hP a 0 (wld_get ha) (ty := .int) rfl rfl hd h2
  | 1, _ => exact va_alen X.1 X.2.1 X.2.2.2.2.2.2.2.1 hP a 1 (wld_get ha) (ty := .long) rfl rfl hd h2
  | 2, _ => exact va_alen X.1 X.2.1 X.2.2.2.2.2.2.2.1 hP a 2 (wld_get ha) (ty := .byte) rfl rfl hd h2
  | 3, _ => exact va_alen X.1 X.2.1 X.2.2.2.2.2.2.2.1 hP a 3 (wld_get ha) (ty := .boolean) rfl rfl hd h2
end HPR
