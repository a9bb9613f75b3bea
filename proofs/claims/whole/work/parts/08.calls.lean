/-! ROWS: read-only cells, calls, answers -/
section CLR
variable {Ω : Shp} {d : Nat} {K : Mth} {pc : Nat} {L : Lcs} {S : List Value} {I : MemI} {J : MemJ} {Q : Pst}
variable {p : Program} {l : Launch} {e : Env} {R : Room} {s : State} {m : MethodId} {args : Array Value} {below : List Frame} {meth : Method} {c : Code} {H : Heap} {locs : List Loc} {cells slots : Nat} {Qw : State → Prop}
variable {G : va_G} {cA : Nat → ClassId} {A : Nat → Nat} {fm : Value} {ls : Array Slot} {rest : List Value}
theorem act_roe (X : Act Ω K G cA A fm p s m args meth c) : Roe A fm (AS Ω A s.heap.size) s s.heap := X.2.2.2.2.2.2.2.2.2.1
theorem wp_gets {idx i : Nat} {nm : String} (hd : decode K.2.1 pc = .ok (.getstatic idx, 3)) (hq : (nm, i) ∈ roS) (hk : Cond.fieldLink K.1.cls idx RX0 nm "[I" ∈ TB) (hb : Nat.beq i 1010 = false) (kk : WP Ω d K (pc + 3) L (.ref i :: S) I J Q) : WP Ω d K pc L S I J Q := by
  intro l G cA A fm p e s m args below meth c H locs ls X hP hS hl
  have h2 := kk l G cA A fm p e s m args below meth c H locs ls X hP hS hl
  rw [List.map_cons, cv_ref hb] at h2
  exact va_gets X.1 X.2.1 ((act_roe X).1.1 _ hq) hS X.2.2.2.2.2.1 (X.2.2.2.2.2.2.1 _ hk) (fun _ h => h) hd h2
theorem wp_getsZ {idx : Nat} (hd : decode K.2.1 pc = .ok (.getstatic idx, 3)) (hk : Cond.fieldLink K.1.cls idx RJ0 "COMPACT_STRINGS" "Z" ∈ TB) (kk : WP Ω d K (pc + 3) L (.int 1 :: S) I J Q) : WP Ω d K pc L S I J Q := by
  intro l G cA A fm p e s m args below meth c H locs ls X hP hS hl
  exact va_gets X.1 X.2.1 ((act_roe X).2.2.2.1) hS X.2.2.2.2.2.1 (X.2.2.2.2.2.2.1 _ hk) (fun _ h => h) hd (kk l G cA A fm p e s m args below meth c H locs ls X hP hS hl)
theorem wp_getsF {idx : Nat} (hd : decode K.2.1 pc = .ok (.getstatic idx, 3)) (hk : Cond.fieldLink K.1.cls idx "jdk/internal/util/Preconditions" "SIOOBE_FORMATTER" "Ljava/util/function/BiFunction;" ∈ TB) (kk : WP Ω d K (pc + 3) L (.ref 1010 :: S) I J Q) : WP Ω d K pc L S I J Q := by
  intro l G cA A fm p e s m args below meth c H locs ls X hP hS hl
  exact va_gets X.1 X.2.1 ((act_roe X).2.2.2.2.1) hS X.2.2.2.2.2.1 (X.2.2.2.2.2.2.1 _ hk) (fun _ h => h) hd (kk l G cA A fm p e s m args below meth c H locs ls X hP hS hl)
theorem wp_ialdT {i j : Nat} (hd : decode K.2.1 pc = .ok (.iaload, 1)) (h1 : 1000 ≤ i) (h2 : i < 1004) (hj : j < 8) (kk : WP Ω d K (pc + 1) L (.int ((roT i).getD j 0) :: S) I J Q) : WP Ω d K pc L (.int (nI j) :: .ref i :: S) I J Q := by
  intro l G cA A fm p e s m args below meth c H locs ls X hP hS hl
  have hb : Nat.beq i 1010 = false := by
    cases hb : Nat.beq i 1010 with
    | false => rfl
    | true => have := Nat.eq_of_beq_eq_true hb; omega
  rw [List.map_cons, List.map_cons, cv_ref hb]
  obtain ⟨cell, e1, e2, e3, e4, -, e6, -⟩ := ((act_roe X).1.2 i h1 h2).kept hS.2.1
  refine W.iald X.1 X.2.1 e1 e2 e3 (fun q => ?_) (v := .int ((roT i).getD j 0)) ?_ rfl rfl hd (kk l G cA A fm p e s m args below meth c H locs ls X hP hS hl)
  · rcases q with q | q
    · exact nI_pos (by omega) q
    · rw [nI_clamp (by omega)] at q; omega
  · rw [nI_clamp (by omega)]; exact e6 j hj
theorem x_ldcwS (hexec : p.tables.exec = Jvm.exec) {cc : ByteArray} (hbb : c.code = cc) {own tx : String} {index q : Nat} (hown : s.vm.findClass own = some m.cls) (hZ : vk_R own index tx q s) (hdg : decode cc pc = .ok (.ldc_w index, 3))
    (k : W p l e R s m args below meth c H locs cells slots Qw (F0 m (pc + 3) ls (.ref q :: rest))) : W p l e R s m args below meth c H locs cells slots Qw (F0 m pc ls rest) := by
  intro T hT X
  obtain ⟨t, a1, b1⟩ := k T hT X
  obtain ⟨kk, cf, i, a', hk, hcf, hcp, -, hr, hev'⟩ := Cond.stringRef_spec hown hZ.1
  cases hZ.2.symm.trans hev'
  obtain ⟨k', hk', he⟩ := X.warmed.alike.2.2 _ _ hk
  have hr' : k'.resolved[index]? = some (some (.string q)) := by
    rcases X.warmed.entry hk hk' index with h | ⟨h, -⟩
    · rw [h]; exact hr
    · rw [hr] at h; cases h
  subst hbb
  refine ⟨t, ?_, b1⟩
  jvm_step X.here [hexec, hdg, ldc_w.wp_string (e := e) (s := T) (f := F0 m pc ls rest) X.here.top hk' (by rw [he]; exact hcf) hcp hr']
  exact a1
theorem wp_ldcS5 (hd : decode K.2.1 pc = .ok (.ldc_w 268, 3)) (ho : K.1.cls = RX5) (kk : WP Ω d K (pc + 3) L (.ref 1004 :: S) I J Q) : WP Ω d K pc L S I J Q := by
  intro l G cA A fm p e s m args below meth c H locs ls X hP hS hl
  have h2 := kk l G cA A fm p e s m args below meth c H locs ls X hP hS hl
  rw [List.map_cons, cv_ref rfl] at h2
  exact x_ldcwS X.1 X.2.1 (ho ▸ X.2.2.2.2.2.1) (act_roe X).2.2.1.1 hd h2
theorem wp_ldcS4 (hd : decode K.2.1 pc = .ok (.ldc 34, 2)) (ho : K.1.cls = RX4) (kk : WP Ω d K (pc + 2) L (.ref 1005 :: S) I J Q) : WP Ω d K pc L S I J Q := by
  intro l G cA A fm p e s m args below meth c H locs ls X hP hS hl
  have h2 := kk l G cA A fm p e s m args below meth c H locs ls X hP hS hl
  rw [List.map_cons, cv_ref rfl] at h2
  exact va_ldcS X.1 X.2.1 (ho ▸ X.2.2.2.2.2.1) (act_roe X).2.2.1.2 hd h2
theorem ro_beq {i : Nat} (h2 : i < 1010) : Nat.beq i 1010 = false := by
  cases hb : Nat.beq i 1010 with
  | false => rfl
  | true => have := Nat.eq_of_beq_eq_true hb; omega
theorem wp_getfC {i idx : Nat} (hd : decode K.2.1 pc = .ok (.getfield idx, 3)) (h1 : 1004 ≤ i) (h2 : i < 1006) (hk : Cond.fieldLink K.1.cls idx RJ0 "coder" "B" ∈ TB) (kk : WP Ω d K (pc + 3) L (.int 0 :: S) I J Q) : WP Ω d K pc L (.ref i :: S) I J Q := by
  intro l G cA A fm p e s m args below meth c H locs ls X hP hS hl
  rw [List.map_cons, cv_ref (ro_beq (by omega))]
  exact vk_getf X.1 X.2.1 ((act_roe X).2.1 i h1 h2).2.1 hS X.2.2.2.2.2.1 (X.2.2.2.2.2.2.1 _ hk) (fun _ h => h) hd (kk l G cA A fm p e s m args below meth c H locs ls X hP hS hl)
theorem wp_getfV {i idx : Nat} (hd : decode K.2.1 pc = .ok (.getfield idx, 3)) (h1 : 1004 ≤ i) (h2 : i < 1006) (hk : Cond.fieldLink K.1.cls idx RJ0 "value" "[B" ∈ TB) (kk : WP Ω d K (pc + 3) L (.ref (i + 2) :: S) I J Q) : WP Ω d K pc L (.ref i :: S) I J Q := by
  intro l G cA A fm p e s m args below meth c H locs ls X hP hS hl
  have h3 := kk l G cA A fm p e s m args below meth c H locs ls X hP hS hl
  rw [List.map_cons, cv_ref (ro_beq (by omega))] at h3 ⊢
  exact vk_getf X.1 X.2.1 ((act_roe X).2.1 i h1 h2).2.2.1 hS X.2.2.2.2.2.1 (X.2.2.2.2.2.2.1 _ hk) (fun _ h => h) hd h3
theorem wp_alenT {i : Nat} (hd : decode K.2.1 pc = .ok (.arraylength, 1)) (h1 : 1006 ≤ i) (h2 : i < 1008) (kk : WP Ω d K (pc + 1) L (.int (nI 12) :: S) I J Q) : WP Ω d K pc L (.ref i :: S) I J Q := by
  intro l G cA A fm p e s m args below meth c H locs ls X hP hS hl
  obtain ⟨i, rfl⟩ : ∃ j, i = j + 2 := ⟨i - 2, by omega⟩
  rw [List.map_cons, cv_ref (ro_beq (by omega))]
  obtain ⟨cell, e1, e2, e3, e4, e5, e6, -⟩ := ((act_roe X).2.1 i (by omega) (by omega)).2.2.2.kept hS.2.1
  exact W.alen X.1 X.2.1 e1 e2 e5 rfl rfl hd (kk l G cA A fm p e s m args below meth c H locs ls X hP hS hl)
theorem wp_baldT {i j : Nat} (hd : decode K.2.1 pc = .ok (.baload, 1)) (h1 : 1006 ≤ i) (h2 : i < 1008) (hj : j < 12) (kk : WP Ω d K (pc + 1) L (.int ((roT i).getD j 0) :: S) I J Q) : WP Ω d K pc L (.int (nI j) :: .ref i :: S) I J Q := by
  intro l G cA A fm p e s m args below meth c H locs ls X hP hS hl
  obtain ⟨i, rfl⟩ : ∃ j, i = j + 2 := ⟨i - 2, by omega⟩
  rw [List.map_cons, List.map_cons, cv_ref (ro_beq (by omega))]
  obtain ⟨cell, e1, e2, e3, e4, -, e6, -⟩ := ((act_roe X).2.1 i (by omega) (by omega)).2.2.2.kept hS.2.1
  refine W.bald X.1 X.2.1 e1 e2 e3 (fun q => ?_) (v := .int ((roT (i + 2)).getD j 0)) ?_ rfl rfl hd (kk l G cA A fm p e s m args below meth c H locs ls X hP hS hl)
  · rcases q with q | q
    · exact nI_pos (by omega) q
    · rw [nI_clamp (by omega)] at q; omega
  · rw [nI_clamp (by omega)]; exact e6 j hj
/-! answers -/
theorem wp_ireturn {x : Int32} (hd : decode K.2.1 pc = .ok (.ireturn, 1)) (hr : K.2.2.2 = some .int) (kk : Q (some (.int x)) I J) : WP Ω d K pc L [.int x] I J Q := by
  intro l G cA A fm p e s m args below meth c H locs ls X hP hS hl
  exact W.iret X.1 X.2.1 (X.2.2.1.trans hr) (fun t ht hW => ⟨⟨some (.int x), I, J, rfl, kk, by rw [ht]; exact hP⟩, hS.F ht⟩) hS.2.2 hd X.2.2.2.1
theorem wp_zreturn {x : Int32} {ty : FieldType} (hd : decode K.2.1 pc = .ok (.ireturn, 1)) (hr : K.2.2.2 = some ty) (hn : narrow ty (.int x) = .int x) (kk : Q (some (.int x)) I J) : WP Ω d K pc L [.int x] I J Q := by
  intro l G cA A fm p e s m args below meth c H locs ls X hP hS hl
  exact W.zret X.1 X.2.1 (X.2.2.1.trans hr) hn (fun t ht hW => ⟨⟨some (.int x), I, J, rfl, kk, by rw [ht]; exact hP⟩, hS.F ht⟩) hS.2.2 hd X.2.2.2.1
theorem wp_lreturn {x : Int64} (hd : decode K.2.1 pc = .ok (.lreturn, 1)) (hr : K.2.2.2 = some .long) (kk : Q (some (.long x)) I J) : WP Ω d K pc L [.long x] I J Q := by
  intro l G cA A fm p e s m args below meth c H locs ls X hP hS hl
  exact W.lret X.1 X.2.1 (X.2.2.1.trans hr) (fun t ht hW => ⟨⟨some (.long x), I, J, rfl, kk, by rw [ht]; exact hP⟩, hS.F ht⟩) hS.2.2 hd X.2.2.2.1
theorem wp_return (hd : decode K.2.1 pc = .ok (.return_, 1)) (hr : K.2.2.2 = none) (kk : Q none I J) : WP Ω d K pc L [] I J Q := by
  intro l G cA A fm p e s m args below meth c H locs ls X hP hS hl
  exact W.vret X.1 X.2.1 (X.2.2.1.trans hr) (fun t ht hW => ⟨⟨none, I, J, rfl, kk, by rw [ht]; exact hP⟩, hS.F ht⟩) hS.2.2 hd X.2.2.2.1
/-! calls -/
def MVn (K' : Mth) (n : Nat) : Prop := (K'.1.cls ≠ "java/lang/invoke/MethodHandle" ∧ K'.1.cls ≠ "java/lang/invoke/VarHandle" ∧ (parseMethodDescriptor K'.1.desc).map (fun d => d.parameters.length) = some n) ∧ Cond.code K'.1 K'.2.1 K'.2.2.1 K'.2.2.2 ∈ TB ∧ Cond.initialized K'.1.cls ∈ TB ∧ K'.2.2.1 ≤ 30
def MIn (K' : Mth) (n : Nat) : Prop := MVn K' n ∧ Cond.instanceMethod K'.1 ∈ TB ∧ Cond.selects K'.1.cls K'.1 K'.1 ∈ TB
def MSn (K' : Mth) (n : Nat) : Prop := MVn K' n ∧ Cond.static K'.1 ∈ TB
def LM (own : String) (idx : Nat) (K' : Mth) : Prop := Cond.methodLink own idx K'.1 ∈ TB ∨ (own, idx, K'.1, "StayWhereFell") ∈ nestM
theorem tb_gi {ws : List Cond} (h : ∀ w ∈ ws, w ∈ TB) : GoodIn TB ws := fun w hw => ⟨h w hw, good_of_word (tb_good (h w hw))⟩
theorem tb_ws {K' : Mth} {n : Nat} (h : MVn K' n) : ∀ w ∈ wsK K', w ∈ TB := fun w hw => (List.mem_cons.mp hw).elim (fun q => by rw [q]; exact h.2.1) (fun q => q)
theorem rmD_le {K' : Mth} {n : Nat} (h : MVn K' n) : (rmD d).frames + 1 ≤ (rmD (d + 1)).frames ∧ 8 + (K'.2.2.1 + 11) + (rmD d).locals ≤ (rmD (d + 1)).locals := by
  have := h.2.2.2
  refine ⟨Nat.le_refl _, ?_⟩
  show 8 + (K'.2.2.1 + 11) + 50 * d ≤ 50 * (d + 1)
  omega
theorem pc_blind {sz : Nat} {as : List Value} : FrameBlind (PCn Ω G cA A fm sz as I J) := fun a U g mk q => by
  obtain ⟨q0, q1, qP, qK, qA, qR, qN⟩ := q
  exact ⟨q0, q1, qP, va_K.moved (u := U) (U := U.calling g mk a) (Vm.Alike.refl U.vm) qK, qA, qR.same rfl, qN.same rfl⟩
theorem AS_sub {n sz : Nat} (h : sz ≤ n) : ∀ q, AS Ω A n q → AS Ω A sz q := fun q hq => hq.elim Or.inl (fun z => Or.inr (Nat.le_trans h z))
theorem pc_at {as : List Value} (X : Act Ω K G cA A fm p s m args meth c) (hP : va_P G vwCl (wld cA Ω A I J) H) (hS : va_S (AS Ω A s.heap.size) s.heap H locs) : ∀ U : State, U.heap = H → s.WarmedH U.vm → PCn Ω G cA A fm H.size as I J (as.map (cv A fm)).toArray U := by
  intro U hU hW
  obtain ⟨-, -, -, -, -, -, -, hK, hA, hR, hN⟩ := X
  exact ⟨rfl, by rw [hU], by rw [hU]; exact hP, va_K.moved hW.alike hK, hA, by rw [hU]; exact hR.go hW hS.2.1 (AS_sub hS.1), hN.warm hW⟩
theorem x_callR {a : Array Value} {st0 : List Value} {Q' : Pst} (hS : va_S (AS Ω A s.heap.size) s.heap H locs) (R : va_Run p l e (rmD (d + 1)) s m args below meth c H locs 0 0 0 0 (F0 m pc ls st0) rest (QCn Ω G cA A fm Q' a) (AS Ω A H.size))
    (kk : ∀ (r : Option Value) (I' : MemI) (J' : MemJ) (H1 : Heap) (locs1 : List Loc), Q' r I' J' → va_P G vwCl (wld cA Ω A I' J') H1 → va_S (AS Ω A s.heap.size) s.heap H1 locs1 → W p l e (rmD (d + 1)) s m args below meth c H1 locs1 0 0 Qw (F0 m (pc + 3) ls ((r.map (cv A fm)).toList ++ rest))) : W p l e (rmD (d + 1)) s m args below meth c H locs 0 0 Qw (F0 m pc ls st0) := by
  intro T hT XT
  obtain ⟨v, st₀, t, T', Lx, h0, X', hL, e1, e2, ⟨⟨r, I', J', hv, hq, hp⟩, hz, hk⟩, st⟩ := R T hT XT
  cases hv
  rw [h0] at hz hk
  obtain ⟨t2, a1, b1⟩ := kk r I' J' t.heap (locs ++ Lx) hq hp ⟨Nat.le_trans hS.1 hz, fun q h1 h2 => by
      rw [hk q (Nat.lt_of_lt_of_le h1 hS.1) (fun z => h2 (AS_sub hS.1 q z))]
      exact hS.2.1 q h1 h2, fun q hq => by
      rcases List.mem_append.mp hq with h | h
      · exact hS.2.2 q h
      · exact AS_sub hS.1 _ (hL q h)⟩ T' e1 X'
  exact ⟨t2, st t2 a1, b1⟩
theorem map_ret (r : Option Value) : (r.toList ++ S).map (cv A fm) = (r.map (cv A fm)).toList ++ S.map (cv A fm) := by
  cases r <;> simp
theorem sum_cat (h : fm.category = 1) {n : Nat} (hw : (S.map fun v => v.category).sum ≤ n) : ((S.map (cv A fm)).map fun v => v.category).sum ≤ n := by
  rw [map_cat h]; exact hw
theorem wp_callV {q0 ci y idx n : Nat} {as St : List Value} {K' : Mth} {Q' : Pst} (hd : decode K.2.1 pc = .ok (.invokevirtual idx, 3)) (lk : LM K.1.cls idx K') (mi : MIn K' n) (ha : Ω.1[q0]? = some (0, ci, y)) (hb : Nat.beq q0 1010 = false) (hci : ci < 7) (hc : cNm ci = K'.1.cls) (hn : as.length = n) (hst : St = as.reverse ++ .ref q0 :: S) (hw : (S.map fun v => v.category).sum ≤ 8) (hC : CALL Ω d K' (.ref q0 :: as) I J Q')
    (kk : ∀ r I' J', Q' r I' J' → WP Ω (d + 1) K (pc + 3) L (r.toList ++ S) I' J' Q) : WP Ω (d + 1) K pc L St I J Q := by
  intro l G cA A fm p e s m args below meth c H locs ls X hP hS hl
  subst hst
  have e1 : (as.reverse ++ .ref q0 :: S).map (cv A fm) = (as.map (cv A fm)).reverse ++ .ref (A q0) :: S.map (cv A fm) := by
    rw [List.map_append, List.map_reverse, List.map_cons, cv_ref hb]
  rw [e1]
  have hrecv : ∃ cellB : Cell, H[A q0]? = some cellB ∧ cellB.vm.isStatics = false ∧ s.vm.findClass K'.1.cls = some cellB.cls := hc ▸ va_recv X.2.2.2.2.2.2.2.1 hP (cl_ok ci hci) (wld_get ha)
  have hpre : ∀ U : State, U.heap = H → s.WarmedH U.vm → PCn Ω G cA A fm H.size (.ref q0 :: as) I J (Value.ref (A q0) :: as.map (cv A fm)).toArray U := by
    have := pc_at (as := .ref q0 :: as) X hP hS
    rw [List.map_cons, cv_ref hb] at this
    exact this
  refine x_callR (G := G) (cA := cA) (A := A) (fm := fm) (Ω := Ω) (rest := S.map (cv A fm)) hS (Q' := Q') (a := (Value.ref (A q0) :: as.map (cv A fm)).toArray) ?_ (fun r I' J' H1 locs1 hq hP1 hS1 => ?_)
  · rcases lk with lk | lk
    · exact va_runV (As := as.map (cv A fm)) ⟨X.1, X.2.1, X.2.2.2.2.1, X.2.2.2.2.2.1, X.2.2.2.2.2.2.1⟩ (hC l G cA A fm H.size)
        (cwV n X.2.2.2.2.2.2.1 (C := K'.1.cls) (tb_gi (fun w hw => by
          rcases List.mem_append.mp hw with h | h
          · simp only [List.mem_cons, List.not_mem_nil, or_false] at h
            rcases h with rfl | rfl | rfl | rfl
            · exact lk
            · exact mi.2.1
            · exact mi.2.2
            · exact mi.1.2.2.1
          · exact tb_ws mi.1 w h)) rfl rfl rfl ⟨rfl, mi.1.1⟩ (rmD_le mi.1)) ⟨pc_blind, hrecv, hpre⟩ rfl (by simpa using hn) hl.1 rfl (lv_room (sum_cat (act_fm X) hw)) hd ⟨Nat.zero_le _, Nat.zero_le _⟩
    · exact va_runVN (As := as.map (cv A fm)) (C := K'.1.cls) ⟨X.1, X.2.1, X.2.2.2.2.1, X.2.2.2.2.2.1, X.2.2.2.2.2.2.1⟩ (hC l G cA A fm H.size)
        ⟨va_cnB n X.2.2.2.2.2.2.1 (tb_gi (tb_ws mi.1)) rfl rfl rfl (X.2.2.2.2.2.2.2.2.2.2.2 _ lk) (X.2.2.2.2.2.2.1 _ mi.1.2.2.1) mi.1.1 (rmD_le mi.1), X.2.2.2.2.2.2.1 _ mi.2.1, X.2.2.2.2.2.2.1 _ mi.2.2⟩ ⟨pc_blind, hrecv, hpre⟩ rfl (by simpa using hn) hl.1 rfl (lv_room (sum_cat (act_fm X) hw)) hd ⟨Nat.zero_le _, Nat.zero_le _⟩
  · have h2 := kk r I' J' hq l G cA A fm p e s m args below meth c H1 locs1 ls X hP1 hS1 hl
    rw [map_ret] at h2
    exact h2
theorem wp_callT {q0 idx n : Nat} {as St : List Value} {K' : Mth} {Q' : Pst} (hd : decode K.2.1 pc = .ok (.invokevirtual idx, 3)) (lk : Cond.methodLink K.1.cls idx K'.1 ∈ TB) (mi : MIn K' n) (h1 : 1004 ≤ q0) (h2 : q0 < 1006) (hc : K'.1.cls = RJ0) (hn : as.length = n) (hst : St = as.reverse ++ .ref q0 :: S) (hw : (S.map fun v => v.category).sum ≤ 8) (hC : CALL Ω d K' (.ref q0 :: as) I J Q')
    (kk : ∀ r I' J', Q' r I' J' → WP Ω (d + 1) K (pc + 3) L (r.toList ++ S) I' J' Q) : WP Ω (d + 1) K pc L St I J Q := by
  intro l G cA A fm p e s m args below meth c H locs ls X hP hS hl
  subst hst
  have hb : Nat.beq q0 1010 = false := ro_beq (by omega)
  have e1 : (as.reverse ++ .ref q0 :: S).map (cv A fm) = (as.map (cv A fm)).reverse ++ .ref (A q0) :: S.map (cv A fm) := by
    rw [List.map_append, List.map_reverse, List.map_cons, cv_ref hb]
  rw [e1]
  have hrecv : ∃ cellB : Cell, H[A q0]? = some cellB ∧ cellB.vm.isStatics = false ∧ s.vm.findClass K'.1.cls = some cellB.cls := by
    obtain ⟨cell, g1, g2, g3, -⟩ := ((act_roe X).2.1 q0 h1 h2).1.kept hS.2.1
    exact ⟨cell, g1, g2, by rw [hc]; exact g3⟩
  have hpre : ∀ U : State, U.heap = H → s.WarmedH U.vm → PCn Ω G cA A fm H.size (.ref q0 :: as) I J (Value.ref (A q0) :: as.map (cv A fm)).toArray U := by
    have := pc_at (as := .ref q0 :: as) X hP hS
    rw [List.map_cons, cv_ref hb] at this
    exact this
  refine x_callR (G := G) (cA := cA) (A := A) (fm := fm) (Ω := Ω) (rest := S.map (cv A fm)) hS (Q' := Q') (a := (Value.ref (A q0) :: as.map (cv A fm)).toArray) ?_ (fun r I' J' H1 locs1 hq hP1 hS1 => ?_)
  · exact va_runV (As := as.map (cv A fm)) ⟨X.1, X.2.1, X.2.2.2.2.1, X.2.2.2.2.2.1, X.2.2.2.2.2.2.1⟩ (hC l G cA A fm H.size)
        (cwV n X.2.2.2.2.2.2.1 (C := K'.1.cls) (tb_gi (fun w hw => by
          rcases List.mem_append.mp hw with h | h
          · simp only [List.mem_cons, List.not_mem_nil, or_false] at h
            rcases h with rfl | rfl | rfl | rfl
            · exact lk
            · exact mi.2.1
            · exact mi.2.2
            · exact mi.1.2.2.1
          · exact tb_ws mi.1 w h)) rfl rfl rfl ⟨rfl, mi.1.1⟩ (rmD_le mi.1)) ⟨pc_blind, hrecv, hpre⟩ rfl (by simpa using hn) hl.1 rfl (lv_room (sum_cat (act_fm X) hw)) hd ⟨Nat.zero_le _, Nat.zero_le _⟩
  · have h2 := kk r I' J' hq l G cA A fm p e s m args below meth c H1 locs1 ls X hP1 hS1 hl
    rw [map_ret] at h2
    exact h2
theorem wp_callS {idx n : Nat} {as St : List Value} {K' : Mth} {Q' : Pst} (hd : decode K.2.1 pc = .ok (.invokestatic idx, 3)) (lk : LM K.1.cls idx K') (mi : MSn K' n) (hn : as.length = n) (hst : St = as.reverse ++ S) (hw : (S.map fun v => v.category).sum ≤ 8) (hC : CALL Ω d K' as I J Q')
    (kk : ∀ r I' J', Q' r I' J' → WP Ω (d + 1) K (pc + 3) L (r.toList ++ S) I' J' Q) : WP Ω (d + 1) K pc L St I J Q := by
  intro l G cA A fm p e s m args below meth c H locs ls X hP hS hl
  subst hst
  have e1 : (as.reverse ++ S).map (cv A fm) = (as.map (cv A fm)).reverse ++ S.map (cv A fm) := by
    rw [List.map_append, List.map_reverse]
  rw [e1]
  have hpre := pc_at (as := as) X hP hS
  refine x_callR (G := G) (cA := cA) (A := A) (fm := fm) (Ω := Ω) (rest := S.map (cv A fm)) hS (Q' := Q') (a := (as.map (cv A fm)).toArray) ?_ (fun r I' J' H1 locs1 hq hP1 hS1 => ?_)
  · rcases lk with lk | lk
    · exact va_runS (As := as.map (cv A fm)) ⟨X.1, X.2.1, X.2.2.2.2.1, X.2.2.2.2.2.1, X.2.2.2.2.2.2.1⟩ (hC l G cA A fm H.size)
        (va_cwS n X.2.2.2.2.2.2.1 (tb_gi (fun w hw => by
          rcases List.mem_append.mp hw with h | h
          · simp only [List.mem_cons, List.not_mem_nil, or_false] at h
            rcases h with rfl | rfl | rfl
            · exact lk
            · exact mi.2
            · exact mi.1.2.2.1
          · exact tb_ws mi.1 w h)) rfl rfl rfl mi.1.1 (rmD_le mi.1)) ⟨pc_blind, hpre⟩ rfl (by simpa using hn) hl.1 rfl (lv_room (sum_cat (act_fm X) hw)) hd ⟨Nat.zero_le _, Nat.zero_le _⟩
    · exact va_runSN (As := as.map (cv A fm)) ⟨X.1, X.2.1, X.2.2.2.2.1, X.2.2.2.2.2.1, X.2.2.2.2.2.2.1⟩ (hC l G cA A fm H.size)
        ⟨va_cnB n X.2.2.2.2.2.2.1 (tb_gi (tb_ws mi.1)) rfl rfl rfl (X.2.2.2.2.2.2.2.2.2.2.2 _ lk) (X.2.2.2.2.2.2.1 _ mi.1.2.2.1) mi.1.1 (rmD_le mi.1), X.2.2.2.2.2.2.1 _ mi.2, trivial⟩ ⟨pc_blind, hpre⟩ rfl (by simpa using hn) hl.1 rfl (lv_room (sum_cat (act_fm X) hw)) hd ⟨Nat.zero_le _, Nat.zero_le _⟩
  · have h2 := kk r I' J' hq l G cA A fm p e s m args below meth c H1 locs1 ls X hP1 hS1 hl
    rw [map_ret] at h2
    exact h2
/-- a contract from the walk of a body -/
theorem call_of_wp {as : List Value} (hp : plainName K.1.cls = true) (hz : (lg_sl as).length ≤ K.2.2.1) (h : WP Ω d K 0 (lv_args 0 as) [] I J Q) : CALL Ω d K as I J Q := by
  intro l G cA A fm sz
  refine Met.ofW (cc := K.2.1) (maxL := K.2.2.1) (ret := K.2.2.2) hp rfl ?_
  intro p e s m args below meth c s₁ B hml hv
  obtain ⟨rfl, hsz, hP, hK, hA, hR, hN⟩ := hv
  have hts := atoms_spec (ws := wsK K) B.pre
  subst hsz
  have hf : fm.category = 1 := hR.2.2.2.2.2
  have hl := lv_entry (as.map (cv A fm)) (n := K.2.2.1) (by rw [lg_sl_len hf]; exact hz)
  rw [lg_entry_eq]
  generalize (lg_sl (as.map (cv A fm)) ++ List.replicate (K.2.2.1 - (lg_sl (as.map (cv A fm))).length) Slot.unset).toArray = ls at hl ⊢
  rw [lv_args_map hf] at hl
  exact h l G cA A fm p e s m _ below meth c s.heap [] ls ⟨B.exec, B.bytes, B.returns, B.notSynchronized, hml, findClass_of_methodNamed B.named, fun w hw => hts w (List.mem_cons_of_mem _ hw), hK, hA, hR, hN⟩ hP va_S.rf hl
end CLR
