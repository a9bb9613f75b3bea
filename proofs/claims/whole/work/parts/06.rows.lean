/-! ROWS: an instruction each -/
section RWS
variable {Ω : Shp} {d : Nat} {K : Mth} {pc : Nat} {L : Lcs} {S : List Value} {I : MemI} {J : MemJ} {Q : Pst}
theorem WP.of {pc2 : Nat} {L2 : Lcs} {S2 : List Value} (h : WP Ω d K pc2 L2 S2 I J Q) (h1 : pc2 = pc) (h2 : L2 = L) (h3 : S2 = S) : WP Ω d K pc L S I J Q := by subst h1; subst h2; subst h3; exact h
theorem act_fm {G : va_G} {cA : Nat → ClassId} {A : Nat → Nat} {fm : Value} {p : Program} {s : State} {m : MethodId} {args : Array Value} {meth : Method} {c : Code} (X : Act Ω K G cA A fm p s m args meth c) : fm.category = 1 := by
  obtain ⟨-, -, -, -, -, -, -, -, -, hR, -⟩ := X
  exact hR.2.2.2.2.2
theorem wp_iconst {n : Int} {v : Int32} (hd : decode K.2.1 pc = .ok (.iconst n, 1)) (hv : Int32.ofInt n = v) (k : WP Ω d K (pc + 1) L (.int v :: S) I J Q) : WP Ω d K pc L S I J Q := by
  intro l G cA A fm p e s m args below meth c H locs ls X hP hS hl
  exact lv_iconst X.1 X.2.1 hd hv (k l G cA A fm p e s m args below meth c H locs ls X hP hS hl)
theorem wp_bipush {n : Int} {v : Int32} (hd : decode K.2.1 pc = .ok (.bipush n, 2)) (hv : (Int8.ofInt n).toInt32 = v) (k : WP Ω d K (pc + 2) L (.int v :: S) I J Q) : WP Ω d K pc L S I J Q := by
  intro l G cA A fm p e s m args below meth c H locs ls X hP hS hl
  exact lv_bipush X.1 X.2.1 hd hv (k l G cA A fm p e s m args below meth c H locs ls X hP hS hl)
theorem wp_sipush {n : Int} {v : Int32} (hd : decode K.2.1 pc = .ok (.sipush n, 3)) (hv : (Int16.ofInt n).toInt32 = v) (k : WP Ω d K (pc + 3) L (.int v :: S) I J Q) : WP Ω d K pc L S I J Q := by
  intro l G cA A fm p e s m args below meth c H locs ls X hP hS hl
  exact lv_sipush X.1 X.2.1 hd hv (k l G cA A fm p e s m args below meth c H locs ls X hP hS hl)
theorem wp_lconst {n : Fin 2} {v : Int64} (hd : decode K.2.1 pc = .ok (.lconst n, 1)) (hv : Int64.ofNat (n : Nat) = v) (k : WP Ω d K (pc + 1) L (.long v :: S) I J Q) : WP Ω d K pc L S I J Q := by
  intro l G cA A fm p e s m args below meth c H locs ls X hP hS hl
  exact lv_lconst X.1 X.2.1 hd hv (k l G cA A fm p e s m args below meth c H locs ls X hP hS hl)
theorem wp_null (hd : decode K.2.1 pc = .ok (.aconst_null, 1)) (k : WP Ω d K (pc + 1) L (.null :: S) I J Q) : WP Ω d K pc L S I J Q := by
  intro l G cA A fm p e s m args below meth c H locs ls X hP hS hl
  exact lv_null X.1 X.2.1 hd (k l G cA A fm p e s m args below meth c H locs ls X hP hS hl)
theorem wp_ldc {idx : Nat} {v : Int32} (hd : decode K.2.1 pc = .ok (.ldc idx, 2)) (hc : Cond.constant K.1.cls idx v ∈ TB) (k : WP Ω d K (pc + 2) L (.int v :: S) I J Q) : WP Ω d K pc L S I J Q := by
  intro l G cA A fm p e s m args below meth c H locs ls X hP hS hl
  exact lv_ldc X.1 X.2.1 X.2.2.2.2.2.1 (X.2.2.2.2.2.2.1 _ hc) hd (k l G cA A fm p e s m args below meth c H locs ls X hP hS hl)
theorem wp_ldc_w {idx : Nat} {v : Int32} (hd : decode K.2.1 pc = .ok (.ldc_w idx, 3)) (hc : Cond.constant K.1.cls idx v ∈ TB) (k : WP Ω d K (pc + 3) L (.int v :: S) I J Q) : WP Ω d K pc L S I J Q := by
  intro l G cA A fm p e s m args below meth c H locs ls X hP hS hl
  exact lv_ldcw X.1 X.2.1 X.2.2.2.2.2.1 (X.2.2.2.2.2.2.1 _ hc) hd (k l G cA A fm p e s m args below meth c H locs ls X hP hS hl)
theorem wp_ldc2_w {idx : Nat} {v : Int64} (hd : decode K.2.1 pc = .ok (.ldc2_w idx, 3)) (hc : Cond.constantLong K.1.cls idx v ∈ TB) (k : WP Ω d K (pc + 3) L (.long v :: S) I J Q) : WP Ω d K pc L S I J Q := by
  intro l G cA A fm p e s m args below meth c H locs ls X hP hS hl
  exact lv_ldc2 X.1 X.2.1 X.2.2.2.2.2.1 (X.2.2.2.2.2.2.1 _ hc) hd (k l G cA A fm p e s m args below meth c H locs ls X hP hS hl)
theorem has_at {A : Nat → Nat} {fm : Value} {ls : Array Slot} {n i : Nat} {v : Value} (hl : lv_has ls n (L.map (cvl A fm))) (h : lget L i = some v) : ls[i]? = some (.val (cv A fm v)) :=
  hl.2.2 (i, cv A fm v) (List.mem_map.mpr ⟨(i, v), lget_mem h, rfl⟩)
theorem wp_iload_n {f : Fin 4} {i : Nat} {x : Int32} (hd : decode K.2.1 pc = .ok (.iload_n f, 1)) (hi : (f : Nat) = i) (hx : lget L i = some (.int x)) (k : WP Ω d K (pc + 1) L (.int x :: S) I J Q) : WP Ω d K pc L S I J Q := by
  intro l G cA A fm p e s m args below meth c H locs ls X hP hS hl
  exact lv_iload_n X.1 X.2.1 hd hi (has_at hl hx) (k l G cA A fm p e s m args below meth c H locs ls X hP hS hl)
theorem wp_iload {i : Nat} {x : Int32} (hd : decode K.2.1 pc = .ok (.iload i, 2)) (hx : lget L i = some (.int x)) (k : WP Ω d K (pc + 2) L (.int x :: S) I J Q) : WP Ω d K pc L S I J Q := by
  intro l G cA A fm p e s m args below meth c H locs ls X hP hS hl
  exact lv_iload X.1 X.2.1 hd (has_at hl hx) (k l G cA A fm p e s m args below meth c H locs ls X hP hS hl)
theorem wp_lload_n {f : Fin 4} {i : Nat} {x : Int64} (hd : decode K.2.1 pc = .ok (.lload_n f, 1)) (hi : (f : Nat) = i) (hx : lget L i = some (.long x)) (k : WP Ω d K (pc + 1) L (.long x :: S) I J Q) : WP Ω d K pc L S I J Q := by
  intro l G cA A fm p e s m args below meth c H locs ls X hP hS hl
  exact lv_lload_n X.1 X.2.1 hd hi (has_at hl hx) (k l G cA A fm p e s m args below meth c H locs ls X hP hS hl)
theorem wp_lload {i : Nat} {x : Int64} (hd : decode K.2.1 pc = .ok (.lload i, 2)) (hx : lget L i = some (.long x)) (k : WP Ω d K (pc + 2) L (.long x :: S) I J Q) : WP Ω d K pc L S I J Q := by
  intro l G cA A fm p e s m args below meth c H locs ls X hP hS hl
  exact lv_lload X.1 X.2.1 hd (has_at hl hx) (k l G cA A fm p e s m args below meth c H locs ls X hP hS hl)
theorem wp_aload_n {f : Fin 4} {i : Nat} {x : Nat} (hd : decode K.2.1 pc = .ok (.aload_n f, 1)) (hi : (f : Nat) = i) (hx : lget L i = some (.ref x)) (hne : Nat.beq x 1010 = false) (k : WP Ω d K (pc + 1) L (.ref x :: S) I J Q) : WP Ω d K pc L S I J Q := by
  intro l G cA A fm p e s m args below meth c H locs ls X hP hS hl
  have hn : ¬ x = 1010 := fun h => by rw [h] at hne; cases hne
  have h1 := has_at hl hx
  have h2 := k l G cA A fm p e s m args below meth c H locs ls X hP hS hl
  have e1 : cv A fm (.ref x) = .ref (A x) := by simp [cv, hn]
  rw [e1] at h1
  rw [List.map_cons, e1] at h2
  exact lv_aload_n X.1 X.2.1 hd hi h1 h2
theorem wp_aload {i : Nat} {x : Nat} (hd : decode K.2.1 pc = .ok (.aload i, 2)) (hx : lget L i = some (.ref x)) (hne : Nat.beq x 1010 = false) (k : WP Ω d K (pc + 2) L (.ref x :: S) I J Q) : WP Ω d K pc L S I J Q := by
  intro l G cA A fm p e s m args below meth c H locs ls X hP hS hl
  have hn : ¬ x = 1010 := fun h => by rw [h] at hne; cases hne
  have h1 := has_at hl hx
  have h2 := k l G cA A fm p e s m args below meth c H locs ls X hP hS hl
  have e1 : cv A fm (.ref x) = .ref (A x) := by simp [cv, hn]
  rw [e1] at h1
  rw [List.map_cons, e1] at h2
  exact lv_aload X.1 X.2.1 hd h1 h2
theorem wp_aload_nN {f : Fin 4} {i : Nat} (hd : decode K.2.1 pc = .ok (.aload_n f, 1)) (hi : (f : Nat) = i) (hx : lget L i = some .null) (k : WP Ω d K (pc + 1) L (.null :: S) I J Q) : WP Ω d K pc L S I J Q := by
  intro l G cA A fm p e s m args below meth c H locs ls X hP hS hl
  exact lv_aload_nN X.1 X.2.1 hd hi (has_at hl hx) (k l G cA A fm p e s m args below meth c H locs ls X hP hS hl)
theorem wp_aloadN {i : Nat} (hd : decode K.2.1 pc = .ok (.aload i, 2)) (hx : lget L i = some .null) (k : WP Ω d K (pc + 2) L (.null :: S) I J Q) : WP Ω d K pc L S I J Q := by
  intro l G cA A fm p e s m args below meth c H locs ls X hP hS hl
  exact lv_aloadN X.1 X.2.1 hd (has_at hl hx) (k l G cA A fm p e s m args below meth c H locs ls X hP hS hl)
theorem wp_istore_n {f : Fin 4} {i : Nat} {x : Int32} (hd : decode K.2.1 pc = .ok (.istore_n f, 1)) (hi : (f : Nat) = i) (hn : i < K.2.2.1) (k : WP Ω d K (pc + 1) (lset1 L i (.int x)) S I J Q) : WP Ω d K pc L (.int x :: S) I J Q := by
  intro l G cA A fm p e s m args below meth c H locs ls X hP hS hl
  exact lv_istore_n X.1 X.2.1 hd hi hl hn rfl (fun ls' hl' => k l G cA A fm p e s m args below meth c H locs ls' X hP hS (lset1_has (act_fm X) (v := .int x) hl'))
theorem wp_istore {i : Nat} {x : Int32} (hd : decode K.2.1 pc = .ok (.istore i, 2)) (hn : i < K.2.2.1) (k : WP Ω d K (pc + 2) (lset1 L i (.int x)) S I J Q) : WP Ω d K pc L (.int x :: S) I J Q := by
  intro l G cA A fm p e s m args below meth c H locs ls X hP hS hl
  exact lv_istore X.1 X.2.1 hd hl hn rfl (fun ls' hl' => k l G cA A fm p e s m args below meth c H locs ls' X hP hS (lset1_has (act_fm X) (v := .int x) hl'))
theorem wp_lstore_n {f : Fin 4} {i : Nat} {x : Int64} (hd : decode K.2.1 pc = .ok (.lstore_n f, 1)) (hi : (f : Nat) = i) (hn : i + 1 < K.2.2.1) (k : WP Ω d K (pc + 1) (lset2 L i (.long x)) S I J Q) : WP Ω d K pc L (.long x :: S) I J Q := by
  intro l G cA A fm p e s m args below meth c H locs ls X hP hS hl
  exact lv_lstore_n X.1 X.2.1 hd hi hl hn rfl (fun ls' hl' => k l G cA A fm p e s m args below meth c H locs ls' X hP hS (lset2_has (act_fm X) (v := .long x) hl'))
theorem wp_astore {i : Nat} {x : Nat} (hd : decode K.2.1 pc = .ok (.astore i, 2)) (hne : Nat.beq x 1010 = false) (hn : i < K.2.2.1) (k : WP Ω d K (pc + 2) (lset1 L i (.ref x)) S I J Q) : WP Ω d K pc L (.ref x :: S) I J Q := by
  intro l G cA A fm p e s m args below meth c H locs ls X hP hS hl
  have h1 : ¬ x = 1010 := fun h => by rw [h] at hne; cases hne
  have e1 : cv A fm (.ref x) = .ref (A x) := by simp [cv, h1]
  rw [List.map_cons, e1]
  exact lv_astore X.1 X.2.1 hd hl hn rfl (fun ls' hl' => k l G cA A fm p e s m args below meth c H locs ls' X hP hS (lset1_has (act_fm X) (v := .ref x) (by rw [e1]; exact hl')))
theorem wp_astoreN {i : Nat} (hd : decode K.2.1 pc = .ok (.astore i, 2)) (hn : i < K.2.2.1) (k : WP Ω d K (pc + 2) (lset1 L i .null) S I J Q) : WP Ω d K pc L (.null :: S) I J Q := by
  intro l G cA A fm p e s m args below meth c H locs ls X hP hS hl
  exact lv_astoreN X.1 X.2.1 hd hl hn rfl (fun ls' hl' => k l G cA A fm p e s m args below meth c H locs ls' X hP hS (lset1_has (act_fm X) (v := .null) hl'))
theorem has_ix {ls : Array Slot} {n i : Nat} {l : List (Nat × Value)} {v : Value} (hq : (i, v) ∈ l) : ∃ k : Nat, l[k]? = some (i, v) := List.getElem?_of_mem hq
theorem wp_iinc {i : Nat} {n : Int} {x v : Int32} (hd : decode K.2.1 pc = .ok (.iinc i n, 3)) (hx : lget L i = some (.int x)) (hv : x + Int32.ofInt n = v) (hn : i < K.2.2.1) (k : WP Ω d K (pc + 3) (lset1 L i (.int v)) S I J Q) : WP Ω d K pc L S I J Q := by
  intro l G cA A fm p e s m args below meth c H locs ls X hP hS hl
  obtain ⟨j, hj⟩ := List.getElem?_of_mem (List.mem_map.mpr ⟨(i, Value.int x), lget_mem hx, rfl⟩ : cvl A fm (i, Value.int x) ∈ L.map (cvl A fm))
  exact lv_iinc X.1 X.2.1 hd hl hj hv hn rfl (fun ls' hl' => k l G cA A fm p e s m args below meth c H locs ls' X hP hS (lset1_has (act_fm X) (v := .int v) hl'))
theorem wp_iadd {x y : Int32} (hd : decode K.2.1 pc = .ok (.iadd, 1)) (k : WP Ω d K (pc + 1) L (.int (x + y) :: S) I J Q) : WP Ω d K pc L (.int y :: .int x :: S) I J Q := by
  intro l G cA A fm p e s m args below meth c H locs ls X hP hS hl
  exact lv_iadd X.1 X.2.1 hd (k l G cA A fm p e s m args below meth c H locs ls X hP hS hl)
theorem wp_isub {x y : Int32} (hd : decode K.2.1 pc = .ok (.isub, 1)) (k : WP Ω d K (pc + 1) L (.int (x - y) :: S) I J Q) : WP Ω d K pc L (.int y :: .int x :: S) I J Q := by
  intro l G cA A fm p e s m args below meth c H locs ls X hP hS hl
  exact lv_isub X.1 X.2.1 hd (k l G cA A fm p e s m args below meth c H locs ls X hP hS hl)
theorem wp_imul {x y : Int32} (hd : decode K.2.1 pc = .ok (.imul, 1)) (k : WP Ω d K (pc + 1) L (.int (x * y) :: S) I J Q) : WP Ω d K pc L (.int y :: .int x :: S) I J Q := by
  intro l G cA A fm p e s m args below meth c H locs ls X hP hS hl
  exact lv_imul X.1 X.2.1 hd (k l G cA A fm p e s m args below meth c H locs ls X hP hS hl)
theorem wp_iand {x y : Int32} (hd : decode K.2.1 pc = .ok (.iand, 1)) (k : WP Ω d K (pc + 1) L (.int (x &&& y) :: S) I J Q) : WP Ω d K pc L (.int y :: .int x :: S) I J Q := by
  intro l G cA A fm p e s m args below meth c H locs ls X hP hS hl
  exact lv_iand X.1 X.2.1 hd (k l G cA A fm p e s m args below meth c H locs ls X hP hS hl)
theorem wp_ior {x y : Int32} (hd : decode K.2.1 pc = .ok (.ior, 1)) (k : WP Ω d K (pc + 1) L (.int (x ||| y) :: S) I J Q) : WP Ω d K pc L (.int y :: .int x :: S) I J Q := by
  intro l G cA A fm p e s m args below meth c H locs ls X hP hS hl
  exact lv_ior X.1 X.2.1 hd (k l G cA A fm p e s m args below meth c H locs ls X hP hS hl)
theorem wp_ixor {x y : Int32} (hd : decode K.2.1 pc = .ok (.ixor, 1)) (k : WP Ω d K (pc + 1) L (.int (x ^^^ y) :: S) I J Q) : WP Ω d K pc L (.int y :: .int x :: S) I J Q := by
  intro l G cA A fm p e s m args below meth c H locs ls X hP hS hl
  exact lv_ixor X.1 X.2.1 hd (k l G cA A fm p e s m args below meth c H locs ls X hP hS hl)
theorem wp_ladd {x y : Int64} (hd : decode K.2.1 pc = .ok (.ladd, 1)) (k : WP Ω d K (pc + 1) L (.long (x + y) :: S) I J Q) : WP Ω d K pc L (.long y :: .long x :: S) I J Q := by
  intro l G cA A fm p e s m args below meth c H locs ls X hP hS hl
  exact lv_ladd X.1 X.2.1 hd (k l G cA A fm p e s m args below meth c H locs ls X hP hS hl)
theorem wp_lsub {x y : Int64} (hd : decode K.2.1 pc = .ok (.lsub, 1)) (k : WP Ω d K (pc + 1) L (.long (x - y) :: S) I J Q) : WP Ω d K pc L (.long y :: .long x :: S) I J Q := by
  intro l G cA A fm p e s m args below meth c H locs ls X hP hS hl
  exact lv_lsub X.1 X.2.1 hd (k l G cA A fm p e s m args below meth c H locs ls X hP hS hl)
theorem wp_lmul {x y : Int64} (hd : decode K.2.1 pc = .ok (.lmul, 1)) (k : WP Ω d K (pc + 1) L (.long (x * y) :: S) I J Q) : WP Ω d K pc L (.long y :: .long x :: S) I J Q := by
  intro l G cA A fm p e s m args below meth c H locs ls X hP hS hl
  exact lv_lmul X.1 X.2.1 hd (k l G cA A fm p e s m args below meth c H locs ls X hP hS hl)
theorem wp_land {x y : Int64} (hd : decode K.2.1 pc = .ok (.land, 1)) (k : WP Ω d K (pc + 1) L (.long (x &&& y) :: S) I J Q) : WP Ω d K pc L (.long y :: .long x :: S) I J Q := by
  intro l G cA A fm p e s m args below meth c H locs ls X hP hS hl
  exact lv_land X.1 X.2.1 hd (k l G cA A fm p e s m args below meth c H locs ls X hP hS hl)
theorem wp_lor {x y : Int64} (hd : decode K.2.1 pc = .ok (.lor, 1)) (k : WP Ω d K (pc + 1) L (.long (x ||| y) :: S) I J Q) : WP Ω d K pc L (.long y :: .long x :: S) I J Q := by
  intro l G cA A fm p e s m args below meth c H locs ls X hP hS hl
  exact lv_lor X.1 X.2.1 hd (k l G cA A fm p e s m args below meth c H locs ls X hP hS hl)
theorem wp_lxor {x y : Int64} (hd : decode K.2.1 pc = .ok (.lxor, 1)) (k : WP Ω d K (pc + 1) L (.long (x ^^^ y) :: S) I J Q) : WP Ω d K pc L (.long y :: .long x :: S) I J Q := by
  intro l G cA A fm p e s m args below meth c H locs ls X hP hS hl
  exact lv_lxor X.1 X.2.1 hd (k l G cA A fm p e s m args below meth c H locs ls X hP hS hl)
theorem wp_lcmp {x y : Int64} (hd : decode K.2.1 pc = .ok (.lcmp, 1)) (k : WP Ω d K (pc + 1) L (.int (lg_cmp x y) :: S) I J Q) : WP Ω d K pc L (.long y :: .long x :: S) I J Q := by
  intro l G cA A fm p e s m args below meth c H locs ls X hP hS hl
  exact W.lcmp X.1 X.2.1 hd (k l G cA A fm p e s m args below meth c H locs ls X hP hS hl)
theorem wp_idiv {x y : Int32} (hd : decode K.2.1 pc = .ok (.idiv, 1)) (hne : ¬ y = 0) (k : WP Ω d K (pc + 1) L (.int (x / y) :: S) I J Q) : WP Ω d K pc L (.int y :: .int x :: S) I J Q := by
  intro l G cA A fm p e s m args below meth c H locs ls X hP hS hl
  exact lv_idiv X.1 X.2.1 hd hne (k l G cA A fm p e s m args below meth c H locs ls X hP hS hl)
theorem wp_irem {x y : Int32} (hd : decode K.2.1 pc = .ok (.irem, 1)) (hne : ¬ y = 0) (k : WP Ω d K (pc + 1) L (.int (x - x / y * y) :: S) I J Q) : WP Ω d K pc L (.int y :: .int x :: S) I J Q := by
  intro l G cA A fm p e s m args below meth c H locs ls X hP hS hl
  exact lv_irem X.1 X.2.1 hd hne (k l G cA A fm p e s m args below meth c H locs ls X hP hS hl)
theorem wp_lrem {x y : Int64} (hd : decode K.2.1 pc = .ok (.lrem, 1)) (hne : ¬ y = 0) (k : WP Ω d K (pc + 1) L (.long (x - x / y * y) :: S) I J Q) : WP Ω d K pc L (.long y :: .long x :: S) I J Q := by
  intro l G cA A fm p e s m args below meth c H locs ls X hP hS hl
  exact lv_lrem X.1 X.2.1 hd hne (k l G cA A fm p e s m args below meth c H locs ls X hP hS hl)
theorem wp_ineg {x : Int32} (hd : decode K.2.1 pc = .ok (.ineg, 1)) (k : WP Ω d K (pc + 1) L (.int (-x) :: S) I J Q) : WP Ω d K pc L (.int x :: S) I J Q := by
  intro l G cA A fm p e s m args below meth c H locs ls X hP hS hl
  exact lv_ineg X.1 X.2.1 hd (k l G cA A fm p e s m args below meth c H locs ls X hP hS hl)
theorem wp_ishl {x y : Int32} (hd : decode K.2.1 pc = .ok (.ishl, 1)) (k : WP Ω d K (pc + 1) L (.int (x <<< (y &&& 31)) :: S) I J Q) : WP Ω d K pc L (.int y :: .int x :: S) I J Q := by
  intro l G cA A fm p e s m args below meth c H locs ls X hP hS hl
  exact lv_ishl X.1 X.2.1 hd (k l G cA A fm p e s m args below meth c H locs ls X hP hS hl)
theorem wp_ishr {x y : Int32} (hd : decode K.2.1 pc = .ok (.ishr, 1)) (k : WP Ω d K (pc + 1) L (.int (x >>> (y &&& 31)) :: S) I J Q) : WP Ω d K pc L (.int y :: .int x :: S) I J Q := by
  intro l G cA A fm p e s m args below meth c H locs ls X hP hS hl
  exact lv_ishr X.1 X.2.1 hd (k l G cA A fm p e s m args below meth c H locs ls X hP hS hl)
theorem wp_iushr {x y : Int32} (hd : decode K.2.1 pc = .ok (.iushr, 1)) (k : WP Ω d K (pc + 1) L (.int ((x.toUInt32 >>> (y.toUInt32 &&& Int32.toUInt32 31)).toInt32) :: S) I J Q) : WP Ω d K pc L (.int y :: .int x :: S) I J Q := by
  intro l G cA A fm p e s m args below meth c H locs ls X hP hS hl
  exact lv_iushr X.1 X.2.1 hd rfl (k l G cA A fm p e s m args below meth c H locs ls X hP hS hl)
theorem wp_lushr {x : Int64} {y : Int32} (hd : decode K.2.1 pc = .ok (.lushr, 1)) (k : WP Ω d K (pc + 1) L (.long ((x.toUInt64 >>> (y.toInt64.toUInt64 &&& Int64.toUInt64 63)).toInt64) :: S) I J Q) : WP Ω d K pc L (.int y :: .long x :: S) I J Q := by
  intro l G cA A fm p e s m args below meth c H locs ls X hP hS hl
  exact lv_lushr X.1 X.2.1 hd rfl (k l G cA A fm p e s m args below meth c H locs ls X hP hS hl)
theorem wp_lshl {x : Int64} {y : Int32} (hd : decode K.2.1 pc = .ok (.lshl, 1)) (k : WP Ω d K (pc + 1) L (.long (x <<< (y.toInt64 &&& 63)) :: S) I J Q) : WP Ω d K pc L (.int y :: .long x :: S) I J Q := by
  intro l G cA A fm p e s m args below meth c H locs ls X hP hS hl
  exact lv_lshl X.1 X.2.1 hd rfl (k l G cA A fm p e s m args below meth c H locs ls X hP hS hl)
theorem wp_lshr {x : Int64} {y : Int32} (hd : decode K.2.1 pc = .ok (.lshr, 1)) (k : WP Ω d K (pc + 1) L (.long (x >>> (y.toInt64 &&& 63)) :: S) I J Q) : WP Ω d K pc L (.int y :: .long x :: S) I J Q := by
  intro l G cA A fm p e s m args below meth c H locs ls X hP hS hl
  exact lv_lshr X.1 X.2.1 hd rfl (k l G cA A fm p e s m args below meth c H locs ls X hP hS hl)
theorem wp_i2l {x : Int32} (hd : decode K.2.1 pc = .ok (.i2l, 1)) (k : WP Ω d K (pc + 1) L (.long (x.toInt64) :: S) I J Q) : WP Ω d K pc L (.int x :: S) I J Q := by
  intro l G cA A fm p e s m args below meth c H locs ls X hP hS hl
  exact lv_i2l X.1 X.2.1 hd rfl (k l G cA A fm p e s m args below meth c H locs ls X hP hS hl)
theorem wp_l2i {x : Int64} (hd : decode K.2.1 pc = .ok (.l2i, 1)) (k : WP Ω d K (pc + 1) L (.int (x.toInt32) :: S) I J Q) : WP Ω d K pc L (.long x :: S) I J Q := by
  intro l G cA A fm p e s m args below meth c H locs ls X hP hS hl
  exact lv_l2i X.1 X.2.1 hd rfl (k l G cA A fm p e s m args below meth c H locs ls X hP hS hl)
theorem wp_i2b {x : Int32} (hd : decode K.2.1 pc = .ok (.i2b, 1)) (k : WP Ω d K (pc + 1) L (.int (x.toInt8.toInt32) :: S) I J Q) : WP Ω d K pc L (.int x :: S) I J Q := by
  intro l G cA A fm p e s m args below meth c H locs ls X hP hS hl
  exact lv_i2b X.1 X.2.1 hd rfl (k l G cA A fm p e s m args below meth c H locs ls X hP hS hl)
theorem wp_i2c {x : Int32} (hd : decode K.2.1 pc = .ok (.i2c, 1)) (k : WP Ω d K (pc + 1) L (.int ((x.toUInt32 % 65536).toInt32) :: S) I J Q) : WP Ω d K pc L (.int x :: S) I J Q := by
  intro l G cA A fm p e s m args below meth c H locs ls X hP hS hl
  exact lv_i2c X.1 X.2.1 hd rfl (k l G cA A fm p e s m args below meth c H locs ls X hP hS hl)
theorem wp_dup {v : Value} (hd : decode K.2.1 pc = .ok (.dup, 1)) (hv : v.category = 1) (k : WP Ω d K (pc + 1) L (v :: v :: S) I J Q) : WP Ω d K pc L (v :: S) I J Q := by
  intro l G cA A fm p e s m args below meth c H locs ls X hP hS hl
  exact lv_dup X.1 X.2.1 hd (by rw [cv_cat (act_fm X)]; exact hv) (k l G cA A fm p e s m args below meth c H locs ls X hP hS hl)
theorem wp_pop {v : Value} (hd : decode K.2.1 pc = .ok (.pop, 1)) (hv : v.category = 1) (k : WP Ω d K (pc + 1) L S I J Q) : WP Ω d K pc L (v :: S) I J Q := by
  intro l G cA A fm p e s m args below meth c H locs ls X hP hS hl
  exact lv_pop X.1 X.2.1 hd (by rw [cv_cat (act_fm X)]; exact hv) (k l G cA A fm p e s m args below meth c H locs ls X hP hS hl)
theorem wp_if_eq {x : Int32} {off : Int} {tgt : Nat} (hd : decode K.2.1 pc = .ok (.ifCond .eq off, 3)) (ht : (pc : Int) + off = (tgt : Int)) (kt : x = 0 → WP Ω d K tgt L S I J Q) (kf : ¬ x = 0 → WP Ω d K (pc + 3) L S I J Q) : WP Ω d K pc L (.int x :: S) I J Q := by
  intro l G cA A fm p e s m args below meth c H locs ls X hP hS hl
  exact lv_if_eq X.1 X.2.1 hd ht (fun h => kt h l G cA A fm p e s m args below meth c H locs ls X hP hS hl) (fun h => kf h l G cA A fm p e s m args below meth c H locs ls X hP hS hl)
theorem wp_icmp_eq {x y : Int32} {off : Int} {tgt : Nat} (hd : decode K.2.1 pc = .ok (.if_icmp .eq off, 3)) (ht : (pc : Int) + off = (tgt : Int)) (kt : x = y → WP Ω d K tgt L S I J Q) (kf : ¬ x = y → WP Ω d K (pc + 3) L S I J Q) : WP Ω d K pc L (.int y :: .int x :: S) I J Q := by
  intro l G cA A fm p e s m args below meth c H locs ls X hP hS hl
  exact lv_icmp_eq X.1 X.2.1 hd ht (fun h => kt h l G cA A fm p e s m args below meth c H locs ls X hP hS hl) (fun h => kf h l G cA A fm p e s m args below meth c H locs ls X hP hS hl)
theorem wp_if_ne {x : Int32} {off : Int} {tgt : Nat} (hd : decode K.2.1 pc = .ok (.ifCond .ne off, 3)) (ht : (pc : Int) + off = (tgt : Int)) (kt : ¬ x = 0 → WP Ω d K tgt L S I J Q) (kf : x = 0 → WP Ω d K (pc + 3) L S I J Q) : WP Ω d K pc L (.int x :: S) I J Q := by
  intro l G cA A fm p e s m args below meth c H locs ls X hP hS hl
  exact lv_if_ne X.1 X.2.1 hd ht (fun h => kt h l G cA A fm p e s m args below meth c H locs ls X hP hS hl) (fun h => kf h l G cA A fm p e s m args below meth c H locs ls X hP hS hl)
theorem wp_icmp_ne {x y : Int32} {off : Int} {tgt : Nat} (hd : decode K.2.1 pc = .ok (.if_icmp .ne off, 3)) (ht : (pc : Int) + off = (tgt : Int)) (kt : ¬ x = y → WP Ω d K tgt L S I J Q) (kf : x = y → WP Ω d K (pc + 3) L S I J Q) : WP Ω d K pc L (.int y :: .int x :: S) I J Q := by
  intro l G cA A fm p e s m args below meth c H locs ls X hP hS hl
  exact lv_icmp_ne X.1 X.2.1 hd ht (fun h => kt h l G cA A fm p e s m args below meth c H locs ls X hP hS hl) (fun h => kf h l G cA A fm p e s m args below meth c H locs ls X hP hS hl)
theorem wp_if_lt {x : Int32} {off : Int} {tgt : Nat} (hd : decode K.2.1 pc = .ok (.ifCond .lt off, 3)) (ht : (pc : Int) + off = (tgt : Int)) (kt : x < 0 → WP Ω d K tgt L S I J Q) (kf : ¬ x < 0 → WP Ω d K (pc + 3) L S I J Q) : WP Ω d K pc L (.int x :: S) I J Q := by
  intro l G cA A fm p e s m args below meth c H locs ls X hP hS hl
  exact lv_if_lt X.1 X.2.1 hd ht (fun h => kt h l G cA A fm p e s m args below meth c H locs ls X hP hS hl) (fun h => kf h l G cA A fm p e s m args below meth c H locs ls X hP hS hl)
theorem wp_icmp_lt {x y : Int32} {off : Int} {tgt : Nat} (hd : decode K.2.1 pc = .ok (.if_icmp .lt off, 3)) (ht : (pc : Int) + off = (tgt : Int)) (kt : x < y → WP Ω d K tgt L S I J Q) (kf : ¬ x < y → WP Ω d K (pc + 3) L S I J Q) : WP Ω d K pc L (.int y :: .int x :: S) I J Q := by
  intro l G cA A fm p e s m args below meth c H locs ls X hP hS hl
  exact lv_icmp_lt X.1 X.2.1 hd ht (fun h => kt h l G cA A fm p e s m args below meth c H locs ls X hP hS hl) (fun h => kf h l G cA A fm p e s m args below meth c H locs ls X hP hS hl)
theorem wp_if_ge {x : Int32} {off : Int} {tgt : Nat} (hd : decode K.2.1 pc = .ok (.ifCond .ge off, 3)) (ht : (pc : Int) + off = (tgt : Int)) (kt : 0 ≤ x → WP Ω d K tgt L S I J Q) (kf : ¬ 0 ≤ x → WP Ω d K (pc + 3) L S I J Q) : WP Ω d K pc L (.int x :: S) I J Q := by
  intro l G cA A fm p e s m args below meth c H locs ls X hP hS hl
  exact lv_if_ge X.1 X.2.1 hd ht (fun h => kt h l G cA A fm p e s m args below meth c H locs ls X hP hS hl) (fun h => kf h l G cA A fm p e s m args below meth c H locs ls X hP hS hl)
theorem wp_icmp_ge {x y : Int32} {off : Int} {tgt : Nat} (hd : decode K.2.1 pc = .ok (.if_icmp .ge off, 3)) (ht : (pc : Int) + off = (tgt : Int)) (kt : y ≤ x → WP Ω d K tgt L S I J Q) (kf : ¬ y ≤ x → WP Ω d K (pc + 3) L S I J Q) : WP Ω d K pc L (.int y :: .int x :: S) I J Q := by
  intro l G cA A fm p e s m args below meth c H locs ls X hP hS hl
  exact lv_icmp_ge X.1 X.2.1 hd ht (fun h => kt h l G cA A fm p e s m args below meth c H locs ls X hP hS hl) (fun h => kf h l G cA A fm p e s m args below meth c H locs ls X hP hS hl)
theorem wp_if_gt {x : Int32} {off : Int} {tgt : Nat} (hd : decode K.2.1 pc = .ok (.ifCond .gt off, 3)) (ht : (pc : Int) + off = (tgt : Int)) (kt : 0 < x → WP Ω d K tgt L S I J Q) (kf : ¬ 0 < x → WP Ω d K (pc + 3) L S I J Q) : WP Ω d K pc L (.int x :: S) I J Q := by
  intro l G cA A fm p e s m args below meth c H locs ls X hP hS hl
  exact lv_if_gt X.1 X.2.1 hd ht (fun h => kt h l G cA A fm p e s m args below meth c H locs ls X hP hS hl) (fun h => kf h l G cA A fm p e s m args below meth c H locs ls X hP hS hl)
theorem wp_icmp_gt {x y : Int32} {off : Int} {tgt : Nat} (hd : decode K.2.1 pc = .ok (.if_icmp .gt off, 3)) (ht : (pc : Int) + off = (tgt : Int)) (kt : y < x → WP Ω d K tgt L S I J Q) (kf : ¬ y < x → WP Ω d K (pc + 3) L S I J Q) : WP Ω d K pc L (.int y :: .int x :: S) I J Q := by
  intro l G cA A fm p e s m args below meth c H locs ls X hP hS hl
  exact lv_icmp_gt X.1 X.2.1 hd ht (fun h => kt h l G cA A fm p e s m args below meth c H locs ls X hP hS hl) (fun h => kf h l G cA A fm p e s m args below meth c H locs ls X hP hS hl)
theorem wp_if_le {x : Int32} {off : Int} {tgt : Nat} (hd : decode K.2.1 pc = .ok (.ifCond .le off, 3)) (ht : (pc : Int) + off = (tgt : Int)) (kt : x ≤ 0 → WP Ω d K tgt L S I J Q) (kf : ¬ x ≤ 0 → WP Ω d K (pc + 3) L S I J Q) : WP Ω d K pc L (.int x :: S) I J Q := by
  intro l G cA A fm p e s m args below meth c H locs ls X hP hS hl
  exact lv_if_le X.1 X.2.1 hd ht (fun h => kt h l G cA A fm p e s m args below meth c H locs ls X hP hS hl) (fun h => kf h l G cA A fm p e s m args below meth c H locs ls X hP hS hl)
theorem wp_icmp_le {x y : Int32} {off : Int} {tgt : Nat} (hd : decode K.2.1 pc = .ok (.if_icmp .le off, 3)) (ht : (pc : Int) + off = (tgt : Int)) (kt : x ≤ y → WP Ω d K tgt L S I J Q) (kf : ¬ x ≤ y → WP Ω d K (pc + 3) L S I J Q) : WP Ω d K pc L (.int y :: .int x :: S) I J Q := by
  intro l G cA A fm p e s m args below meth c H locs ls X hP hS hl
  exact lv_icmp_le X.1 X.2.1 hd ht (fun h => kt h l G cA A fm p e s m args below meth c H locs ls X hP hS hl) (fun h => kf h l G cA A fm p e s m args below meth c H locs ls X hP hS hl)
theorem wp_goto {off : Int} {tgt : Nat} (hd : decode K.2.1 pc = .ok (.goto off, 3)) (ht : (pc : Int) + off = (tgt : Int)) (k : WP Ω d K tgt L S I J Q) : WP Ω d K pc L S I J Q := by
  intro l G cA A fm p e s m args below meth c H locs ls X hP hS hl
  exact lv_goto X.1 X.2.1 hd ht (k l G cA A fm p e s m args below meth c H locs ls X hP hS hl)
theorem wp_ifnonnull {x : Nat} {off : Int} {tgt : Nat} (hd : decode K.2.1 pc = .ok (.ifnonnull off, 3)) (ht : (pc : Int) + off = (tgt : Int)) (hne : Nat.beq x 1010 = false) (k : WP Ω d K tgt L S I J Q) : WP Ω d K pc L (.ref x :: S) I J Q := by
  intro l G cA A fm p e s m args below meth c H locs ls X hP hS hl
  have h1 : ¬ x = 1010 := fun h => by rw [h] at hne; cases hne
  rw [List.map_cons, show cv A fm (.ref x) = .ref (A x) by simp [cv, h1]]
  exact lv_ifnonnull X.1 X.2.1 hd ht (k l G cA A fm p e s m args below meth c H locs ls X hP hS hl)
theorem wp_ifnonnullN {off : Int} (hd : decode K.2.1 pc = .ok (.ifnonnull off, 3)) (k : WP Ω d K (pc + 3) L S I J Q) : WP Ω d K pc L (.null :: S) I J Q := by
  intro l G cA A fm p e s m args below meth c H locs ls X hP hS hl
  exact lv_ifnonnullN X.1 X.2.1 hd (k l G cA A fm p e s m args below meth c H locs ls X hP hS hl)
theorem wp_tableOut {dflt lo hi : Int} {offs : Array Int} {len : Nat} {x : Int32} {tgt : Nat} (hd : decode K.2.1 pc = .ok (.tableswitch dflt lo hi offs, len)) (h : x.toInt < lo ∨ hi < x.toInt) (ht : (pc : Int) + dflt = (tgt : Int)) (k : WP Ω d K tgt L S I J Q) : WP Ω d K pc L (.int x :: S) I J Q := by
  intro l G cA A fm p e s m args below meth c H locs ls X hP hS hl
  exact lv_tableOut X.1 X.2.1 hd h ht (k l G cA A fm p e s m args below meth c H locs ls X hP hS hl)
theorem wp_tableIn {dflt lo hi : Int} {offs : Array Int} {len : Nat} {x : Int32} {off : Int} {tgt : Nat} (hd : decode K.2.1 pc = .ok (.tableswitch dflt lo hi offs, len)) (h1 : ¬ x.toInt < lo) (h2 : ¬ hi < x.toInt) (ho : offs[(x.toInt - lo).toNat]? = some off) (ht : (pc : Int) + off = (tgt : Int)) (k : WP Ω d K tgt L S I J Q) : WP Ω d K pc L (.int x :: S) I J Q := by
  intro l G cA A fm p e s m args below meth c H locs ls X hP hS hl
  exact lv_tableIn X.1 X.2.1 hd h1 h2 ho ht (k l G cA A fm p e s m args below meth c H locs ls X hP hS hl)
theorem wp_lookup {dflt : Int} {ps : Array (Int × Int)} {len : Nat} {x : Int32} {off : Int} {tgt : Nat} (hd : decode K.2.1 pc = .ok (.lookupswitch dflt ps, len)) (hp : (ps.toList.zip (ps.toList.drop 1)).all (fun (a, next) => a.1 < next.1) = true) (ho : Op.lookupswitch.offset ps.toList dflt x.toInt = off) (ht : (pc : Int) + off = (tgt : Int)) (k : WP Ω d K tgt L S I J Q) : WP Ω d K pc L (.int x :: S) I J Q := by
  intro l G cA A fm p e s m args below meth c H locs ls X hP hS hl
  exact lv_lookup X.1 X.2.1 hd hp ho ht (k l G cA A fm p e s m args below meth c H locs ls X hP hS hl)
end RWS
