/-! CONSTRUCTORS: worlds that grow -/
def rmC (d nc ns : Nat) : Room := { frames := d, cells := nc, slots := ns, locals := 50 * d }
/-- what a constructor is given beside its cell -/
def EV (G : va_G) (cA : Nat → ClassId) (A0 : Nat → Nat) (fm : Value) (B : Nat → Prop) (U : State) : Prop := va_K G vwCl (ATs cA) U ∧ Roe A0 fm B U U.heap ∧ Nst U
def CTP (G : va_G) (cA : Nat → ClassId) (A0 : Nat → Nat) (fm : Value) (w0 : va_W) (sz : Nat) (as : List Value) : Array Value → State → Prop := va_Pc as (fun U => U.heap.size = sz ∧ va_P G vwCl w0 U.heap ∧ va_D (fun _ => True) w0 ∧ EV G cA A0 fm (va_A w0 sz) U)
abbrev CTQ {S : Type} (B : S → State → Prop) (A : Nat → Prop) : Array Value → State → Outcome → State → Prop := va_Qv (fun _ : S => True) B A
/-- a constructor's contract -/
def CT (d nc ns : Nat) (K : Mth) (as : List Value) (w0 : va_W) (out : (Nat → ClassId) → (Nat → Nat) → va_W) : Prop :=
  ∀ (l : Launch) (G : va_G) (cA : Nat → ClassId) (A0 : Nat → Nat) (fm : Value) (sz : Nat), Met l K.1 (wsK K) (rmC d nc ns) (CTP G cA A0 fm w0 sz as) (CTQ (fun (q : Nat → Nat) (t : State) => va_P G vwCl (out cA q) t.heap ∧ va_D (va_A w0 sz) (out cA q)) (va_A w0 sz)) nc ns (va_A w0 sz)
def CX (K : Mth) (G : va_G) (cA : Nat → ClassId) (A0 : Nat → Nat) (fm : Value) (A : Nat → Prop) (p : Program) (s : State) (m : MethodId) (args : Array Value) (meth : Method) (c : Code) : Prop :=
  p.tables.exec = Jvm.exec ∧ c.code = K.2.1 ∧ meth.sig.returnType = K.2.2.2 ∧ meth.locks = false ∧ c.maxLocals = K.2.2.1 ∧ s.vm.findClass K.1.cls = some m.cls ∧ (∀ w ∈ TB, w.before args s = true) ∧ va_K G vwCl (ATs cA) s ∧ Roe A0 fm A s s.heap ∧ Nst s ∧ meth.name = "<init>" ∧ ∀ q, s.heap.size ≤ q → A q
/-- from here a constructor comes to its end; k cells of n slots are new so far, the world is ws -/
def CP (G : va_G) (cA : Nat → ClassId) (A0 : Nat → Nat) (fm : Value) (K : Mth) (d NC NS : Nat) (A : Nat → Prop) (l : Launch) (Qc : Array Value → State → Outcome → State → Prop) (pc : Nat) (L : Lcs) (S : List Value) (k n : Nat) (ws : va_W) : Prop :=
  ∀ (p : Program) (e : Env) (s : State) (m : MethodId) (args : Array Value) (below : List Frame) (meth : Method) (c : Code) (H : Heap) (locs : List Loc) (ls : Array Slot),
    CX K G cA A0 fm A p s m args meth c → va_P G vwCl ws H → va_D A ws → va_S A s.heap H locs → lv_has ls K.2.2.1 L → W p l e (rmC d NC NS) s m args below meth c H locs k n (MQ below Qc args s NC NS A) (F0 m pc ls S)
/-- a constructor that can be called -/
def MIi (K' : Mth) (n : Nat) : Prop := MVn K' n ∧ Cond.instanceMethod K'.1 ∈ TB ∧ K'.1.name = "<init>" ∧ K'.2.2.2 = none
def LFd (own : String) (idx ci k : Nat) : Prop := ci < 7 ∧ k < cNf ci ∧ ((cTb ci) k).1 = cNm ci ∧ Cond.fieldLink own idx (cNm ci) ((cTb ci) k).2.1 ((cTb ci) k).2.2.1 ∈ TB
def kX5_init : Mth := (yX5_init, cX5_init, 1, none)
theorem m_X5_init : MIi kX5_init 0 := ⟨⟨⟨by decide +kernel, by decide +kernel, by decide +kernel⟩, tb_in 66 (by decide +kernel), tb_in 47 (by decide +kernel), Nat.le_of_ble_eq_true rfl⟩, tb_in 65 (by decide +kernel), rfl, rfl⟩
def kX4_init : Mth := (yX4_init, cX4_init, 1, none)
theorem m_X4_init : MIi kX4_init 0 := ⟨⟨⟨by decide +kernel, by decide +kernel, by decide +kernel⟩, tb_in 74 (by decide +kernel), tb_in 48 (by decide +kernel), Nat.le_of_ble_eq_true rfl⟩, tb_in 73 (by decide +kernel), rfl, rfl⟩
def kX0_init : Mth := (yX0_init, cX0_init, 1, none)
theorem m_X0_init : MIi kX0_init 0 := ⟨⟨⟨by decide +kernel, by decide +kernel, by decide +kernel⟩, tb_in 89 (by decide +kernel), tb_in 49 (by decide +kernel), Nat.le_of_ble_eq_true rfl⟩, tb_in 88 (by decide +kernel), rfl, rfl⟩
def kX2_init : Mth := (yX2_init, cX2_init, 2, none)
theorem m_X2_init : MIi kX2_init 1 := ⟨⟨⟨by decide +kernel, by decide +kernel, by decide +kernel⟩, tb_in 129 (by decide +kernel), tb_in 50 (by decide +kernel), Nat.le_of_ble_eq_true rfl⟩, tb_in 128 (by decide +kernel), rfl, rfl⟩
def kX1_init : Mth := (yX1_init, cX1_init, 1, none)
theorem m_X1_init : MIi kX1_init 0 := ⟨⟨⟨by decide +kernel, by decide +kernel, by decide +kernel⟩, tb_in 180 (by decide +kernel), tb_in 51 (by decide +kernel), Nat.le_of_ble_eq_true rfl⟩, tb_in 179 (by decide +kernel), rfl, rfl⟩
def kX3_init : Mth := (yX3_init, cX3_init, 4, none)
theorem m_X3_init : MIi kX3_init 1 := ⟨⟨⟨by decide +kernel, by decide +kernel, by decide +kernel⟩, tb_in 186 (by decide +kernel), tb_in 52 (by decide +kernel), Nat.le_of_ble_eq_true rfl⟩, tb_in 185 (by decide +kernel), rfl, rfl⟩
def kX6_init : Mth := (yX6_init, cX6_init, 1, none)
theorem m_X6_init : MIi kX6_init 0 := ⟨⟨⟨by decide +kernel, by decide +kernel, by decide +kernel⟩, tb_in 788 (by decide +kernel), tb_in 53 (by decide +kernel), Nat.le_of_ble_eq_true rfl⟩, tb_in 787 (by decide +kernel), rfl, rfl⟩
theorem ob_X5 : Cond.methodLink RX5 3 objectInit ∈ TB := tb_in 67 (by decide +kernel)
theorem lm_X5_25 : LM RX5 25 kX2_init := Or.inl (tb_in 127 (by decide +kernel))
theorem lm_X5_47 : LM RX5 47 kX3_init := Or.inl (tb_in 214 (by decide +kernel))
theorem ob_X0 : Cond.methodLink RX0 3 objectInit ∈ TB := tb_in 90 (by decide +kernel)
theorem ob_X1 : Cond.methodLink RX1 3 objectInit ∈ TB := tb_in 181 (by decide +kernel)
theorem lm_X1_11 : LM RX1 11 kX3_init := Or.inl (tb_in 184 (by decide +kernel))
theorem ob_X2 : Cond.methodLink RX2 3 objectInit ∈ TB := tb_in 130 (by decide +kernel)
theorem ob_X3 : Cond.methodLink RX3 3 objectInit ∈ TB := tb_in 187 (by decide +kernel)
theorem ob_X4 : Cond.methodLink RX4 3 objectInit ∈ TB := tb_in 75 (by decide +kernel)
theorem lm_L_9 : LM "StayWhereFellLaw" 9 kX5_init := Or.inl (tb_in 64 (by decide +kernel))
theorem lm_L_12 : LM "StayWhereFellLaw" 12 kX6_init := Or.inl (tb_in 786 (by decide +kernel))
theorem ob_X6 : Cond.methodLink RX6 1 objectInit ∈ TB := tb_in 789 (by decide +kernel)
theorem lm_X5_11 : LM RX5 11 kX4_init := Or.inr (by decide +kernel)
theorem lm_X5_18 : LM RX5 18 kX0_init := Or.inr (by decide +kernel)
theorem lm_X5_40 : LM RX5 40 kX1_init := Or.inr (by decide +kernel)
theorem ob_i : Cond.instanceMethod objectInit ∈ TB := tb_in 68 (by decide +kernel)
theorem ob_c : Cond.code objectInit ⟨#[0xb1]⟩ 1 none ∈ TB := tb_in 69 (by decide +kernel)
theorem ac_int : Cond.arrayClass .int ∈ TB := tb_in 124 (by decide +kernel)
theorem ac_long : Cond.arrayClass .long ∈ TB := tb_in 201 (by decide +kernel)
theorem ac_byte : Cond.arrayClass .byte ∈ TB := tb_in 84 (by decide +kernel)
theorem ac_boolean : Cond.arrayClass .boolean ∈ TB := tb_in 848 (by decide +kernel)
section CPR
variable {G : va_G} {cA : Nat → ClassId} {A0 : Nat → Nat} {fm : Value} {K : Mth} {d NC NS : Nat} {A : Nat → Prop} {l : Launch} {Qc : Array Value → State → Outcome → State → Prop} {pc : Nat} {L : Lcs} {S : List Value} {k n : Nat} {ws : va_W}
theorem cl_at {ls : Array Slot} {n i : Nat} {v : Value} (hl : lv_has ls n L) (h : lget L i = some v) : ls[i]? = some (.val v) := hl.2.2 (i, v) (lget_mem h)
theorem cp_aload_n {f : Fin 4} {i a : Nat} (hd : decode K.2.1 pc = .ok (.aload_n f, 1)) (hi : (f : Nat) = i) (hx : lget L i = some (.ref a)) (kk : CP G cA A0 fm K d NC NS A l Qc (pc + 1) L (.ref a :: S) k n ws) : CP G cA A0 fm K d NC NS A l Qc pc L S k n ws := by
  intro p e s m args below meth c H locs ls X hP hD hS hl
  exact lv_aload_n X.1 X.2.1 hd hi (cl_at hl hx) (kk p e s m args below meth c H locs ls X hP hD hS hl)
theorem cp_aload_nN {f : Fin 4} {i : Nat} (hd : decode K.2.1 pc = .ok (.aload_n f, 1)) (hi : (f : Nat) = i) (hx : lget L i = some .null) (kk : CP G cA A0 fm K d NC NS A l Qc (pc + 1) L (.null :: S) k n ws) : CP G cA A0 fm K d NC NS A l Qc pc L S k n ws := by
  intro p e s m args below meth c H locs ls X hP hD hS hl
  exact lv_aload_nN X.1 X.2.1 hd hi (cl_at hl hx) (kk p e s m args below meth c H locs ls X hP hD hS hl)
theorem cp_iload_n {f : Fin 4} {i : Nat} {x : Int32} (hd : decode K.2.1 pc = .ok (.iload_n f, 1)) (hi : (f : Nat) = i) (hx : lget L i = some (.int x)) (kk : CP G cA A0 fm K d NC NS A l Qc (pc + 1) L (.int x :: S) k n ws) : CP G cA A0 fm K d NC NS A l Qc pc L S k n ws := by
  intro p e s m args below meth c H locs ls X hP hD hS hl
  exact lv_iload_n X.1 X.2.1 hd hi (cl_at hl hx) (kk p e s m args below meth c H locs ls X hP hD hS hl)
theorem cp_istore_n {f : Fin 4} {i : Nat} {x : Int32} (hd : decode K.2.1 pc = .ok (.istore_n f, 1)) (hi : (f : Nat) = i) (hn : i < K.2.2.1) (kk : CP G cA A0 fm K d NC NS A l Qc (pc + 1) (lset1 L i (.int x)) S k n ws) : CP G cA A0 fm K d NC NS A l Qc pc L (.int x :: S) k n ws := by
  intro p e s m args below meth c H locs ls X hP hD hS hl
  exact lv_istore_n X.1 X.2.1 hd hi hl hn rfl (fun ls' hl' => kk p e s m args below meth c H locs ls' X hP hD hS (hl'.less (fun q hq => (lins_mem hq).elim (fun z => by rw [z]; exact List.mem_cons_self) (fun z => List.mem_cons_of_mem _ z))))
theorem cp_iinc {i : Nat} {z : Int} {x v : Int32} (hd : decode K.2.1 pc = .ok (.iinc i z, 3)) (hx : lget L i = some (.int x)) (hv : x + Int32.ofInt z = v) (hn : i < K.2.2.1) (kk : CP G cA A0 fm K d NC NS A l Qc (pc + 3) (lset1 L i (.int v)) S k n ws) : CP G cA A0 fm K d NC NS A l Qc pc L S k n ws := by
  intro p e s m args below meth c H locs ls X hP hD hS hl
  obtain ⟨j, hj⟩ := List.getElem?_of_mem (lget_mem hx)
  exact lv_iinc X.1 X.2.1 hd hl hj hv hn rfl (fun ls' hl' => kk p e s m args below meth c H locs ls' X hP hD hS (hl'.less (fun q hq => (lins_mem hq).elim (fun z => by rw [z]; exact List.mem_cons_self) (fun z => List.mem_cons_of_mem _ z))))
theorem cp_iconst {z : Int} {v : Int32} (hd : decode K.2.1 pc = .ok (.iconst z, 1)) (hv : Int32.ofInt z = v) (kk : CP G cA A0 fm K d NC NS A l Qc (pc + 1) L (.int v :: S) k n ws) : CP G cA A0 fm K d NC NS A l Qc pc L S k n ws := by
  intro p e s m args below meth c H locs ls X hP hD hS hl
  exact lv_iconst X.1 X.2.1 hd hv (kk p e s m args below meth c H locs ls X hP hD hS hl)
theorem cp_bipush {z : Int} {v : Int32} (hd : decode K.2.1 pc = .ok (.bipush z, 2)) (hv : (Int8.ofInt z).toInt32 = v) (kk : CP G cA A0 fm K d NC NS A l Qc (pc + 2) L (.int v :: S) k n ws) : CP G cA A0 fm K d NC NS A l Qc pc L S k n ws := by
  intro p e s m args below meth c H locs ls X hP hD hS hl
  exact lv_bipush X.1 X.2.1 hd hv (kk p e s m args below meth c H locs ls X hP hD hS hl)
theorem cp_sipush {z : Int} {v : Int32} (hd : decode K.2.1 pc = .ok (.sipush z, 3)) (hv : (Int16.ofInt z).toInt32 = v) (kk : CP G cA A0 fm K d NC NS A l Qc (pc + 3) L (.int v :: S) k n ws) : CP G cA A0 fm K d NC NS A l Qc pc L S k n ws := by
  intro p e s m args below meth c H locs ls X hP hD hS hl
  exact lv_sipush X.1 X.2.1 hd hv (kk p e s m args below meth c H locs ls X hP hD hS hl)
theorem cp_lconst {z : Fin 2} {v : Int64} (hd : decode K.2.1 pc = .ok (.lconst z, 1)) (hv : Int64.ofNat (z : Nat) = v) (kk : CP G cA A0 fm K d NC NS A l Qc (pc + 1) L (.long v :: S) k n ws) : CP G cA A0 fm K d NC NS A l Qc pc L S k n ws := by
  intro p e s m args below meth c H locs ls X hP hD hS hl
  exact lv_lconst X.1 X.2.1 hd hv (kk p e s m args below meth c H locs ls X hP hD hS hl)
theorem cp_null (hd : decode K.2.1 pc = .ok (.aconst_null, 1)) (kk : CP G cA A0 fm K d NC NS A l Qc (pc + 1) L (.null :: S) k n ws) : CP G cA A0 fm K d NC NS A l Qc pc L S k n ws := by
  intro p e s m args below meth c H locs ls X hP hD hS hl
  exact lv_null X.1 X.2.1 hd (kk p e s m args below meth c H locs ls X hP hD hS hl)
theorem cp_dup {v : Value} (hd : decode K.2.1 pc = .ok (.dup, 1)) (hv : v.category = 1) (kk : CP G cA A0 fm K d NC NS A l Qc (pc + 1) L (v :: v :: S) k n ws) : CP G cA A0 fm K d NC NS A l Qc pc L (v :: S) k n ws := by
  intro p e s m args below meth c H locs ls X hP hD hS hl
  exact lv_dup X.1 X.2.1 hd hv (kk p e s m args below meth c H locs ls X hP hD hS hl)
theorem cp_goto {off : Int} {tgt : Nat} (hd : decode K.2.1 pc = .ok (.goto off, 3)) (ht : (pc : Int) + off = (tgt : Int)) (kk : CP G cA A0 fm K d NC NS A l Qc tgt L S k n ws) : CP G cA A0 fm K d NC NS A l Qc pc L S k n ws := by
  intro p e s m args below meth c H locs ls X hP hD hS hl
  exact lv_goto X.1 X.2.1 hd ht (kk p e s m args below meth c H locs ls X hP hD hS hl)
theorem cp_if_le {a : Nat} {off : Int} {tgt : Nat} (hd : decode K.2.1 pc = .ok (.ifCond .le off, 3)) (ht : (pc : Int) + off = (tgt : Int)) (h0 : 0 < a) (ha : a < 2147483648) (kk : CP G cA A0 fm K d NC NS A l Qc (pc + 3) L S k n ws) : CP G cA A0 fm K d NC NS A l Qc pc L (.int (nI a) :: S) k n ws := by
  intro p e s m args below meth c H locs ls X hP hD hS hl
  exact lv_if_le X.1 X.2.1 hd ht (fun h => absurd (Nat.le_zero.mp ((nI_leI (b := 0) ha (by decide)).mp h)) (by omega)) (fun _ => kk p e s m args below meth c H locs ls X hP hD hS hl)
theorem cp_icmp_ge {a b : Nat} {off : Int} {tgt : Nat} (hd : decode K.2.1 pc = .ok (.if_icmp .ge off, 3)) (ht : (pc : Int) + off = (tgt : Int)) (ha : a < 2147483648) (hb : b < 2147483648) (kt : b ≤ a → CP G cA A0 fm K d NC NS A l Qc tgt L S k n ws) (kf : ¬ b ≤ a → CP G cA A0 fm K d NC NS A l Qc (pc + 3) L S k n ws) : CP G cA A0 fm K d NC NS A l Qc pc L (.int (nI b) :: .int (nI a) :: S) k n ws := by
  intro p e s m args below meth c H locs ls X hP hD hS hl
  exact lv_icmp_ge X.1 X.2.1 hd ht (fun h => kt ((nI_leI hb ha).mp h) p e s m args below meth c H locs ls X hP hD hS hl) (fun h => kf (fun z => h ((nI_leI hb ha).mpr z)) p e s m args below meth c H locs ls X hP hD hS hl)
theorem cp_obj {idx a : Nat} (hd : decode K.2.1 pc = .ok (.invokespecial idx, 3)) (hlk : Cond.methodLink K.1.cls idx objectInit ∈ TB) (h1 : 1 ≤ d) (h2 : (S.map fun v => v.category).sum ≤ 8) (kk : CP G cA A0 fm K d NC NS A l Qc (pc + 3) L S k n ws) : CP G cA A0 fm K d NC NS A l Qc pc L (.ref a :: S) k n ws := by
  intro p e s m args below meth c H locs ls X hP hD hS hl
  obtain ⟨hx, hb, hr, hlocks, hml, hown, hts, -⟩ := id X
  refine W.objInit hx hb hown (hts _ hlk) (hts _ ob_i) (hts _ ob_c) rfl (by rw [hml]; exact hl.1) rfl hd h1 ?_ ?_
  · show 2 * 0 + _ + 12 ≤ 50 * d
    omega
  · refine W.eq (g2 := F0 m (pc + 3) ls S) rfl ?_
    exact kk p e s m args below meth c H locs ls X hP hD hS hl
theorem cp_put {q0 ci idx kf a : Nat} {fs : List Value} {v : Value} (hd : decode K.2.1 pc = .ok (.putfield idx, 3)) (hf : LFd K.1.cls idx ci kf) (ho : cNm ci = K.1.cls) (he : ws[q0]? = some (a, .inr (ci, fs))) (hn : narrow (cTy ci kf) v = v) (hfit : fits (cTy ci kf) v = true) (hl : kf < fs.length) (kk : CP G cA A0 fm K d NC NS A l Qc (pc + 3) L S k n (ws.set q0 (a, .inr (ci, fs.set kf v)))) : CP G cA A0 fm K d NC NS A l Qc pc L (v :: .ref a :: S) k n ws := by
  intro p e s m args below meth c H locs ls X hP hD hS hl2
  obtain ⟨hx, hb, hr, hlocks, hml, hown, hts, hK, hR, hN, hnm, hA⟩ := id X
  obtain ⟨hci, hk, hC, hw⟩ := hf
  cases hfin : ((cTb ci) kf).2.2.2
  · exact va_put hx hb hts (cl_in ci hci) (cTy ci) (cl_ty ci hci) (cl_nm ci hci) hown hK hP hD hS q0 he (cl_ok ci hci) kf hk (hts _ hw) (fun z hz => by rw [← hC]; exact hz) hfin (cl_ty ci hci kf hk) hn hfit hl hd (fun H1 locs1 hP1 hD1 hS1 => kk p e s m args below meth c H1 locs1 ls X hP1 hD1 hS1 hl2)
  · exact va_putF hx hb hts (cl_in ci hci) (cTy ci) (cl_ty ci hci) (cl_nm ci hci) hown hK hP hD hS q0 he (cl_ok ci hci) kf hk (hts _ hw) (fun z hz => by rw [← hC]; exact hz) hfin hnm (hC.trans ho) (cl_ty ci hci kf hk) hn hfit hl hd (fun H1 locs1 hP1 hD1 hS1 => kk p e s m args below meth c H1 locs1 ls X hP1 hD1 hS1 hl2)
theorem cp_getR {q0 ci idx kf a : Nat} {fs : List Value} {v : Value} (hd : decode K.2.1 pc = .ok (.getfield idx, 3)) (hf : LFd K.1.cls idx ci kf) (he : ws[q0]? = some (a, .inr (ci, fs))) (hv : fs[kf]? = some v) (kk : CP G cA A0 fm K d NC NS A l Qc (pc + 3) L (v :: S) k n ws) : CP G cA A0 fm K d NC NS A l Qc pc L (.ref a :: S) k n ws := by
  intro p e s m args below meth c H locs ls X hP hD hS hl2
  obtain ⟨hx, hb, hr, hlocks, hml, hown, hts, hK, hR, hN, hnm, hA⟩ := id X
  obtain ⟨hci, hk, hC, hw⟩ := hf
  exact va_get hx hb hts (cl_in ci hci) hown hK hP q0 he (cl_ok ci hci) kf hk (hts _ hw) (fun z hz => by rw [← hC]; exact hz) hv hd (kk p e s m args below meth c H locs ls X hP hD hS hl2)
theorem cp_new {ci idx : Nat} {fs : List Value} (hd : decode K.2.1 pc = .ok (.new idx, 3)) (hci : ci < 7) (hw : Cond.classLink K.1.cls idx (cNm ci) ∈ TB ∧ Cond.instantiable (cNm ci) (cNf ci) ∈ TB ∧ Cond.initialized (cNm ci) ∈ TB) (hfs : ∀ j, j < cNf ci → defaultValue (cTy ci j) = vp_V fs j) (hk : k + 1 ≤ NC) (hn : n + cNf ci ≤ NS) (kk : ∀ q, CP G cA A0 fm K d NC NS A l Qc (pc + 3) L (.ref q :: S) (k + 1) (n + cNf ci) (ws ++ [(q, .inr (ci, fs))])) : CP G cA A0 fm K d NC NS A l Qc pc L S k n ws := by
  intro p e s m args below meth c H locs ls X hP hD hS hl
  obtain ⟨hx, hb, hr, hlocks, hml, hown, hts, hK, hR, hN, hnm, hA⟩ := id X
  exact va_new hx hb hts (cl_in ci hci) (cTy ci) (cl_ty ci hci) hown (hts _ hw.1) (hts _ hw.2.1) (hts _ hw.2.2) hK hP hD hS hA (cl_ok ci hci) hfs hk hn hd (fun q H1 hP1 hD1 hS1 => kk q p e s m args below meth c H1 locs ls X hP1 hD1 hS1 hl)
theorem cp_newa {atype : ArrayType} {ty : FieldType} {t N : Nat} {a0 : vp_A} (hd : decode K.2.1 pc = .ok (.newarray atype, 2)) (harr : Cond.arrayClass ty ∈ TB) (hty : newarray.typeOf atype = ty) (ht : (ATs cA)[t]? = some (cA t, ty)) (hra : ∀ (U : State) (c : ClassId), va_RA U c ty → U.vm.findClass ("[" ++ ty.toString) = some c) (ha : ∀ c : ClassId, vp_cell c a0 = arrV c N (fun _ => defaultValue ty)) (hN : N < 65536) (hbytes : N * componentBytes ty ≤ 536870912) (hk : k + 1 ≤ NC) (hn : n + N ≤ NS) (kk : ∀ q, CP G cA A0 fm K d NC NS A l Qc (pc + 2) L (.ref q :: S) (k + 1) (n + N) (ws ++ [(q, .inl (cA t, a0))])) : CP G cA A0 fm K d NC NS A l Qc pc L (.int (nI N) :: S) k n ws := by
  intro p e s m args below meth c H locs ls X hP hD hS hl
  obtain ⟨hx, hb, hr, hlocks, hml, hown, hts, hK, hR, hN2, hnm, hA⟩ := id X
  subst hty
  refine va_newa hx hb (hts _ harr) rfl hK hP hD hS hA ha (nI_pos (by omega)) (nI_clamp (by omega)) hbytes hk hn hd (fun q c1 H1 hK1 hP1 hD1 hS1 => ?_)
  have h4 := (hK1.2 4 _ rfl).2
  have h5 := (hK.2 t _ ht).2
  have e1 : c1 = cA t := Option.some.inj ((hra _ _ h4).symm.trans (hra _ _ h5))
  subst e1
  exact kk q p e s m args below meth c H1 locs ls X hP1 hD1 hS1 hl
theorem cp_iast {q0 j a N : Nat} {f : Nat → Int32} {x : Int32} (hd : decode K.2.1 pc = .ok (.iastore, 1)) (he : ws[q0]? = some (a, .inl (cA 0, N, .inl f))) (hj : j < N) (hN : N < 65536) (kk : CP G cA A0 fm K d NC NS A l Qc (pc + 1) L S k n (ws.set q0 (a, .inl (cA 0, N, .inl (upd f j x))))) : CP G cA A0 fm K d NC NS A l Qc pc L (.int x :: .int (nI j) :: .ref a :: S) k n ws := by
  intro p e s m args below meth c H locs ls X hP hD hS hl
  obtain ⟨hx, hb, hr, hlocks, hml, hown, hts, hK, hR, hN2, hnm, hA⟩ := id X
  refine va_iast hx hb hK hP hD hS q0 0 he rfl (vp_in_nI hj (by omega)) hd (fun H1 locs1 hP1 hD1 hS1 => ?_)
  rw [nI_clamp (by omega)] at hP1 hD1
  exact kk p e s m args below meth c H1 locs1 ls X hP1 hD1 hS1 hl
theorem cp_return {T : Type} {B : T → State → Prop} (hd : decode K.2.1 pc = .ok (.return_, 1)) (hr : K.2.2.2 = none) (hk : k ≤ NC) (hn : n ≤ NS) (u : T) (hB : ∀ t : State, va_P G vwCl ws t.heap → va_D A ws → B u t) : CP G cA A0 fm K d NC NS A l (CTQ B A) pc L [] k n ws := by
  intro p e s m args below meth c H locs ls X hP hD hS hl
  refine W.widen (k := NC) (n := NS) hk hn ?_
  exact W.vret X.1 X.2.1 (X.2.2.1.trans hr) (fun t ht hW => ⟨⟨u, rfl, trivial, hB t (by rw [ht]; exact hP) hD⟩, hS.F ht⟩) hS.2.2 hd X.2.2.2.1
theorem ct_blind {w0 : va_W} {sz : Nat} {as : List Value} : FrameBlind (CTP G cA A0 fm w0 sz as) := fun a U g mk q => by
  obtain ⟨q0, q1, qP, qD, qK, qR, qN⟩ := q
  exact ⟨q0, q1, qP, qD, va_K.moved (u := U) (U := U.calling g mk a) (Vm.Alike.refl U.vm) qK, qR.same rfl, qN.same rfl⟩
theorem cp_call {j b idx nA d' nc ns : Nat} {en : va_E} {as St : List Value} {K' : Mth} {out : (Nat → ClassId) → (Nat → Nat) → va_W} (isR : List Nat) {wr : va_W} (hd : decode K.2.1 pc = .ok (.invokespecial idx, 3)) (lk : LM K.1.cls idx K') (mi : MIi K' nA) (he : ws[j]? = some (b, en)) (hn : as.length = nA) (hst : St = as.reverse ++ .ref b :: S) (hw : (S.map fun v => v.category).sum ≤ 8) (hC : CT d' nc ns K' (.ref b :: as) [(b, en)] out) (hroom : d' + 1 ≤ d) (hcl : k + nc ≤ NC) (hsl : n + ns ≤ NS) (hR : isR.map (fun i => ws[i]?) = wr.map some) (hnd : va_nd isR = true) (hdis : ∀ i ∈ isR, i ∉ [j]) (kk : ∀ q, CP G cA A0 fm K d NC NS A l Qc (pc + 3) L S (k + nc) (n + ns) (wr ++ out cA q)) : CP G cA A0 fm K d NC NS A l Qc pc L St k n ws := by
  intro p e s m args below meth c H locs ls X hP hD hS hl
  obtain ⟨hx, hb, hr, hlocks, hml, hown, hts, hK, hR2, hN2, hnm, hA⟩ := id X
  subst hst
  have hcut : [j].map (fun i => ws[i]?) = [(b, en)].map some := by simp [he]
  have hPc : va_P G vwCl [(b, en)] H := hP.sub (ws' := [(b, en)]) [j] (by simp [he])
  have hDc : va_D A [(b, en)] := hD.sub (ws' := [(b, en)]) [j] rfl hcut
  have hFc := va_free (wc := [(b, en)]) hD hS hA [j] hcut
  have hrm : (rmC d' nc ns).frames + 1 ≤ (rmC d NC NS).frames ∧ 8 + (K'.2.2.1 + 11) + (rmC d' nc ns).locals ≤ (rmC d NC NS).locals := by
    have := mi.1.2.2.2
    refine ⟨hroom, ?_⟩
    show 8 + (K'.2.2.1 + 11) + 50 * d' ≤ 50 * d
    omega
  have hwk : wsK K' = Cond.code K'.1 K'.2.1 K'.2.2.1 none :: TB := by unfold wsK; rw [mi.2.2.2]
  have hpre : ∀ U : State, U.heap = H → s.WarmedH U.vm → CTP G cA A0 fm [(b, en)] H.size (.ref b :: as) (Value.ref b :: as).toArray U := fun U hU hW => ⟨rfl, by rw [hU], by rw [hU]; exact hPc, hDc.weaken (fun _ _ _ _ => trivial), va_K.moved hW.alike hK, by rw [hU]; exact hR2.go hW hS.2.1 hFc, hN2.warm hW⟩
  have run : va_Run p l e (rmC d NC NS) s m args below meth c H locs k n nc ns (F0 m pc ls (as.reverse ++ .ref b :: S)) S (CTQ (fun (q : Nat → Nat) (t : State) => va_P G vwCl (out cA q) t.heap ∧ va_D (va_A [(b, en)] H.size) (out cA q)) (va_A [(b, en)] H.size) (Value.ref b :: as).toArray) (va_A [(b, en)] H.size) := by
    rcases lk with lk | lk
    · exact va_runI (As := as) ⟨hx, hb, hml, hown, hts⟩ (hC l G cA A0 fm H.size) (cwI nA hts (tb_gi (tb_ws mi.1)) hwk rfl rfl (hts _ mi.1.2.2.1) (hts _ lk) (hts _ mi.2.1) mi.2.2.1 mi.1.1 hrm) ⟨ct_blind, hpre⟩ rfl hn hl.1 rfl (lv_room hw) hd ⟨hcl, hsl⟩
    · exact va_runIN (As := as) ⟨hx, hb, hml, hown, hts⟩ (hC l G cA A0 fm H.size) ⟨va_cnB nA hts (tb_gi (tb_ws mi.1)) hwk rfl rfl (hN2.2 _ lk) (hts _ mi.1.2.2.1) mi.1.1 hrm, mi.2.2.1, hts _ mi.2.1⟩ ⟨ct_blind, hpre⟩ rfl hn hl.1 rfl (lv_room hw) hd ⟨hcl, hsl⟩
  refine va_callv run hS (fun q _ h => hFc q h) hFc (fun u t H1 locs1 ht hvm hw2 hB hz1 hk1 hS1 => ?_)
  obtain ⟨hP1, hD1⟩ := hB
  rw [ht] at hP1
  obtain ⟨hP2, hD2⟩ := va_join hP hD [j] isR hcut hR hnd hdis hk1 hFc hP1 hD1
  exact kk u p e s m args below meth c H1 locs1 ls X hP2 hD2 hS1 hl
theorem met_of_cp {w0 : va_W} {sz : Nat} {as : List Value} (hp : plainName K.1.cls = true) (hz : (lg_sl as).length ≤ K.2.2.1) (hni : K.1.name = "<init>") (h : ∀ A, A = va_A w0 sz → CP G cA A0 fm K d NC NS A l Qc 0 (lv_args 0 as) [] 0 0 w0) : Met l K.1 (wsK K) (rmC d NC NS) (CTP G cA A0 fm w0 sz as) Qc NC NS (va_A w0 sz) := by
  refine Met.ofW (cc := K.2.1) (maxL := K.2.2.1) (ret := K.2.2.2) hp rfl ?_
  intro p e s m args below meth c s₁ B hml hv
  obtain ⟨rfl, hsz, hP, hD0, hK, hR, hN⟩ := hv
  have hts := atoms_spec (ws := wsK K) B.pre
  subst hsz
  have hl := lv_entry as (n := K.2.2.1) hz
  rw [lg_entry_eq]
  generalize (lg_sl as ++ List.replicate (K.2.2.1 - (lg_sl as).length) Slot.unset).toArray = ls at hl ⊢
  exact h _ rfl p e s m _ below meth c s.heap [] ls ⟨B.exec, B.bytes, B.returns, B.notSynchronized, hml, findClass_of_methodNamed B.named, fun w hw => hts w (List.mem_cons_of_mem _ hw), hK, hR, hN, (name_of_methodNamed B.named B.method).1.trans hni, fun q hq => Or.inr hq⟩ hP hD0.self va_S.rf hl
end CPR
theorem ct_of_cp {d NC NS : Nat} {K : Mth} {as : List Value} {w0 : va_W} {out : (Nat → ClassId) → (Nat → Nat) → va_W} (hp : plainName K.1.cls = true) (hz : (lg_sl as).length ≤ K.2.2.1) (hni : K.1.name = "<init>") (h : ∀ (l : Launch) (G : va_G) (cA : Nat → ClassId) (A0 : Nat → Nat) (fm : Value) (A : Nat → Prop), CP G cA A0 fm K d NC NS A l (CTQ (fun (q : Nat → Nat) (t : State) => va_P G vwCl (out cA q) t.heap ∧ va_D A (out cA q)) A) 0 (lv_args 0 as) [] 0 0 w0) : CT d NC NS K as w0 out :=
  fun l G cA A0 fm sz => met_of_cp hp hz hni (fun A hA => by subst hA; exact h l G cA A0 fm _)
theorem df_0 : ∀ j, j < cNf 0 → defaultValue (cTy 0 j) = vp_V [.null, .null, .null, .null, .null, .int 0, .int 0, .int 0, .int 0] j := by
  intro j hj
  have hj : j < 9 := hj
  rcases (show j = 0 ∨ j = 1 ∨ j = 2 ∨ j = 3 ∨ j = 4 ∨ j = 5 ∨ j = 6 ∨ j = 7 ∨ j = 8 by omega) with rfl | rfl | rfl | rfl | rfl | rfl | rfl | rfl | rfl <;> rfl
theorem df_1 : ∀ j, j < cNf 1 → defaultValue (cTy 1 j) = vp_V [.null, .int 0, .int 0] j := by
  intro j hj
  have hj : j < 3 := hj
  rcases (show j = 0 ∨ j = 1 ∨ j = 2 by omega) with rfl | rfl | rfl <;> rfl
theorem df_2 : ∀ j, j < cNf 2 → defaultValue (cTy 2 j) = vp_V [.null, .null, .int 0, .long 0, .long 0, .int 0, .int 0, .int 0, .int 0, .int 0, .int 0] j := by
  intro j hj
  have hj : j < 11 := hj
  rcases (show j = 0 ∨ j = 1 ∨ j = 2 ∨ j = 3 ∨ j = 4 ∨ j = 5 ∨ j = 6 ∨ j = 7 ∨ j = 8 ∨ j = 9 ∨ j = 10 by omega) with rfl | rfl | rfl | rfl | rfl | rfl | rfl | rfl | rfl | rfl | rfl <;> rfl
theorem df_3 : ∀ j, j < cNf 3 → defaultValue (cTy 3 j) = vp_V [.null, .null, .null, .null] j := by
  intro j hj
  have hj : j < 4 := hj
  rcases (show j = 0 ∨ j = 1 ∨ j = 2 ∨ j = 3 by omega) with rfl | rfl | rfl | rfl <;> rfl
theorem df_4 : ∀ j, j < cNf 4 → defaultValue (cTy 4 j) = vp_V [.null, .int 0] j := by
  intro j hj
  have hj : j < 2 := hj
  rcases (show j = 0 ∨ j = 1 by omega) with rfl | rfl <;> rfl
theorem df_5 : ∀ j, j < cNf 5 → defaultValue (cTy 5 j) = vp_V [.null, .null, .null, .null, .null, .null, .null, .long 0] j := by
  intro j hj
  have hj : j < 8 := hj
  rcases (show j = 0 ∨ j = 1 ∨ j = 2 ∨ j = 3 ∨ j = 4 ∨ j = 5 ∨ j = 6 ∨ j = 7 by omega) with rfl | rfl | rfl | rfl | rfl | rfl | rfl | rfl <;> rfl
theorem df_6 : ∀ j, j < cNf 6 → defaultValue (cTy 6 j) = vp_V [.int 0, .int 0, .int 0, .null, .null, .null, .null, .null, .int 0, .null, .null, .int 0, .int 0, .null, .null, .null, .long 0, .null, .null] j := by
  intro j hj
  have hj : j < 19 := hj
  rcases (show j = 0 ∨ j = 1 ∨ j = 2 ∨ j = 3 ∨ j = 4 ∨ j = 5 ∨ j = 6 ∨ j = 7 ∨ j = 8 ∨ j = 9 ∨ j = 10 ∨ j = 11 ∨ j = 12 ∨ j = 13 ∨ j = 14 ∨ j = 15 ∨ j = 16 ∨ j = 17 ∨ j = 18 by omega) with rfl | rfl | rfl | rfl | rfl | rfl | rfl | rfl | rfl | rfl | rfl | rfl | rfl | rfl | rfl | rfl | rfl | rfl | rfl <;> rfl
