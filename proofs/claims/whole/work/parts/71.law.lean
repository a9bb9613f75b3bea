/-! THE CLAIM OUT OF ONE WALK OF THE LAW'S BODY. Your part is whole_start (and what it stands on); all else here is the same for every law, but numbers. -/
def R_law : String := "StayWhereFellLaw"
def lw_P (b : Addr) (xs : List Int32) (args : Array Value) (s : State) : Prop := args = #[.ref b] ∧ s.IntsAt b xs ∧ xs.length ≤ 2048 ∧ (Jvm.Cond.and given_1 narrow_1).before args s = true
def lw_Q (_ : Array Value) (s : State) (o : Outcome) (t : State) : Prop := o = .returned (some (.int 1)) ∧ Framed s o t [] 600000 7302250
def lw_Z (below : List Frame) (a : Array Value) (s : State) : State → Prop := fun t => ∃ o, t.status = .running ∧ Ended t below o ∧ lw_Q a s o t
/-- the law's own end, with 1 on the stack, nothing written that was there before, its room as the claim has it -/
theorem lw_ret {p : Program} {l : Launch} {e : Env} {s : State} {m : MethodId} {below : List Frame} {meth : Method} {c : Code} {b : Nat} (hx : p.tables.exec = Jvm.exec) (hb : c.code = code) (hr : meth.sig.returnType = ret) (hlocks : meth.locks = false) {pc : Nat} {H : Heap} {ls : Array Slot} (hdg : decode code pc = .ok (.ireturn, 1)) : W p l e room_1 s m #[Value.ref b] below meth c H [] 600000 7302250 (lw_Z below #[Value.ref b] s) (F0 m pc ls [.int 1]) := by
  intro T hT X
  obtain ⟨fs, hret, hrun, hended, hW, hframe⟩ := X.leave (v := some (.int 1)) (hlocks := hlocks) (fun h => by rw [hr] at h; cases h)
  have hmeth' : T.vm.method? m = some meth := X.method'
  refine ⟨T.setFrames fs, ?_, .returned (some (.int 1)), hrun, hended, rfl, ⟨_, rfl⟩, hW, hframe⟩
  jvm_step X.here [X.here.top, hx, hb, hdg, hmeth', hr, ret, narrow_b1]
  (try refine ⟨rfl, ?_⟩); (try refine ⟨rfl, ?_⟩)
  first | (intro acts; rw [hret _ acts rfl rfl rfl]) | rw [hret _ _ rfl rfl rfl]
  exact Steps.refl _
/-- what holds at the law's entry: the machine, the code, the tables' words (any of lw_tbl by 'hts w (by decide +kernel)'), the script of L ints xs at the cell b, what the Statement gives of the start (any of its parts by flat_of_before) -/
def lw_At (p : Program) (s : State) (m : MethodId) (meth : Method) (c : Code) (b L : Nat) (xs : Nat → Int32) : Prop :=
  p.tables.exec = Jvm.exec ∧ c.code = code ∧ meth.sig.returnType = ret ∧ c.maxLocals = 4 ∧ s.vm.findClass R_law = some m.cls ∧ (∀ w ∈ lw_tbl, w.before #[Value.ref b] s = true) ∧ va_X b L xs s s.heap ∧ b < s.heap.size ∧ meth.locks = false ∧ (Jvm.Cond.and given_1 narrow_1).before #[Value.ref b] s = true
/-! THE LAW'S LAYER -/
theorem lt_in {w : Cond} (i : Nat) (h : lw_tbl[i]? = some w) : w ∈ lw_tbl := List.mem_of_getElem? h
/-- what holds all along in the law, behind the making of the two objects -/
def LA (p : Program) (s : State) (m : MethodId) (meth : Method) (c : Code) (b L : Nat) (xs : Nat → Int32) (G : va_G) (cA : Nat → ClassId) (A1 A2 : Nat → Nat) (fm : Value) : Prop :=
  lw_At p s m meth c b L xs ∧ va_K G vwCl (ATs cA) s ∧ Apt ΩC A1 ∧ Apt ΩM A2 ∧ (∀ i j, i < 30 → j < 13 → ¬ A1 i = A2 j) ∧ (∀ i, i < 30 → s.heap.size ≤ A1 i) ∧ (∀ j, j < 13 → s.heap.size ≤ A2 j) ∧ Roe A1 fm (fun q => s.heap.size ≤ q) s s.heap ∧ Roe A2 fm (fun q => s.heap.size ≤ q) s s.heap ∧ Nst s
/-- from here the law comes to its end with true; the class's state is s1, the reference's s2 -/
def LWP (l : Launch) (p : Program) (e : Env) (s : State) (m : MethodId) (below : List Frame) (meth : Method) (c : Code) (b : Nat) (G : va_G) (cA : Nat → ClassId) (A1 A2 : Nat → Nat) (pc i : Nat) (S : List Value) (s1 s2 : Sg) : Prop :=
  ∀ (I1 : MemI) (J1 : MemJ) (I2 : MemI) (J2 : MemJ) (H : Heap) (locs : List Loc) (ls : Array Slot), RC s1 I1 J1 → RM s2 I2 J2 → va_P G vwCl (wld cA ΩC A1 I1 J1) H → va_P G vwCl (wld cA ΩM A2 I2 J2) H → va_S (fun q => s.heap.size ≤ q) s.heap H locs → lv_has ls 4 [(0, .ref b), (1, .ref (A1 0)), (2, .ref (A2 0)), (3, .int (nI i))] → W p l e room_1 s m #[Value.ref b] below meth c H locs 600000 7302250 (lw_Z below #[Value.ref b] s) (F0 m pc ls S)
theorem wld_ad {cA : Nat → ClassId} {Ω : Shp} {A : Nat → Nat} {I : MemI} {J : MemJ} {k : Nat} {q : Nat × va_E} (h : (wld cA Ω A I J)[k]? = some q) : k < Ω.1.length ∧ q.1 = A k := by
  have hl : k < (wld cA Ω A I J).length := (List.getElem?_eq_some_iff.mp h).1
  rw [wld_len] at hl
  refine ⟨hl, ?_⟩
  rw [wld_get (List.getElem?_eq_getElem hl)] at h
  cases h
  rfl
theorem aq_d {a : Int32} {s : Sg} {r : Option Value} {I : MemI} {J : MemJ} (h : AQ a s r I J) : r = some (.int a) ∧ RC s I J := by
  obtain ⟨x, rfl, rfl, h⟩ := h
  exact ⟨rfl, h⟩
theorem am_d {a : Int32} {s : Sg} {r : Option Value} {I : MemI} {J : MemJ} (h : AM a s r I J) : r = some (.int a) ∧ RM s I J := by
  obtain ⟨x, rfl, rfl, h⟩ := h
  exact ⟨rfl, h⟩
section LAW
variable {l : Launch} {p : Program} {e : Env} {s : State} {m : MethodId} {below : List Frame} {meth : Method} {c : Code} {b L : Nat} {xs : Nat → Int32} {G : va_G} {cA : Nat → ClassId} {A1 A2 : Nat → Nat} {fm : Value} {pc i : Nat} {S : List Value} {s1 s2 : Sg}
theorem lp_a0 (C0 : LA p s m meth c b L xs G cA A1 A2 fm) (hd : decode code pc = .ok (.aload_n 0, 1)) (k : LWP l p e s m below meth c b G cA A1 A2 (pc + 1) i (.ref b :: S) s1 s2) : LWP l p e s m below meth c b G cA A1 A2 pc i S s1 s2 := by
  intro I1 J1 I2 J2 H locs ls r1 r2 hP1 hP2 hS hl
  exact lv_aload_n C0.1.1 C0.1.2.1 hd rfl (lv_at hl 0 rfl) (k I1 J1 I2 J2 H locs ls r1 r2 hP1 hP2 hS hl)
theorem lp_a1 (C0 : LA p s m meth c b L xs G cA A1 A2 fm) (hd : decode code pc = .ok (.aload_n 1, 1)) (k : LWP l p e s m below meth c b G cA A1 A2 (pc + 1) i (.ref (A1 0) :: S) s1 s2) : LWP l p e s m below meth c b G cA A1 A2 pc i S s1 s2 := by
  intro I1 J1 I2 J2 H locs ls r1 r2 hP1 hP2 hS hl
  exact lv_aload_n C0.1.1 C0.1.2.1 hd rfl (lv_at hl 1 rfl) (k I1 J1 I2 J2 H locs ls r1 r2 hP1 hP2 hS hl)
theorem lp_a2 (C0 : LA p s m meth c b L xs G cA A1 A2 fm) (hd : decode code pc = .ok (.aload_n 2, 1)) (k : LWP l p e s m below meth c b G cA A1 A2 (pc + 1) i (.ref (A2 0) :: S) s1 s2) : LWP l p e s m below meth c b G cA A1 A2 pc i S s1 s2 := by
  intro I1 J1 I2 J2 H locs ls r1 r2 hP1 hP2 hS hl
  exact lv_aload_n C0.1.1 C0.1.2.1 hd rfl (lv_at hl 2 rfl) (k I1 J1 I2 J2 H locs ls r1 r2 hP1 hP2 hS hl)
theorem lp_i3 (C0 : LA p s m meth c b L xs G cA A1 A2 fm) (hd : decode code pc = .ok (.iload_n 3, 1)) (k : LWP l p e s m below meth c b G cA A1 A2 (pc + 1) i (.int (nI i) :: S) s1 s2) : LWP l p e s m below meth c b G cA A1 A2 pc i S s1 s2 := by
  intro I1 J1 I2 J2 H locs ls r1 r2 hP1 hP2 hS hl
  exact lv_iload_n C0.1.1 C0.1.2.1 hd rfl (lv_at hl 3 rfl) (k I1 J1 I2 J2 H locs ls r1 r2 hP1 hP2 hS hl)
theorem lp_ic (C0 : LA p s m meth c b L xs G cA A1 A2 fm) {z : Int} {v : Int32} (hd : decode code pc = .ok (.iconst z, 1)) (hv : Int32.ofInt z = v) (k : LWP l p e s m below meth c b G cA A1 A2 (pc + 1) i (.int v :: S) s1 s2) : LWP l p e s m below meth c b G cA A1 A2 pc i S s1 s2 := by
  intro I1 J1 I2 J2 H locs ls r1 r2 hP1 hP2 hS hl
  exact lv_iconst C0.1.1 C0.1.2.1 hd hv (k I1 J1 I2 J2 H locs ls r1 r2 hP1 hP2 hS hl)
theorem lp_bip (C0 : LA p s m meth c b L xs G cA A1 A2 fm) {z : Int} {v : Int32} (hd : decode code pc = .ok (.bipush z, 2)) (hv : (Int8.ofInt z).toInt32 = v) (k : LWP l p e s m below meth c b G cA A1 A2 (pc + 2) i (.int v :: S) s1 s2) : LWP l p e s m below meth c b G cA A1 A2 pc i S s1 s2 := by
  intro I1 J1 I2 J2 H locs ls r1 r2 hP1 hP2 hS hl
  exact lv_bipush C0.1.1 C0.1.2.1 hd hv (k I1 J1 I2 J2 H locs ls r1 r2 hP1 hP2 hS hl)
theorem lp_iadd (C0 : LA p s m meth c b L xs G cA A1 A2 fm) {x y v : Int32} (hd : decode code pc = .ok (.iadd, 1)) (hv : x + y = v) (k : LWP l p e s m below meth c b G cA A1 A2 (pc + 1) i (.int v :: S) s1 s2) : LWP l p e s m below meth c b G cA A1 A2 pc i (.int y :: .int x :: S) s1 s2 := by
  intro I1 J1 I2 J2 H locs ls r1 r2 hP1 hP2 hS hl
  subst hv
  exact lv_iadd C0.1.1 C0.1.2.1 hd (k I1 J1 I2 J2 H locs ls r1 r2 hP1 hP2 hS hl)
theorem lp_isub (C0 : LA p s m meth c b L xs G cA A1 A2 fm) {x y : Int32} (hd : decode code pc = .ok (.isub, 1)) (k : LWP l p e s m below meth c b G cA A1 A2 (pc + 1) i (.int (x - y) :: S) s1 s2) : LWP l p e s m below meth c b G cA A1 A2 pc i (.int y :: .int x :: S) s1 s2 := by
  intro I1 J1 I2 J2 H locs ls r1 r2 hP1 hP2 hS hl
  exact lv_isub C0.1.1 C0.1.2.1 hd (k I1 J1 I2 J2 H locs ls r1 r2 hP1 hP2 hS hl)
theorem lp_iand (C0 : LA p s m meth c b L xs G cA A1 A2 fm) {x y v : Int32} (hd : decode code pc = .ok (.iand, 1)) (hv : x &&& y = v) (k : LWP l p e s m below meth c b G cA A1 A2 (pc + 1) i (.int v :: S) s1 s2) : LWP l p e s m below meth c b G cA A1 A2 pc i (.int y :: .int x :: S) s1 s2 := by
  intro I1 J1 I2 J2 H locs ls r1 r2 hP1 hP2 hS hl
  subst hv
  exact lv_iand C0.1.1 C0.1.2.1 hd (k I1 J1 I2 J2 H locs ls r1 r2 hP1 hP2 hS hl)
theorem lp_i2l (C0 : LA p s m meth c b L xs G cA A1 A2 fm) {x : Int32} (hd : decode code pc = .ok (.i2l, 1)) (k : LWP l p e s m below meth c b G cA A1 A2 (pc + 1) i (.long x.toInt64 :: S) s1 s2) : LWP l p e s m below meth c b G cA A1 A2 pc i (.int x :: S) s1 s2 := by
  intro I1 J1 I2 J2 H locs ls r1 r2 hP1 hP2 hS hl
  exact lv_i2l C0.1.1 C0.1.2.1 hd rfl (k I1 J1 I2 J2 H locs ls r1 r2 hP1 hP2 hS hl)
theorem lp_lshl (C0 : LA p s m meth c b L xs G cA A1 A2 fm) {x : Int64} {y : Int32} (hd : decode code pc = .ok (.lshl, 1)) (k : LWP l p e s m below meth c b G cA A1 A2 (pc + 1) i (.long (x <<< (y.toInt64 &&& 63)) :: S) s1 s2) : LWP l p e s m below meth c b G cA A1 A2 pc i (.int y :: .long x :: S) s1 s2 := by
  intro I1 J1 I2 J2 H locs ls r1 r2 hP1 hP2 hS hl
  exact lv_lshl C0.1.1 C0.1.2.1 hd rfl (k I1 J1 I2 J2 H locs ls r1 r2 hP1 hP2 hS hl)
theorem lp_land (C0 : LA p s m meth c b L xs G cA A1 A2 fm) {x y : Int64} (hd : decode code pc = .ok (.land, 1)) (k : LWP l p e s m below meth c b G cA A1 A2 (pc + 1) i (.long (x &&& y) :: S) s1 s2) : LWP l p e s m below meth c b G cA A1 A2 pc i (.long y :: .long x :: S) s1 s2 := by
  intro I1 J1 I2 J2 H locs ls r1 r2 hP1 hP2 hS hl
  exact lv_land C0.1.1 C0.1.2.1 hd (k I1 J1 I2 J2 H locs ls r1 r2 hP1 hP2 hS hl)
theorem lp_lor (C0 : LA p s m meth c b L xs G cA A1 A2 fm) {x y v : Int64} (hd : decode code pc = .ok (.lor, 1)) (hv : x ||| y = v) (k : LWP l p e s m below meth c b G cA A1 A2 (pc + 1) i (.long v :: S) s1 s2) : LWP l p e s m below meth c b G cA A1 A2 pc i (.long y :: .long x :: S) s1 s2 := by
  intro I1 J1 I2 J2 H locs ls r1 r2 hP1 hP2 hS hl
  subst hv
  exact lv_lor C0.1.1 C0.1.2.1 hd (k I1 J1 I2 J2 H locs ls r1 r2 hP1 hP2 hS hl)
theorem lp_ldc2 (C0 : LA p s m meth c b L xs G cA A1 A2 fm) {idx : Nat} {v : Int64} (hd : decode code pc = .ok (.ldc2_w idx, 3)) (hc : Cond.constantLong R_law idx v ∈ TB) (k : LWP l p e s m below meth c b G cA A1 A2 (pc + 3) i (.long v :: S) s1 s2) : LWP l p e s m below meth c b G cA A1 A2 pc i S s1 s2 := by
  intro I1 J1 I2 J2 H locs ls r1 r2 hP1 hP2 hS hl
  exact lv_ldc2 C0.1.1 C0.1.2.1 C0.1.2.2.2.2.1 (C0.1.2.2.2.2.2.1 _ (tb_ok hc)) hd (k I1 J1 I2 J2 H locs ls r1 r2 hP1 hP2 hS hl)
theorem lp_goto (C0 : LA p s m meth c b L xs G cA A1 A2 fm) {off : Int} {tgt : Nat} (hd : decode code pc = .ok (.goto off, 3)) (ht : (pc : Int) + off = (tgt : Int)) (k : LWP l p e s m below meth c b G cA A1 A2 tgt i S s1 s2) : LWP l p e s m below meth c b G cA A1 A2 pc i S s1 s2 := by
  intro I1 J1 I2 J2 H locs ls r1 r2 hP1 hP2 hS hl
  exact lv_goto C0.1.1 C0.1.2.1 hd ht (k I1 J1 I2 J2 H locs ls r1 r2 hP1 hP2 hS hl)
theorem lp_alen (C0 : LA p s m meth c b L xs G cA A1 A2 fm) (hd : decode code pc = .ok (.arraylength, 1)) (k : LWP l p e s m below meth c b G cA A1 A2 (pc + 1) i (.int (nI L) :: S) s1 s2) : LWP l p e s m below meth c b G cA A1 A2 pc i (.ref b :: S) s1 s2 := by
  intro I1 J1 I2 J2 H locs ls r1 r2 hP1 hP2 hS hl
  exact va_slen C0.1.1 C0.1.2.1 C0.1.2.2.2.2.2.2.1 C0.1.2.2.2.2.2.2.2.1 (Nat.not_le.mpr C0.1.2.2.2.2.2.2.2.1) hS hd (k I1 J1 I2 J2 H locs ls r1 r2 hP1 hP2 hS hl)
theorem lp_sld (C0 : LA p s m meth c b L xs G cA A1 A2 fm) {j : Nat} (hL : L ≤ 2048) (hj : j < L) (hd : decode code pc = .ok (.iaload, 1)) (k : LWP l p e s m below meth c b G cA A1 A2 (pc + 1) i (.int (xs j) :: S) s1 s2) : LWP l p e s m below meth c b G cA A1 A2 pc i (.int (nI j) :: .ref b :: S) s1 s2 := by
  intro I1 J1 I2 J2 H locs ls r1 r2 hP1 hP2 hS hl
  refine va_sld C0.1.1 C0.1.2.1 C0.1.2.2.2.2.2.2.1 C0.1.2.2.2.2.2.2.2.1 (Nat.not_le.mpr C0.1.2.2.2.2.2.2.2.1) hS (vp_in_nI hj (by omega)) hd ?_
  rw [nI_clamp (by omega)]
  exact k I1 J1 I2 J2 H locs ls r1 r2 hP1 hP2 hS hl
theorem lp_eq (C0 : LA p s m meth c b L xs G cA A1 A2 fm) {x : Int32} {off : Int} {tgt : Nat} (hd : decode code pc = .ok (.if_icmp .eq off, 3)) (ht : (pc : Int) + off = (tgt : Int)) (k : LWP l p e s m below meth c b G cA A1 A2 tgt i S s1 s2) : LWP l p e s m below meth c b G cA A1 A2 pc i (.int x :: .int x :: S) s1 s2 := by
  intro I1 J1 I2 J2 H locs ls r1 r2 hP1 hP2 hS hl
  exact lv_icmp_eq C0.1.1 C0.1.2.1 hd ht (fun _ => k I1 J1 I2 J2 H locs ls r1 r2 hP1 hP2 hS hl) (fun h => absurd rfl h)
theorem lcmp_self (x : Int64) : lg_cmp x x = 0 := by
  unfold lg_cmp
  rw [if_neg (fun h => by have := Int64.lt_iff_toInt_lt.mp h; omega), if_pos rfl]
theorem lp_eqL (C0 : LA p s m meth c b L xs G cA A1 A2 fm) {x : Int64} {off : Int} {tgt : Nat} (hd1 : decode code pc = .ok (.lcmp, 1)) (hd2 : decode code (pc + 1) = .ok (.ifCond .eq off, 3)) (ht : ((pc + 1 : Nat) : Int) + off = (tgt : Int)) (k : LWP l p e s m below meth c b G cA A1 A2 tgt i S s1 s2) : LWP l p e s m below meth c b G cA A1 A2 pc i (.long x :: .long x :: S) s1 s2 := by
  intro I1 J1 I2 J2 H locs ls r1 r2 hP1 hP2 hS hl
  refine W.lcmp C0.1.1 C0.1.2.1 hd1 ?_
  rw [lcmp_self]
  exact lv_if_eq C0.1.1 C0.1.2.1 hd2 ht (fun _ => k I1 J1 I2 J2 H locs ls r1 r2 hP1 hP2 hS hl) (fun h => absurd rfl h)
theorem lp_dia (C0 : LA p s m meth c b L xs G cA A1 A2 fm) {x : Int32} (h1 : decode code pc = .ok (.ifCond .eq 7, 3)) (h2 : decode code (pc + 3) = .ok (.iconst 1, 1)) (h3 : decode code (pc + 3 + 1) = .ok (.goto 4, 3)) (h4 : decode code (pc + 7) = .ok (.iconst 0, 1)) (k : LWP l p e s m below meth c b G cA A1 A2 (pc + 8) i (.int (bI (!decide (x = 0))) :: S) s1 s2) : LWP l p e s m below meth c b G cA A1 A2 pc i (.int x :: S) s1 s2 := by
  intro I1 J1 I2 J2 H locs ls r1 r2 hP1 hP2 hS hl
  have k2 := k I1 J1 I2 J2 H locs ls r1 r2 hP1 hP2 hS hl
  refine lv_if_eq C0.1.1 C0.1.2.1 h1 (tgt := pc + 7) (by omega) (fun hx => ?_) (fun hx => ?_)
  · rw [decide_eq_true hx] at k2
    exact lv_iconst C0.1.1 C0.1.2.1 h4 (v := bI (!true)) (by decide +kernel) k2
  · rw [decide_eq_false hx] at k2
    refine lv_iconst C0.1.1 C0.1.2.1 h2 (v := bI (!false)) (by decide +kernel) ?_
    exact lv_goto C0.1.1 C0.1.2.1 h3 (tgt := pc + 8) (by omega) k2
theorem lp_gt (C0 : LA p s m meth c b L xs G cA A1 A2 fm) {x y : Int32} {off : Int} {tgt : Nat} (hd : decode code pc = .ok (.if_icmp .gt off, 3)) (ht : (pc : Int) + off = (tgt : Int)) (kt : y < x → LWP l p e s m below meth c b G cA A1 A2 tgt i S s1 s2) (kf : ¬ y < x → LWP l p e s m below meth c b G cA A1 A2 (pc + 3) i S s1 s2) : LWP l p e s m below meth c b G cA A1 A2 pc i (.int y :: .int x :: S) s1 s2 := by
  intro I1 J1 I2 J2 H locs ls r1 r2 hP1 hP2 hS hl
  exact lv_icmp_gt C0.1.1 C0.1.2.1 hd ht (fun h => kt h I1 J1 I2 J2 H locs ls r1 r2 hP1 hP2 hS hl) (fun h => kf h I1 J1 I2 J2 H locs ls r1 r2 hP1 hP2 hS hl)
theorem lp_tabOut (C0 : LA p s m meth c b L xs G cA A1 A2 fm) {dflt lo hi : Int} {offs : Array Int} {len : Nat} {x : Int32} {tgt : Nat} (hd : decode code pc = .ok (.tableswitch dflt lo hi offs, len)) (h : x.toInt < lo ∨ hi < x.toInt) (ht : (pc : Int) + dflt = (tgt : Int)) (k : LWP l p e s m below meth c b G cA A1 A2 tgt i S s1 s2) : LWP l p e s m below meth c b G cA A1 A2 pc i (.int x :: S) s1 s2 := by
  intro I1 J1 I2 J2 H locs ls r1 r2 hP1 hP2 hS hl
  exact lv_tableOut C0.1.1 C0.1.2.1 hd h ht (k I1 J1 I2 J2 H locs ls r1 r2 hP1 hP2 hS hl)
theorem lp_tabIn (C0 : LA p s m meth c b L xs G cA A1 A2 fm) {dflt lo hi : Int} {offs : Array Int} {len : Nat} {x : Int32} {off : Int} {tgt : Nat} (hd : decode code pc = .ok (.tableswitch dflt lo hi offs, len)) (h1 : ¬ x.toInt < lo) (h2 : ¬ hi < x.toInt) (ho : offs[(x.toInt - lo).toNat]? = some off) (ht : (pc : Int) + off = (tgt : Int)) (k : LWP l p e s m below meth c b G cA A1 A2 tgt i S s1 s2) : LWP l p e s m below meth c b G cA A1 A2 pc i (.int x :: S) s1 s2 := by
  intro I1 J1 I2 J2 H locs ls r1 r2 hP1 hP2 hS hl
  exact lv_tableIn C0.1.1 C0.1.2.1 hd h1 h2 ho ht (k I1 J1 I2 J2 H locs ls r1 r2 hP1 hP2 hS hl)
theorem lp_inc (C0 : LA p s m meth c b L xs G cA A1 A2 fm) (hd : decode code pc = .ok (.iinc 3 4, 3)) (k : LWP l p e s m below meth c b G cA A1 A2 (pc + 3) (i + 4) S s1 s2) : LWP l p e s m below meth c b G cA A1 A2 pc i S s1 s2 := by
  intro I1 J1 I2 J2 H locs ls r1 r2 hP1 hP2 hS hl
  exact lv_iinc (v := nI (i + 4)) (lv' := [(3, .int (nI (i + 4))), (0, .ref b), (1, .ref (A1 0)), (2, .ref (A2 0))]) C0.1.1 C0.1.2.1 hd hl (k := 3) rfl (nI_add i 4) (by decide) rfl (fun ls' hl' => k I1 J1 I2 J2 H locs ls' r1 r2 hP1 hP2 hS (lv_sub hl' [1, 2, 3, 0] rfl))
theorem lp_end (C0 : LA p s m meth c b L xs G cA A1 A2 fm) : LWP l p e s m below meth c b G cA A1 A2 867 i [] s1 s2 := by
  intro I1 J1 I2 J2 H locs ls r1 r2 hP1 hP2 hS hl
  obtain ⟨⟨hx, hb, hr, hml, hown, hts, hX, hbl, hlocks, hgv⟩, -⟩ := C0
  refine lv_iconst (v := 1) hx hb dL_law_867 (by decide +kernel) ?_
  refine va_forget (fun q hq => hS.2.2 q hq) ?_
  exact lw_ret hx hb hr hlocks dL_law_868
theorem lp_callC (C0 : LA p s m meth c b L xs G cA A1 A2 fm) {idx n : Nat} {as St : List Value} {K' : Mth} {Q' : MemI → MemJ → Pst} {v : Value} {s1' : Sg} (hd : decode code pc = .ok (.invokevirtual idx, 3)) (lk : Cond.methodLink R_law idx K'.1 ∈ TB) (mi : MIn K' n) (hc : K'.1.cls = RX5) (hn : as.length = n) (has : ∀ (A : Nat → Nat) (fm : Value), as.map (cv A fm) = as) (hv : ∀ (A : Nat → Nat) (fm : Value), cv A fm v = v) (hst : St = as.reverse ++ .ref (A1 0) :: S) (hw : (S.map fun v => v.category).sum ≤ 8) (hC : ∀ (I : MemI) (J : MemJ), RC s1 I J → CALL ΩC 12 K' (.ref 0 :: as) I J (Q' I J)) (hQ : ∀ (I : MemI) (J : MemJ), RC s1 I J → ∀ (r : Option Value) (I' : MemI) (J' : MemJ), Q' I J r I' J' → r = some v ∧ RC s1' I' J') (kk : LWP l p e s m below meth c b G cA A1 A2 (pc + 3) i (v :: S) s1' s2) : LWP l p e s m below meth c b G cA A1 A2 pc i St s1 s2 := by
  intro I1 J1 I2 J2 H locs ls r1 r2 hP1 hP2 hS hl
  subst hst
  obtain ⟨⟨hx, hb, hr, hml, hown, hts0, hX, hbl, hlocks, hgv⟩, hK, hAp1, hAp2, hdis, hg1, hg2, hR1, hR2, hN⟩ := id C0
  have hts : ∀ w ∈ TB, w.before #[Value.ref b] s = true := fun w hw => hts0 w (tb_ok hw)
  have hAS : ∀ q, AS ΩC A1 H.size q → s.heap.size ≤ q := fun q hq => hq.elim (fun ⟨i, hi, e⟩ => by rw [e]; exact hg1 i hi) (fun h => Nat.le_trans hS.1 h)
  have hrecv : ∃ cellB : Cell, H[A1 0]? = some cellB ∧ cellB.vm.isStatics = false ∧ s.vm.findClass K'.1.cls = some cellB.cls := by
    rw [hc]
    exact va_recv hK hP1 (cl_ok 5 (by decide)) (wld_get (show ΩC.1[0]? = some (0, 5, 0) from rfl))
  have hpre : ∀ U : State, U.heap = H → s.WarmedH U.vm → PCn ΩC G cA A1 fm H.size (.ref 0 :: as) I1 J1 (Value.ref (A1 0) :: as).toArray U := fun U hU hW => ⟨by rw [List.map_cons, has, cv_ref (i := 0) rfl], by rw [hU], by rw [hU]; exact hP1, va_K.moved hW.alike hK, hAp1, by rw [hU]; exact hR1.go hW hS.2.1 hAS, hN.warm hW⟩
  have hrm : (rmD 12).frames + 1 ≤ room_1.frames ∧ 8 + (K'.2.2.1 + 11) + (rmD 12).locals ≤ room_1.locals := by
    have := mi.1.2.2.2
    refine ⟨Nat.le_of_ble_eq_true rfl, ?_⟩
    show 8 + (K'.2.2.1 + 11) + 50 * 12 ≤ 84000
    omega
  have run : va_Run p l e room_1 s m #[Value.ref b] below meth c H locs 600000 7302250 0 0 (F0 m pc ls (as.reverse ++ .ref (A1 0) :: S)) S (QCn ΩC G cA A1 fm (Q' I1 J1) (Value.ref (A1 0) :: as).toArray) (AS ΩC A1 H.size) :=
    va_runV (C := K'.1.cls) (As := as) ⟨hx, hb, hml, hown, hts⟩ (hC I1 J1 r1 l G cA A1 fm H.size)
        (cwV n hts (C := K'.1.cls) (tb_gi (fun w hw => by
          rcases List.mem_append.mp hw with h | h
          · simp only [List.mem_cons, List.not_mem_nil, or_false] at h
            rcases h with rfl | rfl | rfl | rfl
            · exact lk
            · exact mi.2.1
            · exact mi.2.2
            · exact mi.1.2.2.1
          · exact tb_ws mi.1 w h)) rfl rfl rfl ⟨rfl, mi.1.1⟩ hrm) ⟨pc_blind, hrecv, hpre⟩ rfl hn hl.1 rfl (lv_room hw) hd ⟨Nat.le_of_ble_eq_true rfl, Nat.le_of_ble_eq_true rfl⟩
  refine x_callA hS hAS run (fun r I' J' H1 locs1 hq hP3 hS3 hz hk => ?_)
  obtain ⟨rfl, g⟩ := hQ I1 J1 r1 r I' J' hq
  have hP4 : va_P G vwCl (wld cA ΩM A2 I2 J2) H1 := hP2.kept (fun k q hq => hk q.1 (hP2 k q hq).lt (fun z => by
    obtain ⟨h1, h2⟩ := wld_ad hq
    rcases z with z | z
    · exact (fun ⟨y, hy, e1⟩ => hdis y k hy h1 (e1.symm.trans h2)) z
    · exact absurd (hP2 k q hq).lt (Nat.not_lt.mpr z)))
  have h2 := kk I' J' I2 J2 H1 locs1 ls g r2 hP3 hP4 hS3 hl
  have e1 : ((some v).map (cv A1 fm)).toList ++ S = v :: S := by simp [hv]
  rw [e1]
  exact h2
theorem lp_callM (C0 : LA p s m meth c b L xs G cA A1 A2 fm) {idx n : Nat} {as St : List Value} {K' : Mth} {Q' : MemI → MemJ → Pst} {v : Value} {s1' : Sg} (hd : decode code pc = .ok (.invokevirtual idx, 3)) (lk : Cond.methodLink R_law idx K'.1 ∈ TB) (mi : MIn K' n) (hc : K'.1.cls = RX6) (hn : as.length = n) (has : ∀ (A : Nat → Nat) (fm : Value), as.map (cv A fm) = as) (hv : ∀ (A : Nat → Nat) (fm : Value), cv A fm v = v) (hst : St = as.reverse ++ .ref (A2 0) :: S) (hw : (S.map fun v => v.category).sum ≤ 8) (hC : ∀ (I : MemI) (J : MemJ), RM s2 I J → CALL ΩM 12 K' (.ref 0 :: as) I J (Q' I J)) (hQ : ∀ (I : MemI) (J : MemJ), RM s2 I J → ∀ (r : Option Value) (I' : MemI) (J' : MemJ), Q' I J r I' J' → r = some v ∧ RM s1' I' J') (kk : LWP l p e s m below meth c b G cA A1 A2 (pc + 3) i (v :: S) s1 s1') : LWP l p e s m below meth c b G cA A1 A2 pc i St s1 s2 := by
  intro I1 J1 I2 J2 H locs ls r1 r2 hP1 hP2 hS hl
  subst hst
  obtain ⟨⟨hx, hb, hr, hml, hown, hts0, hX, hbl, hlocks, hgv⟩, hK, hAp1, hAp2, hdis, hg1, hg2, hR1, hR2, hN⟩ := id C0
  have hts : ∀ w ∈ TB, w.before #[Value.ref b] s = true := fun w hw => hts0 w (tb_ok hw)
  have hAS : ∀ q, AS ΩM A2 H.size q → s.heap.size ≤ q := fun q hq => hq.elim (fun ⟨i, hi, e⟩ => by rw [e]; exact hg2 i hi) (fun h => Nat.le_trans hS.1 h)
  have hrecv : ∃ cellB : Cell, H[A2 0]? = some cellB ∧ cellB.vm.isStatics = false ∧ s.vm.findClass K'.1.cls = some cellB.cls := by
    rw [hc]
    exact va_recv hK hP2 (cl_ok 6 (by decide)) (wld_get (show ΩM.1[0]? = some (0, 6, 0) from rfl))
  have hpre : ∀ U : State, U.heap = H → s.WarmedH U.vm → PCn ΩM G cA A2 fm H.size (.ref 0 :: as) I2 J2 (Value.ref (A2 0) :: as).toArray U := fun U hU hW => ⟨by rw [List.map_cons, has, cv_ref (i := 0) rfl], by rw [hU], by rw [hU]; exact hP2, va_K.moved hW.alike hK, hAp2, by rw [hU]; exact hR2.go hW hS.2.1 hAS, hN.warm hW⟩
  have hrm : (rmD 12).frames + 1 ≤ room_1.frames ∧ 8 + (K'.2.2.1 + 11) + (rmD 12).locals ≤ room_1.locals := by
    have := mi.1.2.2.2
    refine ⟨Nat.le_of_ble_eq_true rfl, ?_⟩
    show 8 + (K'.2.2.1 + 11) + 50 * 12 ≤ 84000
    omega
  have run : va_Run p l e room_1 s m #[Value.ref b] below meth c H locs 600000 7302250 0 0 (F0 m pc ls (as.reverse ++ .ref (A2 0) :: S)) S (QCn ΩM G cA A2 fm (Q' I2 J2) (Value.ref (A2 0) :: as).toArray) (AS ΩM A2 H.size) :=
    va_runV (C := K'.1.cls) (As := as) ⟨hx, hb, hml, hown, hts⟩ (hC I2 J2 r2 l G cA A2 fm H.size)
        (cwV n hts (C := K'.1.cls) (tb_gi (fun w hw => by
          rcases List.mem_append.mp hw with h | h
          · simp only [List.mem_cons, List.not_mem_nil, or_false] at h
            rcases h with rfl | rfl | rfl | rfl
            · exact lk
            · exact mi.2.1
            · exact mi.2.2
            · exact mi.1.2.2.1
          · exact tb_ws mi.1 w h)) rfl rfl rfl ⟨rfl, mi.1.1⟩ hrm) ⟨pc_blind, hrecv, hpre⟩ rfl hn hl.1 rfl (lv_room hw) hd ⟨Nat.le_of_ble_eq_true rfl, Nat.le_of_ble_eq_true rfl⟩
  refine x_callA hS hAS run (fun r I' J' H1 locs1 hq hP3 hS3 hz hk => ?_)
  obtain ⟨rfl, g⟩ := hQ I2 J2 r2 r I' J' hq
  have hP4 : va_P G vwCl (wld cA ΩC A1 I1 J1) H1 := hP1.kept (fun k q hq => hk q.1 (hP1 k q hq).lt (fun z => by
    obtain ⟨h1, h2⟩ := wld_ad hq
    rcases z with z | z
    · exact (fun ⟨y, hy, e1⟩ => hdis k y h1 hy (h2.symm.trans e1)) z
    · exact absurd (hP1 k q hq).lt (Nat.not_lt.mpr z)))
  have h2 := kk I1 J1 I' J' H1 locs1 ls r1 g hP4 hP3 hS3 hl
  have e1 : ((some v).map (cv A2 fm)).toList ++ S = v :: S := by simp [hv]
  rw [e1]
  exact h2
end LAW
