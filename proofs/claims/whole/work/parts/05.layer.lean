/-! THE LAYER: a method's activation told purely. Refs are places in a static shape; all reference fields of the system are final. -/
abbrev MemI : Type := Nat → Nat → Int32
abbrev MemJ : Type := Nat → Nat → Int64
abbrev Shp : Type := List (Nat × Nat × Nat) × (Nat → Nat → Option Nat)
abbrev Mth : Type := MethodName × ByteArray × Nat × Option FieldType
abbrev Pst : Type := Option Value → MemI → MemJ → Prop
abbrev Lcs : Type := List (Nat × Value)
def TB : List Cond := lw_tbl.filter goodWord
theorem tb_in {w : Cond} (i : Nat) (h : lw_tbl[i]? = some w ∧ goodWord w = true) : w ∈ TB := List.mem_filter.mpr ⟨List.mem_of_getElem? h.1, h.2⟩
theorem tb_ok {w : Cond} (h : w ∈ TB) : w ∈ lw_tbl := (List.mem_filter.mp h).1
theorem tb_good {w : Cond} (h : w ∈ TB) : goodWord w = true := (List.mem_filter.mp h).2
def uI (I : MemI) (a k : Nat) (v : Int32) : MemI := fun b j => if b = a ∧ j = k then v else I b j
def uJ (J : MemJ) (a k : Nat) (v : Int64) : MemJ := fun b j => if b = a ∧ j = k then v else J b j
def cTb (ci : Nat) : u_T := match ci with
  | 0 => TX0 | 1 => TX1 | 2 => TX2 | 3 => TX3 | 4 => TX4 | 5 => TX5 | _ => TX6
def cNm (ci : Nat) : String := match ci with
  | 0 => RX0 | 1 => RX1 | 2 => RX2 | 3 => RX3 | 4 => RX4 | 5 => RX5 | _ => RX6
def cTy (ci : Nat) : Nat → FieldType := match ci with
  | 0 => tyX0 | 1 => tyX1 | 2 => tyX2 | 3 => tyX3 | 4 => tyX4 | 5 => tyX5 | _ => tyX6
def cNf (ci : Nat) : Nat := match ci with
  | 0 => 9 | 1 => 3 | 2 => 11 | 3 => 4 | 4 => 2 | 5 => 8 | _ => 19
theorem cl_ok : ∀ ci, ci < 7 → vwCl[ci]? = some (cNm ci, cTb ci, cNf ci) := by
  intro ci h
  match ci, h with
  | 0, _ => rfl
  | 1, _ => rfl
  | 2, _ => rfl
  | 3, _ => rfl
  | 4, _ => rfl
  | 5, _ => rfl
  | 6, _ => rfl
  | k + 7, h => omega
theorem cl_ty : ∀ ci, ci < 7 → ∀ k, k < cNf ci → parseFieldDescriptor ((cTb ci) k).2.2.1 = some (cTy ci k) := by
  intro ci h
  match ci, h with
  | 0, _ => exact tyX0_ok
  | 1, _ => exact tyX1_ok
  | 2, _ => exact tyX2_ok
  | 3, _ => exact tyX3_ok
  | 4, _ => exact tyX4_ok
  | 5, _ => exact tyX5_ok
  | 6, _ => exact tyX6_ok
  | k + 7, h => omega
theorem cl_nm : ∀ ci, ci < 7 → ∀ a, a < cNf ci → ∀ b, b < cNf ci → a ≠ b → ((cTb ci) a).2.1 ≠ ((cTb ci) b).2.1 := by
  intro ci h
  match ci, h with
  | 0, _ => exact nmX0
  | 1, _ => exact nmX1
  | 2, _ => exact nmX2
  | 3, _ => exact nmX3
  | 4, _ => exact nmX4
  | 5, _ => exact nmX5
  | 6, _ => exact nmX6
  | k + 7, h => omega
theorem in_at {ws : List Cond} (ps : List Nat) (h : ws = ps.filterMap (fun i => lw_tbl[i]?) ∧ ws.all goodWord = true) : ∀ w ∈ ws, w ∈ TB := by
  intro w hw
  have h2 := List.all_eq_true.mp h.2 w hw
  rw [h.1] at hw
  obtain ⟨i, -, hi⟩ := List.mem_filterMap.mp hw
  exact tb_in i ⟨hi, h2⟩
theorem inq0 : ∀ w ∈ u_ws RX0 TX0 9, w ∈ TB := in_at [105, 107, 109, 111, 113, 115, 117, 119, 121] (by decide +kernel)
theorem inq1 : ∀ w ∈ u_ws RX1 TX1 3, w ∈ TB := in_at [206, 208, 210] (by decide +kernel)
theorem inq2 : ∀ w ∈ u_ws RX2 TX2 11, w ∈ TB := in_at [153, 155, 157, 159, 161, 163, 165, 167, 169, 171, 173] (by decide +kernel)
theorem inq3 : ∀ w ∈ u_ws RX3 TX3 4, w ∈ TB := in_at [192, 194, 196, 198] (by decide +kernel)
theorem inq4 : ∀ w ∈ u_ws RX4 TX4 2, w ∈ TB := in_at [79, 81] (by decide +kernel)
theorem inq5 : ∀ w ∈ u_ws RX5 TX5 8, w ∈ TB := in_at [256, 258, 260, 262, 264, 266, 268, 270] (by decide +kernel)
theorem inq6 : ∀ w ∈ u_ws RX6 TX6 19, w ∈ TB := in_at [809, 811, 813, 815, 817, 819, 821, 823, 825, 827, 829, 831, 833, 835, 837, 839, 841, 843, 845] (by decide +kernel)
theorem cl_in : ∀ ci, ci < 7 → ∀ w ∈ u_ws (cNm ci) (cTb ci) (cNf ci), w ∈ TB := by
  intro ci h
  match ci, h with
  | 0, _ => exact inq0
  | 1, _ => exact inq1
  | 2, _ => exact inq2
  | 3, _ => exact inq3
  | 4, _ => exact inq4
  | 5, _ => exact inq5
  | 6, _ => exact inq6
  | k + 7, h => omega
/-- a field's value -/
def fvl (Ω : Shp) (A : Nat → Nat) (I : MemI) (J : MemJ) (ci i k : Nat) : Value := match cTy ci k with
  | .long => .long (J i k)
  | .object _ => va_rf ((Ω.2 i k).map A)
  | .array _ => va_rf ((Ω.2 i k).map A)
  | _ => .int (I i k)
/-- a cell: an object of a class of ours (0, class, _), an array (1, kind, length); kinds 0 int, 1 long, 2 byte, 3 boolean -/
def cel (cA : Nat → ClassId) (Ω : Shp) (A : Nat → Nat) (I : MemI) (J : MemJ) (i : Nat) (q : Nat × Nat × Nat) : va_E := match q with
  | (0, ci, _) => .inr (ci, (List.range (cNf ci)).map (fun k => fvl Ω A I J ci i k))
  | (_, 1, n) => .inl (cA 1, n, .inr (.inl (J i)))
  | (_, t, n) => .inl (cA t, n, .inl (I i))
def wld (cA : Nat → ClassId) (Ω : Shp) (A : Nat → Nat) (I : MemI) (J : MemJ) : va_W := Ω.1.mapIdx (fun i q => (A i, cel cA Ω A I J i q))
theorem wld_get {cA : Nat → ClassId} {Ω : Shp} {A : Nat → Nat} {I : MemI} {J : MemJ} {a : Nat} {q : Nat × Nat × Nat} (h : Ω.1[a]? = some q) : (wld cA Ω A I J)[a]? = some (A a, cel cA Ω A I J a q) := by
  simp [wld, h]
theorem wld_len {cA : Nat → ClassId} {Ω : Shp} {A : Nat → Nat} {I : MemI} {J : MemJ} : (wld cA Ω A I J).length = Ω.1.length := by
  simp [wld]
theorem fvl_ne {Ω : Shp} {A : Nat → Nat} {I : MemI} {J : MemJ} {ci i k a f : Nat} {x : Int32} (h : i ≠ a) : fvl Ω A (uI I a f x) J ci i k = fvl Ω A I J ci i k := by
  unfold fvl
  split <;> simp [uI, h]
theorem fvl_neJ {Ω : Shp} {A : Nat → Nat} {I : MemI} {J : MemJ} {ci i k a f : Nat} {x : Int64} (h : i ≠ a) : fvl Ω A I (uJ J a f x) ci i k = fvl Ω A I J ci i k := by
  unfold fvl
  split <;> simp [uJ, h]
theorem row_ne {I : MemI} {i a f : Nat} {x : Int32} (h : i ≠ a) : uI I a f x i = I i := by
  funext j; simp [uI, h]
theorem row_neJ {J : MemJ} {i a f : Nat} {x : Int64} (h : i ≠ a) : uJ J a f x i = J i := by
  funext j; simp [uJ, h]
theorem cel_ne {cA : Nat → ClassId} {Ω : Shp} {A : Nat → Nat} {I : MemI} {J : MemJ} {i a f : Nat} {x : Int32} {q : Nat × Nat × Nat} (h : i ≠ a) : cel cA Ω A (uI I a f x) J i q = cel cA Ω A I J i q := by
  unfold cel
  split
  · simp only [fvl_ne h]
  · rfl
  · rw [row_ne h]
theorem cel_neJ {cA : Nat → ClassId} {Ω : Shp} {A : Nat → Nat} {I : MemI} {J : MemJ} {i a f : Nat} {x : Int64} {q : Nat × Nat × Nat} (h : i ≠ a) : cel cA Ω A I (uJ J a f x) i q = cel cA Ω A I J i q := by
  unfold cel
  split
  · simp only [fvl_neJ h]
  · rw [row_neJ h]
  · rfl
theorem wld_set {cA : Nat → ClassId} {Ω : Shp} {A : Nat → Nat} {I I' : MemI} {J J' : MemJ} {a : Nat} {q : Nat × Nat × Nat} (h : Ω.1[a]? = some q) (hne : ∀ i q', i ≠ a → cel cA Ω A I' J' i q' = cel cA Ω A I J i q') {e : va_E} (he : cel cA Ω A I' J' a q = e) : (wld cA Ω A I J).set a (A a, e) = wld cA Ω A I' J' := by
  apply List.ext_getElem?
  intro j
  by_cases hj : j = a
  · subst hj
    have hl : j < (wld cA Ω A I J).length := by rw [wld_len]; exact (List.getElem?_eq_some_iff.mp h).1
    rw [List.getElem?_set_self hl, wld_get h, he]
  · rw [List.getElem?_set_ne (Ne.symm hj)]
    cases hq : Ω.1[j]? with
    | none => simp [wld, hq]
    | some q' => rw [wld_get hq, wld_get hq, hne j q' hj]
/-- which cells may be written -/
def AS (Ω : Shp) (A : Nat → Nat) (sz : Nat) : Nat → Prop := fun q => (∃ i, i < Ω.1.length ∧ q = A i) ∨ sz ≤ q
def Apt (Ω : Shp) (A : Nat → Nat) : Prop := ∀ i j, i < Ω.1.length → j < Ω.1.length → A i = A j → i = j
theorem Apt.D {Ω : Shp} {A : Nat → Nat} (h : Apt Ω A) {cA : Nat → ClassId} {I : MemI} {J : MemJ} {sz : Nat} : va_D (AS Ω A sz) (wld cA Ω A I J) := by
  have key : ∀ (k : Nat) (q : Nat × va_E), (wld cA Ω A I J)[k]? = some q → k < Ω.1.length ∧ q.1 = A k := by
    intro k q hk
    have hl : k < (wld cA Ω A I J).length := (List.getElem?_eq_some_iff.mp hk).1
    rw [wld_len] at hl
    refine ⟨hl, ?_⟩
    rw [wld_get (List.getElem?_eq_getElem hl)] at hk
    cases hk
    rfl
  refine ⟨fun i j p q hi hj he => ?_, fun k q hk => ?_⟩
  · obtain ⟨h1, h2⟩ := key i p hi
    obtain ⟨h3, h4⟩ := key j q hj
    exact h i j h1 h3 (by rw [← h2, ← h4]; exact he)
  · obtain ⟨h1, h2⟩ := key k q hk
    exact Or.inl ⟨k, h1, h2⟩
def ATs (cA : Nat → ClassId) : List (ClassId × FieldType) := [(cA 0, .int), (cA 1, .long), (cA 2, .byte), (cA 3, .boolean)]
/-- values, by the addresses -/
def cv (A : Nat → Nat) (fm : Value) (v : Value) : Value := match v with
  | .ref i => if i = 1010 then fm else .ref (A i)
  | v => v
def cvl (A : Nat → Nat) (fm : Value) (q : Nat × Value) : Nat × Value := (q.1, cv A fm q.2)
/-- words of nest mates -/
def nestF : List (String × Nat × String × String × String × String) := [("StayWhereFell", 62, "StayWhereFell$Text", "length", "I", "StayWhereFell"), ("StayWhereFell", 225, "StayWhereFell$Field", "width", "I", "StayWhereFell"), ("StayWhereFell", 227, "StayWhereFell$Field", "height", "I", "StayWhereFell"), ("StayWhereFell", 146, "StayWhereFell$Field", "last", "I", "StayWhereFell"), ("StayWhereFell", 86, "StayWhereFell$Field", "cells", "I", "StayWhereFell"), ("StayWhereFell$Place", 99, "StayWhereFell$Field", "cells", "I", "StayWhereFell"), ("StayWhereFell", 252, "StayWhereFell$Place", "under", "LStayWhereFell$Place;", "StayWhereFell"), ("StayWhereFell$Shelf", 29, "StayWhereFell$Place", "signs", "J", "StayWhereFell"), ("StayWhereFell$Shelf", 34, "StayWhereFell$Place", "times", "J", "StayWhereFell"), ("StayWhereFell", 195, "StayWhereFell$Place", "white", "I", "StayWhereFell"), ("StayWhereFell", 198, "StayWhereFell$Place", "black", "I", "StayWhereFell"), ("StayWhereFell", 115, "StayWhereFell$Place", "dead", "I", "StayWhereFell"), ("StayWhereFell", 173, "StayWhereFell$Place", "kings", "I", "StayWhereFell"), ("StayWhereFell$Shelf", 36, "StayWhereFell$Place", "on", "I", "StayWhereFell"), ("StayWhereFell", 100, "StayWhereFell$Place", "on", "I", "StayWhereFell"), ("StayWhereFell$Shelf", 40, "StayWhereFell$Place", "lost", "I", "StayWhereFell"), ("StayWhereFell", 229, "StayWhereFell$Place", "lost", "I", "StayWhereFell"), ("StayWhereFell", 154, "StayWhereFell$Past", "size", "I", "StayWhereFell")]
def nestM : List (String × Nat × MethodName × String) := [("StayWhereFell", 11, yX4_init, "StayWhereFell"), ("StayWhereFell", 18, yX0_init, "StayWhereFell"), ("StayWhereFell", 40, yX1_init, "StayWhereFell"), ("StayWhereFell$Field", 51, yX5_at, "StayWhereFell"), ("StayWhereFell$Field", 88, yX5_lay, "StayWhereFell"), ("StayWhereFell$Place", 60, yX5_sideOf, "StayWhereFell"), ("StayWhereFell$Place", 72, yX5_kindOf, "StayWhereFell"), ("StayWhereFell$Field", 47, yX5_kindOf, "StayWhereFell"), ("StayWhereFell$Field", 74, yX5_has, "StayWhereFell"), ("StayWhereFell$Field", 59, yX5_sideOf, "StayWhereFell"), ("StayWhereFell$Place", 102, yX5_has, "StayWhereFell"), ("StayWhereFell$Place", 121, yX5_lay, "StayWhereFell"), ("StayWhereFell$Place", 117, yX5_at, "StayWhereFell"), ("StayWhereFell$Field", 62, yX5_lowest, "StayWhereFell")]
def Nst (U : State) : Prop := (∀ q ∈ nestF, va_Nw (.fieldLinkNest q.1 q.2.1 q.2.2.1 q.2.2.2.1 q.2.2.2.2.1 q.2.2.2.2.2) U) ∧ ∀ q ∈ nestM, va_Nw (.methodLinkNest q.1 q.2.1 q.2.2.1 q.2.2.2) U
theorem Nst.warm {s U : State} (hW : s.WarmedH U.vm) (h : Nst s) : Nst U := ⟨fun q hq => va_Nw.warmF hW (h.1 q hq), fun q hq => va_Nw.warmM hW (h.2 q hq)⟩
theorem Nst.same {u U : State} (hv : u.vm = U.vm) (h : Nst u) : Nst U := ⟨fun q hq => va_Nw.same rfl hv (h.1 q hq), fun q hq => va_Nw.same rfl hv (h.2 q hq)⟩
/-- read-only cells: static arrays, the two String constants with their bytes -/
def roS : List (String × Nat) := [("ACROSS", 1000), ("DOWN", 1001), ("LEAP_ACROSS", 1002), ("LEAP_DOWN", 1003)]
def roT (i : Nat) : List Int32 := match i with
  | 1000 => [0, 1, 1, 1, 0, -1, -1, -1]
  | 1001 => [-1, -1, 0, 1, 1, 1, 0, -1]
  | 1002 => [1, 2, 2, 1, -1, -2, -2, -1]
  | 1003 => [-2, -1, 1, 2, 2, 1, -1, -2]
  | _ => [46, 35, 75, 82, 66, 78, 80, 107, 114, 98, 110, 112]
def Roe (A : Nat → Nat) (fm : Value) (B : Nat → Prop) (U : State) (H : Heap) : Prop :=
  ((∀ q ∈ roS, va_Z RX0 q.1 "[I" (.ref (A q.2)) B U H) ∧ ∀ i, 1000 ≤ i → i < 1004 → va_T .int (A i) 8 (fun j => .int ((roT i).getD j 0)) B U H) ∧
  (∀ i, 1004 ≤ i → i < 1006 → va_O RJ0 (A i) B U H ∧ va_OF RJ0 "coder" "B" (.int 0) (A i) B U H ∧ va_OF RJ0 "value" "[B" (.ref (A (i + 2))) (A i) B U H ∧ va_T .byte (A (i + 2)) 12 (fun j => .int ((roT (i + 2)).getD j 0)) B U H) ∧
  (vk_R RX5 268 ".#KRBNPkrbnp" (A 1004) U ∧ vk_R RX4 34 ".#KRBNPkrbnp" (A 1005) U) ∧
  va_Z RJ0 "COMPACT_STRINGS" "Z" (.int 1) B U H ∧ va_Z "jdk/internal/util/Preconditions" "SIOOBE_FORMATTER" "Ljava/util/function/BiFunction;" fm B U H ∧ fm.category = 1
theorem Roe.go {A : Nat → Nat} {fm : Value} {B B1 : Nat → Prop} {s U : State} {H : Heap} (h : Roe A fm B s s.heap) (hW : s.WarmedH U.vm) (hk : ∀ a : Nat, a < s.heap.size → ¬ B a → H[a]? = s.heap[a]?) (hB : ∀ q, B1 q → B q) : Roe A fm B1 U H := by
  obtain ⟨⟨h1, h2⟩, h3, ⟨h4, h5⟩, h6, h7, h8⟩ := h
  exact ⟨⟨fun q hq => (((h1 q hq).moved hW.alike).kept hk).narrow hB, fun i a b => (((h2 i a b).moved hW.alike).kept hk).narrow hB⟩,
    fun i a b => ⟨(((h3 i a b).1.moved hW.alike).kept hk).narrow hB, (((h3 i a b).2.1.moved hW.alike).kept hk).narrow hB, (((h3 i a b).2.2.1.moved hW.alike).kept hk).narrow hB, (((h3 i a b).2.2.2.moved hW.alike).kept hk).narrow hB⟩,
    ⟨h4.warm hW, h5.warm hW⟩, ((h6.moved hW.alike).kept hk).narrow hB, ((h7.moved hW.alike).kept hk).narrow hB, h8⟩
theorem Roe.same {A : Nat → Nat} {fm : Value} {B : Nat → Prop} {u U : State} {H : Heap} (h : Roe A fm B u H) (hv : u.vm = U.vm) : Roe A fm B U H := by
  obtain ⟨⟨h1, h2⟩, h3, ⟨h4, h5⟩, h6, h7, h8⟩ := h
  have ha : u.vm.Alike U.vm := hv ▸ Vm.Alike.refl _
  exact ⟨⟨fun q hq => (h1 q hq).moved ha, fun i a b => (h2 i a b).moved ha⟩,
    fun i a b => ⟨(h3 i a b).1.moved ha, (h3 i a b).2.1.moved ha, (h3 i a b).2.2.1.moved ha, (h3 i a b).2.2.2.moved ha⟩,
    ⟨h4.same hv.symm, h5.same hv.symm⟩, h6.moved ha, h7.moved ha, h8⟩
def rmD (d : Nat) : Room := { frames := d, cells := 0, slots := 0, locals := 50 * d }
def wsK (K : Mth) : List Cond := .code K.1 K.2.1 K.2.2.1 K.2.2.2 :: TB
/-- what holds through an activation -/
def Act (Ω : Shp) (K : Mth) (G : va_G) (cA : Nat → ClassId) (A : Nat → Nat) (fm : Value) (p : Program) (s : State) (m : MethodId) (args : Array Value) (meth : Method) (c : Code) : Prop :=
  p.tables.exec = Jvm.exec ∧ c.code = K.2.1 ∧ meth.sig.returnType = K.2.2.2 ∧ meth.locks = false ∧ c.maxLocals = K.2.2.1 ∧ s.vm.findClass K.1.cls = some m.cls ∧ (∀ w ∈ TB, w.before args s = true) ∧ va_K G vwCl (ATs cA) s ∧ Apt Ω A ∧ Roe A fm (AS Ω A s.heap.size) s s.heap ∧ Nst s
def PCn (Ω : Shp) (G : va_G) (cA : Nat → ClassId) (A : Nat → Nat) (fm : Value) (sz : Nat) (as : List Value) (I : MemI) (J : MemJ) : Array Value → State → Prop :=
  va_Pc (as.map (cv A fm)) (fun U => U.heap.size = sz ∧ va_P G vwCl (wld cA Ω A I J) U.heap ∧ va_K G vwCl (ATs cA) U ∧ Apt Ω A ∧ Roe A fm (AS Ω A sz) U U.heap ∧ Nst U)
def QCn (Ω : Shp) (G : va_G) (cA : Nat → ClassId) (A : Nat → Nat) (fm : Value) (Q : Pst) : Array Value → State → Outcome → State → Prop := fun _ st o t =>
  (∃ (r : Option Value) (I' : MemI) (J' : MemJ), o = .returned (r.map (cv A fm)) ∧ Q r I' J' ∧ va_P G vwCl (wld cA Ω A I' J') t.heap) ∧ va_F (AS Ω A st.heap.size) st t
/-- a method's contract -/
def CALL (Ω : Shp) (d : Nat) (K : Mth) (as : List Value) (I : MemI) (J : MemJ) (Q : Pst) : Prop :=
  ∀ (l : Launch) (G : va_G) (cA : Nat → ClassId) (A : Nat → Nat) (fm : Value) (sz : Nat), Met l K.1 (wsK K) (rmD d) (PCn Ω G cA A fm sz as I J) (QCn Ω G cA A fm Q) 0 0 (AS Ω A sz)
/-- from here the machine comes to an answer with Q -/
def WP (Ω : Shp) (d : Nat) (K : Mth) (pc : Nat) (L : Lcs) (S : List Value) (I : MemI) (J : MemJ) (Q : Pst) : Prop :=
  ∀ (l : Launch) (G : va_G) (cA : Nat → ClassId) (A : Nat → Nat) (fm : Value) (p : Program) (e : Env) (s : State) (m : MethodId) (args : Array Value) (below : List Frame) (meth : Method) (c : Code) (H : Heap) (locs : List Loc) (ls : Array Slot),
    Act Ω K G cA A fm p s m args meth c → va_P G vwCl (wld cA Ω A I J) H → va_S (AS Ω A s.heap.size) s.heap H locs → lv_has ls K.2.2.1 (L.map (cvl A fm)) →
    W p l e (rmD d) s m args below meth c H locs 0 0 (MQ below (QCn Ω G cA A fm Q) args s 0 0 (AS Ω A s.heap.size)) (F0 m pc ls (S.map (cv A fm)))
theorem cv_cat {A : Nat → Nat} {fm : Value} (h : fm.category = 1) (v : Value) : (cv A fm v).category = v.category := by
  cases v <;> simp [cv, Value.category]
  rename_i i
  by_cases hi : i = 1010
  · simp [hi]
    cases fm <;> simp_all [Value.category]
  · simp [hi]
theorem map_cat {A : Nat → Nat} {fm : Value} (h : fm.category = 1) (S : List Value) : ((S.map (cv A fm)).map fun v => v.category) = S.map fun v => v.category := by
  rw [List.map_map]
  exact List.map_congr_left fun v _ => cv_cat h v
def lget : Lcs → Nat → Option Value
  | [], _ => none
  | q :: t, i => match Nat.beq q.1 i with
    | true => some q.2
    | false => lget t i
def lins (i : Nat) (v : Value) : Lcs → Lcs
  | [] => [(i, v)]
  | q :: t => match Nat.ble i q.1 with
    | true => (i, v) :: q :: t
    | false => q :: lins i v t
/-- a value of one slot stored -/
def lset1 (L : Lcs) (i : Nat) (v : Value) : Lcs := lins i v (L.filter (fun q => !(q.1 == i) && !(q.1 + 1 == i && q.2.category == 2)))
/-- .. of two -/
def lset2 (L : Lcs) (i : Nat) (v : Value) : Lcs := lins i v (L.filter (fun q => !(q.1 == i) && (!(q.1 == i + 1) && !(q.1 + 1 == i && q.2.category == 2))))
theorem lget_mem : ∀ {L : Lcs} {i : Nat} {v : Value}, lget L i = some v → (i, v) ∈ L
  | [], i, v, h => by cases h
  | q :: t, i, v, h => by
    unfold lget at h
    split at h
    · rename_i hb
      have e : q.1 = i := Nat.eq_of_beq_eq_true hb
      cases h
      subst e
      exact List.mem_cons_self
    · exact List.mem_cons_of_mem _ (lget_mem h)
theorem lins_mem {i : Nat} {v : Value} : ∀ {L : Lcs} {q : Nat × Value}, q ∈ lins i v L → q = (i, v) ∨ q ∈ L
  | [], q, h => by
    simp [lins] at h
    exact Or.inl h
  | x :: t, q, h => by
    unfold lins at h
    split at h
    · rcases List.mem_cons.mp h with h | h
      · exact Or.inl h
      · exact Or.inr h
    · rcases List.mem_cons.mp h with h | h
      · exact Or.inr (by rw [h]; exact List.mem_cons_self)
      · rcases lins_mem h with h | h
        · exact Or.inl h
        · exact Or.inr (List.mem_cons_of_mem _ h)
theorem lv_has.less {ls : Array Slot} {n : Nat} {l l' : List (Nat × Value)} (h : lv_has ls n l) (hs : ∀ q ∈ l', q ∈ l) : lv_has ls n l' := ⟨h.1, h.2.1, fun q hq => h.2.2 q (hs q hq)⟩
theorem lset1_has {A : Nat → Nat} {fm : Value} (hf : fm.category = 1) {ls : Array Slot} {n i : Nat} {L : Lcs} {v : Value} (h : lv_has ls n ((i, cv A fm v) :: (L.map (cvl A fm)).filter (fun q => !(q.1 == i) && !(q.1 + 1 == i && q.2.category == 2)))) : lv_has ls n ((lset1 L i v).map (cvl A fm)) := by
  refine h.less fun q hq => ?_
  obtain ⟨x, hx, rfl⟩ := List.mem_map.mp hq
  rcases lins_mem hx with rfl | hx
  · exact List.mem_cons_self
  · obtain ⟨h1, h2⟩ := List.mem_filter.mp hx
    refine List.mem_cons_of_mem _ (List.mem_filter.mpr ⟨List.mem_map.mpr ⟨x, h1, rfl⟩, ?_⟩)
    simpa [cvl, cv_cat hf] using h2
theorem lset2_has {A : Nat → Nat} {fm : Value} (hf : fm.category = 1) {ls : Array Slot} {n i : Nat} {L : Lcs} {v : Value} (h : lv_has ls n ((i, cv A fm v) :: (L.map (cvl A fm)).filter (fun q => !(q.1 == i) && (!(q.1 == i + 1) && !(q.1 + 1 == i && q.2.category == 2))))) : lv_has ls n ((lset2 L i v).map (cvl A fm)) := by
  refine h.less fun q hq => ?_
  obtain ⟨x, hx, rfl⟩ := List.mem_map.mp hq
  rcases lins_mem hx with rfl | hx
  · exact List.mem_cons_self
  · obtain ⟨h1, h2⟩ := List.mem_filter.mp hx
    refine List.mem_cons_of_mem _ (List.mem_filter.mpr ⟨List.mem_map.mpr ⟨x, h1, rfl⟩, ?_⟩)
    simpa [cvl, cv_cat hf] using h2
theorem lv_args_map {A : Nat → Nat} {fm : Value} (hf : fm.category = 1) : ∀ (vs : List Value) (i : Nat), lv_args i (vs.map (cv A fm)) = (lv_args i vs).map (cvl A fm)
  | [], _ => rfl
  | v :: vs, i => by
    simp only [List.map_cons, lv_args, cv_cat hf]
    rw [lv_args_map (A := A) hf vs]
    rfl
theorem lg_sl_len {A : Nat → Nat} {fm : Value} (hf : fm.category = 1) : ∀ (vs : List Value), (lg_sl (vs.map (cv A fm))).length = (lg_sl vs).length
  | [] => rfl
  | v :: vs => by
    have h := lg_sl_len (A := A) hf vs
    simp only [lg_sl, List.map_cons, List.flatMap_cons, List.length_append, cv_cat hf] at h ⊢
    rw [h]
    split <;> simp
