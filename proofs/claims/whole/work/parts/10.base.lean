/-! THE TWO WORLDS; shapes of answers; rows over small numbers -/
def rfC (a k : Nat) : Option Nat := match a, k with
  | 0, 0 => some 1 | 0, 1 => some 3 | 0, 2 => some 9 | 0, 3 => some 12 | 0, 4 => some 13 | 0, 5 => some 19 | 0, 6 => some 25
  | 1, 0 => some 2
  | 3, 0 => some 4 | 3, 1 => some 5 | 3, 2 => some 6 | 3, 3 => some 7 | 3, 4 => some 8
  | 9, 0 => some 10 | 9, 1 => some 14
  | 10, 0 => some 11 | 10, 1 => some 15
  | 11, 1 => some 16
  | 12, 0 => some 9 | 12, 1 => some 17
  | 13, 1 => some 18
  | 19, 0 => some 20
  | 20, 0 => some 21 | 20, 1 => some 22 | 20, 2 => some 23 | 20, 3 => some 24
  | 25, 0 => some 26 | 25, 1 => some 27 | 25, 2 => some 28 | 25, 3 => some 29
  | _, _ => none
def shC : List (Nat × Nat × Nat) := [(0, 5, 0), (0, 4, 0), (1, 2, 24), (0, 0, 0), (1, 0, 128), (1, 0, 16), (1, 0, 16), (1, 0, 32), (1, 0, 32), (0, 2, 0), (0, 2, 0), (0, 2, 0), (0, 2, 0), (0, 2, 0), (1, 0, 64), (1, 0, 64), (1, 0, 64), (1, 0, 64), (1, 0, 64), (0, 1, 0), (0, 3, 0), (1, 1, 16), (1, 1, 16), (1, 0, 16), (1, 0, 16), (0, 3, 0), (1, 1, 2), (1, 1, 2), (1, 0, 2), (1, 0, 2)]
def ΩC : Shp := (shC, rfC)
def rfM (a k : Nat) : Option Nat := match a, k with
  | 0, 3 => some 1 | 0, 4 => some 2 | 0, 5 => some 3 | 0, 6 => some 4 | 0, 7 => some 5 | 0, 9 => some 6 | 0, 10 => some 7 | 0, 13 => some 8 | 0, 14 => some 9 | 0, 15 => some 10 | 0, 17 => some 11 | 0, 18 => some 12
  | _, _ => none
def shM : List (Nat × Nat × Nat) := [(0, 6, 0), (1, 0, 64), (1, 0, 64), (1, 0, 4), (1, 0, 4), (1, 0, 24), (1, 0, 1024), (1, 0, 4), (1, 0, 544), (1, 0, 256), (1, 0, 16), (1, 3, 2), (1, 0, 68)]
def ΩM : Shp := (shM, rfM)
/-- the answer v, nothing changed -/
def PQ (v : Value) (I : MemI) (J : MemJ) : Pst := fun r I' J' => r = some v ∧ I' = I ∧ J' = J
/-- no answer -/
def VQ (post : MemI → MemJ → Prop) : Pst := fun r I' J' => r = none ∧ post I' J'
/-- an int -/
def IQ (post : Int32 → MemI → MemJ → Prop) : Pst := fun r I' J' => ∃ x : Int32, r = some (.int x) ∧ post x I' J'
theorem pq_i {x y : Int32} {I : MemI} {J : MemJ} (h : x = y) : PQ (.int y) I J (some (.int x)) I J := ⟨by rw [h], rfl, rfl⟩
theorem pq_l {x y : Int64} {I : MemI} {J : MemJ} (h : x = y) : PQ (.long y) I J (some (.long x)) I J := ⟨by rw [h], rfl, rfl⟩
theorem vq_i {post : MemI → MemJ → Prop} {I : MemI} {J : MemJ} (h : post I J) : VQ post none I J := ⟨rfl, h⟩
theorem iq_i {post : Int32 → MemI → MemJ → Prop} {x : Int32} {I : MemI} {J : MemJ} (h : post x I J) : IQ post (some (.int x)) I J := ⟨x, rfl, h⟩
def bI (b : Bool) : Int32 := nI b.toNat
theorem bI_t : bI true = nI 1 := rfl
theorem bI_f : bI false = nI 0 := rfl
theorem bI_narrow (b : Bool) : narrow .boolean (.int (bI b)) = .int (bI b) := by cases b <;> decide +kernel
theorem nI_narrow01 {n : Nat} (h : n < 2) : narrow .boolean (.int (nI n)) = .int (nI n) := by
  rcases (show n = 0 ∨ n = 1 by omega) with rfl | rfl <;> decide +kernel
section NRW
variable {Ω : Shp} {d : Nat} {K : Mth} {pc : Nat} {L : Lcs} {S : List Value} {I : MemI} {J : MemJ} {Q : Pst}
theorem wp_iconstN {n : Int} {m : Nat} (hd : decode K.2.1 pc = .ok (.iconst n, 1)) (hn : n = (m : Int)) (k : WP Ω d K (pc + 1) L (.int (nI m) :: S) I J Q) : WP Ω d K pc L S I J Q :=
  wp_iconst hd (v := nI m) (by subst hn; rfl) k
theorem wp_iaddN {a b : Nat} (hd : decode K.2.1 pc = .ok (.iadd, 1)) (k : WP Ω d K (pc + 1) L (.int (nI (a + b)) :: S) I J Q) : WP Ω d K pc L (.int (nI b) :: .int (nI a) :: S) I J Q :=
  wp_iadd hd (by rw [nI_add]; exact k)
theorem wp_isubN {a b : Nat} (hd : decode K.2.1 pc = .ok (.isub, 1)) (h : b ≤ a) (k : WP Ω d K (pc + 1) L (.int (nI (a - b)) :: S) I J Q) : WP Ω d K pc L (.int (nI b) :: .int (nI a) :: S) I J Q :=
  wp_isub hd (by rw [pk_sub h]; exact k)
theorem wp_imulN {a b : Nat} (hd : decode K.2.1 pc = .ok (.imul, 1)) (k : WP Ω d K (pc + 1) L (.int (nI (a * b)) :: S) I J Q) : WP Ω d K pc L (.int (nI b) :: .int (nI a) :: S) I J Q :=
  wp_imul hd (by rw [pk_mul]; exact k)
theorem wp_idivN {a b : Nat} (hd : decode K.2.1 pc = .ok (.idiv, 1)) (ha : a < 2147483648) (h0 : 0 < b) (hb : b < 2147483648) (k : WP Ω d K (pc + 1) L (.int (nI (a / b)) :: S) I J Q) : WP Ω d K pc L (.int (nI b) :: .int (nI a) :: S) I J Q :=
  wp_idiv hd (nI_ne0 h0 hb) (by rw [pk_div ha h0 hb]; exact k)
theorem wp_iremN {a b : Nat} (hd : decode K.2.1 pc = .ok (.irem, 1)) (ha : a < 2147483648) (h0 : 0 < b) (hb : b < 2147483648) (k : WP Ω d K (pc + 1) L (.int (nI (a % b)) :: S) I J Q) : WP Ω d K pc L (.int (nI b) :: .int (nI a) :: S) I J Q :=
  wp_irem hd (nI_ne0 h0 hb) (by rw [pk_rem ha h0 hb]; exact k)
theorem wp_iandN {a b : Nat} (hd : decode K.2.1 pc = .ok (.iand, 1)) (k : WP Ω d K (pc + 1) L (.int (nI (a &&& b)) :: S) I J Q) : WP Ω d K pc L (.int (nI b) :: .int (nI a) :: S) I J Q :=
  wp_iand hd (by rw [fa_and]; exact k)
theorem wp_iorN {a b : Nat} (hd : decode K.2.1 pc = .ok (.ior, 1)) (k : WP Ω d K (pc + 1) L (.int (nI (a ||| b)) :: S) I J Q) : WP Ω d K pc L (.int (nI b) :: .int (nI a) :: S) I J Q :=
  wp_ior hd (by rw [fa_or]; exact k)
theorem shl_1 : ∀ c, c < 31 → (nI 1 <<< (nI c &&& 31)) = nI (2 ^ c) := by decide +kernel
theorem wp_ishl1 {c : Nat} (hd : decode K.2.1 pc = .ok (.ishl, 1)) (hc : c < 31) (k : WP Ω d K (pc + 1) L (.int (nI (2 ^ c)) :: S) I J Q) : WP Ω d K pc L (.int (nI c) :: .int (nI 1) :: S) I J Q :=
  wp_ishl hd (by rw [shl_1 c hc]; exact k)
theorem wp_ishlN {a c : Nat} (hd : decode K.2.1 pc = .ok (.ishl, 1)) (hc : c < 32) (ha : a * 2 ^ c < 4294967296) (k : WP Ω d K (pc + 1) L (.int (nI (a * 2 ^ c)) :: S) I J Q) : WP Ω d K pc L (.int (nI c) :: .int (nI a) :: S) I J Q :=
  wp_ishl hd (by rw [pk_shlN (nI c &&& 31) c (s_l c hc) ha]; exact k)
theorem wp_ishrN {a c : Nat} (hd : decode K.2.1 pc = .ok (.ishr, 1)) (hc : c < 32) (ha : a < 2147483648) (k : WP Ω d K (pc + 1) L (.int (nI (a / 2 ^ c)) :: S) I J Q) : WP Ω d K pc L (.int (nI c) :: .int (nI a) :: S) I J Q :=
  wp_ishr hd (by rw [pk_shrN ha (nI c &&& 31) c (s_l c hc)]; exact k)
theorem wp_i2lN {a : Nat} (hd : decode K.2.1 pc = .ok (.i2l, 1)) (ha : a < 2147483648) (k : WP Ω d K (pc + 1) L (.long (lN a) :: S) I J Q) : WP Ω d K pc L (.int (nI a) :: S) I J Q :=
  wp_i2l hd (by rw [nI_l ha]; exact k)
theorem wp_l2iN {a : Nat} (hd : decode K.2.1 pc = .ok (.l2i, 1)) (k : WP Ω d K (pc + 1) L (.int (nI a) :: S) I J Q) : WP Ω d K pc L (.long (lN a) :: S) I J Q :=
  wp_l2i hd (by rw [lN_i]; exact k)
theorem wp_iincN {i a m : Nat} {n : Int} (hd : decode K.2.1 pc = .ok (.iinc i n, 3)) (hx : lget L i = some (.int (nI a))) (hm : n = (m : Int)) (hn : i < K.2.2.1) (k : WP Ω d K (pc + 3) (lset1 L i (.int (nI (a + m)))) S I J Q) : WP Ω d K pc L S I J Q :=
  wp_iinc hd hx (v := nI (a + m)) (by subst hm; exact nI_add a m) hn k
theorem wp_iincD {i a : Nat} (hd : decode K.2.1 pc = .ok (.iinc i (-1), 3)) (hx : lget L i = some (.int (nI (a + 1)))) (hn : i < K.2.2.1) (k : WP Ω d K (pc + 3) (lset1 L i (.int (nI a))) S I J Q) : WP Ω d K pc L S I J Q :=
  wp_iinc hd hx (v := nI a) (pk_m1 a) hn k
theorem wp_icmp_eqN {a b : Nat} {off : Int} {tgt : Nat} (hd : decode K.2.1 pc = .ok (.if_icmp .eq off, 3)) (ht : (pc : Int) + off = (tgt : Int)) (ha : a < 2147483648) (hb : b < 2147483648) (kt : a = b → WP Ω d K tgt L S I J Q) (kf : ¬ a = b → WP Ω d K (pc + 3) L S I J Q) : WP Ω d K pc L (.int (nI b) :: .int (nI a) :: S) I J Q :=
  wp_icmp_eq hd ht (fun h => kt ((nI_eq ha hb).mp h)) (fun h => kf (fun z => h ((nI_eq ha hb).mpr z)))
theorem wp_icmp_neN {a b : Nat} {off : Int} {tgt : Nat} (hd : decode K.2.1 pc = .ok (.if_icmp .ne off, 3)) (ht : (pc : Int) + off = (tgt : Int)) (ha : a < 2147483648) (hb : b < 2147483648) (kt : ¬ a = b → WP Ω d K tgt L S I J Q) (kf : a = b → WP Ω d K (pc + 3) L S I J Q) : WP Ω d K pc L (.int (nI b) :: .int (nI a) :: S) I J Q :=
  wp_icmp_ne hd ht (fun h => kt (fun z => h ((nI_eq ha hb).mpr z))) (fun h => kf ((nI_eq ha hb).mp h))
theorem wp_icmp_ltN {a b : Nat} {off : Int} {tgt : Nat} (hd : decode K.2.1 pc = .ok (.if_icmp .lt off, 3)) (ht : (pc : Int) + off = (tgt : Int)) (ha : a < 2147483648) (hb : b < 2147483648) (kt : a < b → WP Ω d K tgt L S I J Q) (kf : ¬ a < b → WP Ω d K (pc + 3) L S I J Q) : WP Ω d K pc L (.int (nI b) :: .int (nI a) :: S) I J Q :=
  wp_icmp_lt hd ht (fun h => kt ((nI_ltI ha hb).mp h)) (fun h => kf (fun z => h ((nI_ltI ha hb).mpr z)))
theorem wp_icmp_geN {a b : Nat} {off : Int} {tgt : Nat} (hd : decode K.2.1 pc = .ok (.if_icmp .ge off, 3)) (ht : (pc : Int) + off = (tgt : Int)) (ha : a < 2147483648) (hb : b < 2147483648) (kt : b ≤ a → WP Ω d K tgt L S I J Q) (kf : ¬ b ≤ a → WP Ω d K (pc + 3) L S I J Q) : WP Ω d K pc L (.int (nI b) :: .int (nI a) :: S) I J Q :=
  wp_icmp_ge hd ht (fun h => kt ((nI_leI hb ha).mp h)) (fun h => kf (fun z => h ((nI_leI hb ha).mpr z)))
theorem wp_icmp_gtN {a b : Nat} {off : Int} {tgt : Nat} (hd : decode K.2.1 pc = .ok (.if_icmp .gt off, 3)) (ht : (pc : Int) + off = (tgt : Int)) (ha : a < 2147483648) (hb : b < 2147483648) (kt : b < a → WP Ω d K tgt L S I J Q) (kf : ¬ b < a → WP Ω d K (pc + 3) L S I J Q) : WP Ω d K pc L (.int (nI b) :: .int (nI a) :: S) I J Q :=
  wp_icmp_gt hd ht (fun h => kt ((nI_ltI hb ha).mp h)) (fun h => kf (fun z => h ((nI_ltI hb ha).mpr z)))
theorem wp_icmp_leN {a b : Nat} {off : Int} {tgt : Nat} (hd : decode K.2.1 pc = .ok (.if_icmp .le off, 3)) (ht : (pc : Int) + off = (tgt : Int)) (ha : a < 2147483648) (hb : b < 2147483648) (kt : a ≤ b → WP Ω d K tgt L S I J Q) (kf : ¬ a ≤ b → WP Ω d K (pc + 3) L S I J Q) : WP Ω d K pc L (.int (nI b) :: .int (nI a) :: S) I J Q :=
  wp_icmp_le hd ht (fun h => kt ((nI_leI ha hb).mp h)) (fun h => kf (fun z => h ((nI_leI ha hb).mpr z)))
theorem wp_if_eqN {a : Nat} {off : Int} {tgt : Nat} (hd : decode K.2.1 pc = .ok (.ifCond .eq off, 3)) (ht : (pc : Int) + off = (tgt : Int)) (ha : a < 2147483648) (kt : a = 0 → WP Ω d K tgt L S I J Q) (kf : ¬ a = 0 → WP Ω d K (pc + 3) L S I J Q) : WP Ω d K pc L (.int (nI a) :: S) I J Q :=
  wp_if_eq hd ht (fun h => kt ((nI_eq (b := 0) ha (by decide)).mp h)) (fun h => kf (fun z => h (by rw [z]; rfl)))
theorem wp_if_neN {a : Nat} {off : Int} {tgt : Nat} (hd : decode K.2.1 pc = .ok (.ifCond .ne off, 3)) (ht : (pc : Int) + off = (tgt : Int)) (ha : a < 2147483648) (kt : ¬ a = 0 → WP Ω d K tgt L S I J Q) (kf : a = 0 → WP Ω d K (pc + 3) L S I J Q) : WP Ω d K pc L (.int (nI a) :: S) I J Q :=
  wp_if_ne hd ht (fun h => kt (fun z => h (by rw [z]; rfl))) (fun h => kf ((nI_eq (b := 0) ha (by decide)).mp h))
theorem wp_if_ltN {a : Nat} {off : Int} {tgt : Nat} (hd : decode K.2.1 pc = .ok (.ifCond .lt off, 3)) (ht : (pc : Int) + off = (tgt : Int)) (ha : a < 2147483648) (kf : WP Ω d K (pc + 3) L S I J Q) : WP Ω d K pc L (.int (nI a) :: S) I J Q :=
  wp_if_lt hd ht (fun h => absurd h (nI_pos ha)) (fun _ => kf)
theorem wp_if_geN {a : Nat} {off : Int} {tgt : Nat} (hd : decode K.2.1 pc = .ok (.ifCond .ge off, 3)) (ht : (pc : Int) + off = (tgt : Int)) (ha : a < 2147483648) (kt : WP Ω d K tgt L S I J Q) : WP Ω d K pc L (.int (nI a) :: S) I J Q :=
  wp_if_ge hd ht (fun _ => kt) (fun h => absurd (nI_pos' ha) h)
theorem wp_if_leN {a : Nat} {off : Int} {tgt : Nat} (hd : decode K.2.1 pc = .ok (.ifCond .le off, 3)) (ht : (pc : Int) + off = (tgt : Int)) (ha : a < 2147483648) (kt : a = 0 → WP Ω d K tgt L S I J Q) (kf : 0 < a → WP Ω d K (pc + 3) L S I J Q) : WP Ω d K pc L (.int (nI a) :: S) I J Q :=
  wp_if_le hd ht (fun h => kt (Nat.le_zero.mp ((nI_leI (b := 0) ha (by decide)).mp h))) (fun h => kf (Nat.pos_of_ne_zero (fun z => h (by rw [z]; exact nI_pos' (by decide)))))
theorem wp_if_gtN {a : Nat} {off : Int} {tgt : Nat} (hd : decode K.2.1 pc = .ok (.ifCond .gt off, 3)) (ht : (pc : Int) + off = (tgt : Int)) (ha : a < 2147483648) (kt : 0 < a → WP Ω d K tgt L S I J Q) (kf : a = 0 → WP Ω d K (pc + 3) L S I J Q) : WP Ω d K pc L (.int (nI a) :: S) I J Q :=
  wp_if_gt hd ht (fun h => kt ((nI_ltI (a := 0) (by decide) ha).mp h)) (fun h => kf (Nat.eq_zero_of_not_pos (fun z => h ((nI_ltI (a := 0) (by decide) ha).mpr z))))
theorem wp_if_eqB {b : Bool} {off : Int} {tgt : Nat} (hd : decode K.2.1 pc = .ok (.ifCond .eq off, 3)) (ht : (pc : Int) + off = (tgt : Int)) (kt : b = false → WP Ω d K tgt L S I J Q) (kf : b = true → WP Ω d K (pc + 3) L S I J Q) : WP Ω d K pc L (.int (bI b) :: S) I J Q := by
  cases b with
  | false => exact wp_if_eq hd ht (fun _ => kt rfl) (fun h => absurd rfl h)
  | true => exact wp_if_eq hd ht (fun h => absurd h (by decide)) (fun _ => kf rfl)
theorem wp_if_neB {b : Bool} {off : Int} {tgt : Nat} (hd : decode K.2.1 pc = .ok (.ifCond .ne off, 3)) (ht : (pc : Int) + off = (tgt : Int)) (kt : b = true → WP Ω d K tgt L S I J Q) (kf : b = false → WP Ω d K (pc + 3) L S I J Q) : WP Ω d K pc L (.int (bI b) :: S) I J Q := by
  cases b with
  | false => exact wp_if_ne hd ht (fun h => absurd rfl h) (fun _ => kf rfl)
  | true => exact wp_if_ne hd ht (fun _ => kt rfl) (fun h => absurd h (by decide))
theorem wp_cVP0 {q0 ci y idx : Nat} {v : Value} {K' : Mth} (hd : decode K.2.1 pc = .ok (.invokevirtual idx, 3)) (lk : LM K.1.cls idx K') (mi : MIn K' 0) (ha : Ω.1[q0]? = some (0, ci, y)) (hb : Nat.beq q0 1010 = false) (hci : ci < 7) (hc : cNm ci = K'.1.cls) (hw : (S.map fun v => v.category).sum ≤ 8) (hC : CALL Ω d K' [.ref q0] I J (PQ v I J)) (k : WP Ω (d + 1) K (pc + 3) L (v :: S) I J Q) : WP Ω (d + 1) K pc L (.ref q0 :: S) I J Q :=
  wp_callV (as := []) hd lk mi ha hb hci hc rfl rfl hw hC (fun r I' J' h => by obtain ⟨rfl, rfl, rfl⟩ := h; exact k)
theorem wp_cSP0 {idx : Nat} {v : Value} {K' : Mth} (hd : decode K.2.1 pc = .ok (.invokestatic idx, 3)) (lk : LM K.1.cls idx K') (mi : MSn K' 0) (hw : (S.map fun v => v.category).sum ≤ 8) (hC : CALL Ω d K' [] I J (PQ v I J)) (k : WP Ω (d + 1) K (pc + 3) L (v :: S) I J Q) : WP Ω (d + 1) K pc L (S) I J Q :=
  wp_callS (as := []) hd lk mi rfl rfl hw hC (fun r I' J' h => by obtain ⟨rfl, rfl, rfl⟩ := h; exact k)
theorem wp_cTP0 {q0 idx : Nat} {v : Value} {K' : Mth} (hd : decode K.2.1 pc = .ok (.invokevirtual idx, 3)) (lk : LM K.1.cls idx K') (hn : ∀ q ∈ nestM, ¬ q.2.2.1 = K'.1) (mi : MIn K' 0) (h1 : 1004 ≤ q0) (h2 : q0 < 1006) (hc : K'.1.cls = RJ0) (hw : (S.map fun v => v.category).sum ≤ 8) (hC : CALL Ω d K' [.ref q0] I J (PQ v I J)) (k : WP Ω (d + 1) K (pc + 3) L (v :: S) I J Q) : WP Ω (d + 1) K pc L (.ref q0 :: S) I J Q :=
  wp_callT (as := []) hd (lk.elim id (fun h => absurd rfl (hn _ h))) mi h1 h2 hc rfl rfl hw hC (fun r I' J' h => by obtain ⟨rfl, rfl, rfl⟩ := h; exact k)
theorem wp_cVV0 {q0 ci y idx : Nat} {post : MemI → MemJ → Prop} {K' : Mth} (hd : decode K.2.1 pc = .ok (.invokevirtual idx, 3)) (lk : LM K.1.cls idx K') (mi : MIn K' 0) (ha : Ω.1[q0]? = some (0, ci, y)) (hb : Nat.beq q0 1010 = false) (hci : ci < 7) (hc : cNm ci = K'.1.cls) (hw : (S.map fun v => v.category).sum ≤ 8) (hC : CALL Ω d K' [.ref q0] I J (VQ post)) (k : ∀ I' J', post I' J' → WP Ω (d + 1) K (pc + 3) L S I' J' Q) : WP Ω (d + 1) K pc L (.ref q0 :: S) I J Q :=
  wp_callV (as := []) hd lk mi ha hb hci hc rfl rfl hw hC (fun r I' J' h => by obtain ⟨rfl, h⟩ := h; exact k I' J' h)
theorem wp_cSV0 {idx : Nat} {post : MemI → MemJ → Prop} {K' : Mth} (hd : decode K.2.1 pc = .ok (.invokestatic idx, 3)) (lk : LM K.1.cls idx K') (mi : MSn K' 0) (hw : (S.map fun v => v.category).sum ≤ 8) (hC : CALL Ω d K' [] I J (VQ post)) (k : ∀ I' J', post I' J' → WP Ω (d + 1) K (pc + 3) L S I' J' Q) : WP Ω (d + 1) K pc L (S) I J Q :=
  wp_callS (as := []) hd lk mi rfl rfl hw hC (fun r I' J' h => by obtain ⟨rfl, h⟩ := h; exact k I' J' h)
theorem wp_cVI0 {q0 ci y idx : Nat} {post : Int32 → MemI → MemJ → Prop} {K' : Mth} (hd : decode K.2.1 pc = .ok (.invokevirtual idx, 3)) (lk : LM K.1.cls idx K') (mi : MIn K' 0) (ha : Ω.1[q0]? = some (0, ci, y)) (hb : Nat.beq q0 1010 = false) (hci : ci < 7) (hc : cNm ci = K'.1.cls) (hw : (S.map fun v => v.category).sum ≤ 8) (hC : CALL Ω d K' [.ref q0] I J (IQ post)) (k : ∀ x I' J', post x I' J' → WP Ω (d + 1) K (pc + 3) L (.int x :: S) I' J' Q) : WP Ω (d + 1) K pc L (.ref q0 :: S) I J Q :=
  wp_callV (as := []) hd lk mi ha hb hci hc rfl rfl hw hC (fun r I' J' h => by obtain ⟨x, rfl, h⟩ := h; exact k x I' J' h)
theorem wp_cSI0 {idx : Nat} {post : Int32 → MemI → MemJ → Prop} {K' : Mth} (hd : decode K.2.1 pc = .ok (.invokestatic idx, 3)) (lk : LM K.1.cls idx K') (mi : MSn K' 0) (hw : (S.map fun v => v.category).sum ≤ 8) (hC : CALL Ω d K' [] I J (IQ post)) (k : ∀ x I' J', post x I' J' → WP Ω (d + 1) K (pc + 3) L (.int x :: S) I' J' Q) : WP Ω (d + 1) K pc L (S) I J Q :=
  wp_callS (as := []) hd lk mi rfl rfl hw hC (fun r I' J' h => by obtain ⟨x, rfl, h⟩ := h; exact k x I' J' h)
theorem wp_cVP1 {q0 ci y idx : Nat} {v1 : Value} {v : Value} {K' : Mth} (hd : decode K.2.1 pc = .ok (.invokevirtual idx, 3)) (lk : LM K.1.cls idx K') (mi : MIn K' 1) (ha : Ω.1[q0]? = some (0, ci, y)) (hb : Nat.beq q0 1010 = false) (hci : ci < 7) (hc : cNm ci = K'.1.cls) (hw : (S.map fun v => v.category).sum ≤ 8) (hC : CALL Ω d K' [.ref q0, v1] I J (PQ v I J)) (k : WP Ω (d + 1) K (pc + 3) L (v :: S) I J Q) : WP Ω (d + 1) K pc L (v1 :: .ref q0 :: S) I J Q :=
  wp_callV (as := [v1]) hd lk mi ha hb hci hc rfl rfl hw hC (fun r I' J' h => by obtain ⟨rfl, rfl, rfl⟩ := h; exact k)
theorem wp_cSP1 {idx : Nat} {v1 : Value} {v : Value} {K' : Mth} (hd : decode K.2.1 pc = .ok (.invokestatic idx, 3)) (lk : LM K.1.cls idx K') (mi : MSn K' 1) (hw : (S.map fun v => v.category).sum ≤ 8) (hC : CALL Ω d K' [v1] I J (PQ v I J)) (k : WP Ω (d + 1) K (pc + 3) L (v :: S) I J Q) : WP Ω (d + 1) K pc L (v1 :: S) I J Q :=
  wp_callS (as := [v1]) hd lk mi rfl rfl hw hC (fun r I' J' h => by obtain ⟨rfl, rfl, rfl⟩ := h; exact k)
theorem wp_cTP1 {q0 idx : Nat} {v1 : Value} {v : Value} {K' : Mth} (hd : decode K.2.1 pc = .ok (.invokevirtual idx, 3)) (lk : LM K.1.cls idx K') (hn : ∀ q ∈ nestM, ¬ q.2.2.1 = K'.1) (mi : MIn K' 1) (h1 : 1004 ≤ q0) (h2 : q0 < 1006) (hc : K'.1.cls = RJ0) (hw : (S.map fun v => v.category).sum ≤ 8) (hC : CALL Ω d K' [.ref q0, v1] I J (PQ v I J)) (k : WP Ω (d + 1) K (pc + 3) L (v :: S) I J Q) : WP Ω (d + 1) K pc L (v1 :: .ref q0 :: S) I J Q :=
  wp_callT (as := [v1]) hd (lk.elim id (fun h => absurd rfl (hn _ h))) mi h1 h2 hc rfl rfl hw hC (fun r I' J' h => by obtain ⟨rfl, rfl, rfl⟩ := h; exact k)
theorem wp_cVV1 {q0 ci y idx : Nat} {v1 : Value} {post : MemI → MemJ → Prop} {K' : Mth} (hd : decode K.2.1 pc = .ok (.invokevirtual idx, 3)) (lk : LM K.1.cls idx K') (mi : MIn K' 1) (ha : Ω.1[q0]? = some (0, ci, y)) (hb : Nat.beq q0 1010 = false) (hci : ci < 7) (hc : cNm ci = K'.1.cls) (hw : (S.map fun v => v.category).sum ≤ 8) (hC : CALL Ω d K' [.ref q0, v1] I J (VQ post)) (k : ∀ I' J', post I' J' → WP Ω (d + 1) K (pc + 3) L S I' J' Q) : WP Ω (d + 1) K pc L (v1 :: .ref q0 :: S) I J Q :=
  wp_callV (as := [v1]) hd lk mi ha hb hci hc rfl rfl hw hC (fun r I' J' h => by obtain ⟨rfl, h⟩ := h; exact k I' J' h)
theorem wp_cSV1 {idx : Nat} {v1 : Value} {post : MemI → MemJ → Prop} {K' : Mth} (hd : decode K.2.1 pc = .ok (.invokestatic idx, 3)) (lk : LM K.1.cls idx K') (mi : MSn K' 1) (hw : (S.map fun v => v.category).sum ≤ 8) (hC : CALL Ω d K' [v1] I J (VQ post)) (k : ∀ I' J', post I' J' → WP Ω (d + 1) K (pc + 3) L S I' J' Q) : WP Ω (d + 1) K pc L (v1 :: S) I J Q :=
  wp_callS (as := [v1]) hd lk mi rfl rfl hw hC (fun r I' J' h => by obtain ⟨rfl, h⟩ := h; exact k I' J' h)
theorem wp_cVI1 {q0 ci y idx : Nat} {v1 : Value} {post : Int32 → MemI → MemJ → Prop} {K' : Mth} (hd : decode K.2.1 pc = .ok (.invokevirtual idx, 3)) (lk : LM K.1.cls idx K') (mi : MIn K' 1) (ha : Ω.1[q0]? = some (0, ci, y)) (hb : Nat.beq q0 1010 = false) (hci : ci < 7) (hc : cNm ci = K'.1.cls) (hw : (S.map fun v => v.category).sum ≤ 8) (hC : CALL Ω d K' [.ref q0, v1] I J (IQ post)) (k : ∀ x I' J', post x I' J' → WP Ω (d + 1) K (pc + 3) L (.int x :: S) I' J' Q) : WP Ω (d + 1) K pc L (v1 :: .ref q0 :: S) I J Q :=
  wp_callV (as := [v1]) hd lk mi ha hb hci hc rfl rfl hw hC (fun r I' J' h => by obtain ⟨x, rfl, h⟩ := h; exact k x I' J' h)
theorem wp_cSI1 {idx : Nat} {v1 : Value} {post : Int32 → MemI → MemJ → Prop} {K' : Mth} (hd : decode K.2.1 pc = .ok (.invokestatic idx, 3)) (lk : LM K.1.cls idx K') (mi : MSn K' 1) (hw : (S.map fun v => v.category).sum ≤ 8) (hC : CALL Ω d K' [v1] I J (IQ post)) (k : ∀ x I' J', post x I' J' → WP Ω (d + 1) K (pc + 3) L (.int x :: S) I' J' Q) : WP Ω (d + 1) K pc L (v1 :: S) I J Q :=
  wp_callS (as := [v1]) hd lk mi rfl rfl hw hC (fun r I' J' h => by obtain ⟨x, rfl, h⟩ := h; exact k x I' J' h)
theorem wp_cVP2 {q0 ci y idx : Nat} {v1 v2 : Value} {v : Value} {K' : Mth} (hd : decode K.2.1 pc = .ok (.invokevirtual idx, 3)) (lk : LM K.1.cls idx K') (mi : MIn K' 2) (ha : Ω.1[q0]? = some (0, ci, y)) (hb : Nat.beq q0 1010 = false) (hci : ci < 7) (hc : cNm ci = K'.1.cls) (hw : (S.map fun v => v.category).sum ≤ 8) (hC : CALL Ω d K' [.ref q0, v1, v2] I J (PQ v I J)) (k : WP Ω (d + 1) K (pc + 3) L (v :: S) I J Q) : WP Ω (d + 1) K pc L (v2 :: v1 :: .ref q0 :: S) I J Q :=
  wp_callV (as := [v1, v2]) hd lk mi ha hb hci hc rfl rfl hw hC (fun r I' J' h => by obtain ⟨rfl, rfl, rfl⟩ := h; exact k)
theorem wp_cSP2 {idx : Nat} {v1 v2 : Value} {v : Value} {K' : Mth} (hd : decode K.2.1 pc = .ok (.invokestatic idx, 3)) (lk : LM K.1.cls idx K') (mi : MSn K' 2) (hw : (S.map fun v => v.category).sum ≤ 8) (hC : CALL Ω d K' [v1, v2] I J (PQ v I J)) (k : WP Ω (d + 1) K (pc + 3) L (v :: S) I J Q) : WP Ω (d + 1) K pc L (v2 :: v1 :: S) I J Q :=
  wp_callS (as := [v1, v2]) hd lk mi rfl rfl hw hC (fun r I' J' h => by obtain ⟨rfl, rfl, rfl⟩ := h; exact k)
theorem wp_cTP2 {q0 idx : Nat} {v1 v2 : Value} {v : Value} {K' : Mth} (hd : decode K.2.1 pc = .ok (.invokevirtual idx, 3)) (lk : LM K.1.cls idx K') (hn : ∀ q ∈ nestM, ¬ q.2.2.1 = K'.1) (mi : MIn K' 2) (h1 : 1004 ≤ q0) (h2 : q0 < 1006) (hc : K'.1.cls = RJ0) (hw : (S.map fun v => v.category).sum ≤ 8) (hC : CALL Ω d K' [.ref q0, v1, v2] I J (PQ v I J)) (k : WP Ω (d + 1) K (pc + 3) L (v :: S) I J Q) : WP Ω (d + 1) K pc L (v2 :: v1 :: .ref q0 :: S) I J Q :=
  wp_callT (as := [v1, v2]) hd (lk.elim id (fun h => absurd rfl (hn _ h))) mi h1 h2 hc rfl rfl hw hC (fun r I' J' h => by obtain ⟨rfl, rfl, rfl⟩ := h; exact k)
theorem wp_cVV2 {q0 ci y idx : Nat} {v1 v2 : Value} {post : MemI → MemJ → Prop} {K' : Mth} (hd : decode K.2.1 pc = .ok (.invokevirtual idx, 3)) (lk : LM K.1.cls idx K') (mi : MIn K' 2) (ha : Ω.1[q0]? = some (0, ci, y)) (hb : Nat.beq q0 1010 = false) (hci : ci < 7) (hc : cNm ci = K'.1.cls) (hw : (S.map fun v => v.category).sum ≤ 8) (hC : CALL Ω d K' [.ref q0, v1, v2] I J (VQ post)) (k : ∀ I' J', post I' J' → WP Ω (d + 1) K (pc + 3) L S I' J' Q) : WP Ω (d + 1) K pc L (v2 :: v1 :: .ref q0 :: S) I J Q :=
  wp_callV (as := [v1, v2]) hd lk mi ha hb hci hc rfl rfl hw hC (fun r I' J' h => by obtain ⟨rfl, h⟩ := h; exact k I' J' h)
theorem wp_cSV2 {idx : Nat} {v1 v2 : Value} {post : MemI → MemJ → Prop} {K' : Mth} (hd : decode K.2.1 pc = .ok (.invokestatic idx, 3)) (lk : LM K.1.cls idx K') (mi : MSn K' 2) (hw : (S.map fun v => v.category).sum ≤ 8) (hC : CALL Ω d K' [v1, v2] I J (VQ post)) (k : ∀ I' J', post I' J' → WP Ω (d + 1) K (pc + 3) L S I' J' Q) : WP Ω (d + 1) K pc L (v2 :: v1 :: S) I J Q :=
  wp_callS (as := [v1, v2]) hd lk mi rfl rfl hw hC (fun r I' J' h => by obtain ⟨rfl, h⟩ := h; exact k I' J' h)
theorem wp_cVI2 {q0 ci y idx : Nat} {v1 v2 : Value} {post : Int32 → MemI → MemJ → Prop} {K' : Mth} (hd : decode K.2.1 pc = .ok (.invokevirtual idx, 3)) (lk : LM K.1.cls idx K') (mi : MIn K' 2) (ha : Ω.1[q0]? = some (0, ci, y)) (hb : Nat.beq q0 1010 = false) (hci : ci < 7) (hc : cNm ci = K'.1.cls) (hw : (S.map fun v => v.category).sum ≤ 8) (hC : CALL Ω d K' [.ref q0, v1, v2] I J (IQ post)) (k : ∀ x I' J', post x I' J' → WP Ω (d + 1) K (pc + 3) L (.int x :: S) I' J' Q) : WP Ω (d + 1) K pc L (v2 :: v1 :: .ref q0 :: S) I J Q :=
  wp_callV (as := [v1, v2]) hd lk mi ha hb hci hc rfl rfl hw hC (fun r I' J' h => by obtain ⟨x, rfl, h⟩ := h; exact k x I' J' h)
theorem wp_cSI2 {idx : Nat} {v1 v2 : Value} {post : Int32 → MemI → MemJ → Prop} {K' : Mth} (hd : decode K.2.1 pc = .ok (.invokestatic idx, 3)) (lk : LM K.1.cls idx K') (mi : MSn K' 2) (hw : (S.map fun v => v.category).sum ≤ 8) (hC : CALL Ω d K' [v1, v2] I J (IQ post)) (k : ∀ x I' J', post x I' J' → WP Ω (d + 1) K (pc + 3) L (.int x :: S) I' J' Q) : WP Ω (d + 1) K pc L (v2 :: v1 :: S) I J Q :=
  wp_callS (as := [v1, v2]) hd lk mi rfl rfl hw hC (fun r I' J' h => by obtain ⟨x, rfl, h⟩ := h; exact k x I' J' h)
theorem wp_cVP3 {q0 ci y idx : Nat} {v1 v2 v3 : Value} {v : Value} {K' : Mth} (hd : decode K.2.1 pc = .ok (.invokevirtual idx, 3)) (lk : LM K.1.cls idx K') (mi : MIn K' 3) (ha : Ω.1[q0]? = some (0, ci, y)) (hb : Nat.beq q0 1010 = false) (hci : ci < 7) (hc : cNm ci = K'.1.cls) (hw : (S.map fun v => v.category).sum ≤ 8) (hC : CALL Ω d K' [.ref q0, v1, v2, v3] I J (PQ v I J)) (k : WP Ω (d + 1) K (pc + 3) L (v :: S) I J Q) : WP Ω (d + 1) K pc L (v3 :: v2 :: v1 :: .ref q0 :: S) I J Q :=
  wp_callV (as := [v1, v2, v3]) hd lk mi ha hb hci hc rfl rfl hw hC (fun r I' J' h => by obtain ⟨rfl, rfl, rfl⟩ := h; exact k)
theorem wp_cSP3 {idx : Nat} {v1 v2 v3 : Value} {v : Value} {K' : Mth} (hd : decode K.2.1 pc = .ok (.invokestatic idx, 3)) (lk : LM K.1.cls idx K') (mi : MSn K' 3) (hw : (S.map fun v => v.category).sum ≤ 8) (hC : CALL Ω d K' [v1, v2, v3] I J (PQ v I J)) (k : WP Ω (d + 1) K (pc + 3) L (v :: S) I J Q) : WP Ω (d + 1) K pc L (v3 :: v2 :: v1 :: S) I J Q :=
  wp_callS (as := [v1, v2, v3]) hd lk mi rfl rfl hw hC (fun r I' J' h => by obtain ⟨rfl, rfl, rfl⟩ := h; exact k)
theorem wp_cVV3 {q0 ci y idx : Nat} {v1 v2 v3 : Value} {post : MemI → MemJ → Prop} {K' : Mth} (hd : decode K.2.1 pc = .ok (.invokevirtual idx, 3)) (lk : LM K.1.cls idx K') (mi : MIn K' 3) (ha : Ω.1[q0]? = some (0, ci, y)) (hb : Nat.beq q0 1010 = false) (hci : ci < 7) (hc : cNm ci = K'.1.cls) (hw : (S.map fun v => v.category).sum ≤ 8) (hC : CALL Ω d K' [.ref q0, v1, v2, v3] I J (VQ post)) (k : ∀ I' J', post I' J' → WP Ω (d + 1) K (pc + 3) L S I' J' Q) : WP Ω (d + 1) K pc L (v3 :: v2 :: v1 :: .ref q0 :: S) I J Q :=
  wp_callV (as := [v1, v2, v3]) hd lk mi ha hb hci hc rfl rfl hw hC (fun r I' J' h => by obtain ⟨rfl, h⟩ := h; exact k I' J' h)
theorem wp_cSV3 {idx : Nat} {v1 v2 v3 : Value} {post : MemI → MemJ → Prop} {K' : Mth} (hd : decode K.2.1 pc = .ok (.invokestatic idx, 3)) (lk : LM K.1.cls idx K') (mi : MSn K' 3) (hw : (S.map fun v => v.category).sum ≤ 8) (hC : CALL Ω d K' [v1, v2, v3] I J (VQ post)) (k : ∀ I' J', post I' J' → WP Ω (d + 1) K (pc + 3) L S I' J' Q) : WP Ω (d + 1) K pc L (v3 :: v2 :: v1 :: S) I J Q :=
  wp_callS (as := [v1, v2, v3]) hd lk mi rfl rfl hw hC (fun r I' J' h => by obtain ⟨rfl, h⟩ := h; exact k I' J' h)
theorem wp_cVI3 {q0 ci y idx : Nat} {v1 v2 v3 : Value} {post : Int32 → MemI → MemJ → Prop} {K' : Mth} (hd : decode K.2.1 pc = .ok (.invokevirtual idx, 3)) (lk : LM K.1.cls idx K') (mi : MIn K' 3) (ha : Ω.1[q0]? = some (0, ci, y)) (hb : Nat.beq q0 1010 = false) (hci : ci < 7) (hc : cNm ci = K'.1.cls) (hw : (S.map fun v => v.category).sum ≤ 8) (hC : CALL Ω d K' [.ref q0, v1, v2, v3] I J (IQ post)) (k : ∀ x I' J', post x I' J' → WP Ω (d + 1) K (pc + 3) L (.int x :: S) I' J' Q) : WP Ω (d + 1) K pc L (v3 :: v2 :: v1 :: .ref q0 :: S) I J Q :=
  wp_callV (as := [v1, v2, v3]) hd lk mi ha hb hci hc rfl rfl hw hC (fun r I' J' h => by obtain ⟨x, rfl, h⟩ := h; exact k x I' J' h)
theorem wp_cSI3 {idx : Nat} {v1 v2 v3 : Value} {post : Int32 → MemI → MemJ → Prop} {K' : Mth} (hd : decode K.2.1 pc = .ok (.invokestatic idx, 3)) (lk : LM K.1.cls idx K') (mi : MSn K' 3) (hw : (S.map fun v => v.category).sum ≤ 8) (hC : CALL Ω d K' [v1, v2, v3] I J (IQ post)) (k : ∀ x I' J', post x I' J' → WP Ω (d + 1) K (pc + 3) L (.int x :: S) I' J' Q) : WP Ω (d + 1) K pc L (v3 :: v2 :: v1 :: S) I J Q :=
  wp_callS (as := [v1, v2, v3]) hd lk mi rfl rfl hw hC (fun r I' J' h => by obtain ⟨x, rfl, h⟩ := h; exact k x I' J' h)
theorem wp_cVP4 {q0 ci y idx : Nat} {v1 v2 v3 v4 : Value} {v : Value} {K' : Mth} (hd : decode K.2.1 pc = .ok (.invokevirtual idx, 3)) (lk : LM K.1.cls idx K') (mi : MIn K' 4) (ha : Ω.1[q0]? = some (0, ci, y)) (hb : Nat.beq q0 1010 = false) (hci : ci < 7) (hc : cNm ci = K'.1.cls) (hw : (S.map fun v => v.category).sum ≤ 8) (hC : CALL Ω d K' [.ref q0, v1, v2, v3, v4] I J (PQ v I J)) (k : WP Ω (d + 1) K (pc + 3) L (v :: S) I J Q) : WP Ω (d + 1) K pc L (v4 :: v3 :: v2 :: v1 :: .ref q0 :: S) I J Q :=
  wp_callV (as := [v1, v2, v3, v4]) hd lk mi ha hb hci hc rfl rfl hw hC (fun r I' J' h => by obtain ⟨rfl, rfl, rfl⟩ := h; exact k)
theorem wp_cSP4 {idx : Nat} {v1 v2 v3 v4 : Value} {v : Value} {K' : Mth} (hd : decode K.2.1 pc = .ok (.invokestatic idx, 3)) (lk : LM K.1.cls idx K') (mi : MSn K' 4) (hw : (S.map fun v => v.category).sum ≤ 8) (hC : CALL Ω d K' [v1, v2, v3, v4] I J (PQ v I J)) (k : WP Ω (d + 1) K (pc + 3) L (v :: S) I J Q) : WP Ω (d + 1) K pc L (v4 :: v3 :: v2 :: v1 :: S) I J Q :=
  wp_callS (as := [v1, v2, v3, v4]) hd lk mi rfl rfl hw hC (fun r I' J' h => by obtain ⟨rfl, rfl, rfl⟩ := h; exact k)
theorem wp_cVV4 {q0 ci y idx : Nat} {v1 v2 v3 v4 : Value} {post : MemI → MemJ → Prop} {K' : Mth} (hd : decode K.2.1 pc = .ok (.invokevirtual idx, 3)) (lk : LM K.1.cls idx K') (mi : MIn K' 4) (ha : Ω.1[q0]? = some (0, ci, y)) (hb : Nat.beq q0 1010 = false) (hci : ci < 7) (hc : cNm ci = K'.1.cls) (hw : (S.map fun v => v.category).sum ≤ 8) (hC : CALL Ω d K' [.ref q0, v1, v2, v3, v4] I J (VQ post)) (k : ∀ I' J', post I' J' → WP Ω (d + 1) K (pc + 3) L S I' J' Q) : WP Ω (d + 1) K pc L (v4 :: v3 :: v2 :: v1 :: .ref q0 :: S) I J Q :=
  wp_callV (as := [v1, v2, v3, v4]) hd lk mi ha hb hci hc rfl rfl hw hC (fun r I' J' h => by obtain ⟨rfl, h⟩ := h; exact k I' J' h)
theorem wp_cSV4 {idx : Nat} {v1 v2 v3 v4 : Value} {post : MemI → MemJ → Prop} {K' : Mth} (hd : decode K.2.1 pc = .ok (.invokestatic idx, 3)) (lk : LM K.1.cls idx K') (mi : MSn K' 4) (hw : (S.map fun v => v.category).sum ≤ 8) (hC : CALL Ω d K' [v1, v2, v3, v4] I J (VQ post)) (k : ∀ I' J', post I' J' → WP Ω (d + 1) K (pc + 3) L S I' J' Q) : WP Ω (d + 1) K pc L (v4 :: v3 :: v2 :: v1 :: S) I J Q :=
  wp_callS (as := [v1, v2, v3, v4]) hd lk mi rfl rfl hw hC (fun r I' J' h => by obtain ⟨rfl, h⟩ := h; exact k I' J' h)
theorem wp_cVI4 {q0 ci y idx : Nat} {v1 v2 v3 v4 : Value} {post : Int32 → MemI → MemJ → Prop} {K' : Mth} (hd : decode K.2.1 pc = .ok (.invokevirtual idx, 3)) (lk : LM K.1.cls idx K') (mi : MIn K' 4) (ha : Ω.1[q0]? = some (0, ci, y)) (hb : Nat.beq q0 1010 = false) (hci : ci < 7) (hc : cNm ci = K'.1.cls) (hw : (S.map fun v => v.category).sum ≤ 8) (hC : CALL Ω d K' [.ref q0, v1, v2, v3, v4] I J (IQ post)) (k : ∀ x I' J', post x I' J' → WP Ω (d + 1) K (pc + 3) L (.int x :: S) I' J' Q) : WP Ω (d + 1) K pc L (v4 :: v3 :: v2 :: v1 :: .ref q0 :: S) I J Q :=
  wp_callV (as := [v1, v2, v3, v4]) hd lk mi ha hb hci hc rfl rfl hw hC (fun r I' J' h => by obtain ⟨x, rfl, h⟩ := h; exact k x I' J' h)
theorem wp_cSI4 {idx : Nat} {v1 v2 v3 v4 : Value} {post : Int32 → MemI → MemJ → Prop} {K' : Mth} (hd : decode K.2.1 pc = .ok (.invokestatic idx, 3)) (lk : LM K.1.cls idx K') (mi : MSn K' 4) (hw : (S.map fun v => v.category).sum ≤ 8) (hC : CALL Ω d K' [v1, v2, v3, v4] I J (IQ post)) (k : ∀ x I' J', post x I' J' → WP Ω (d + 1) K (pc + 3) L (.int x :: S) I' J' Q) : WP Ω (d + 1) K pc L (v4 :: v3 :: v2 :: v1 :: S) I J Q :=
  wp_callS (as := [v1, v2, v3, v4]) hd lk mi rfl rfl hw hC (fun r I' J' h => by obtain ⟨x, rfl, h⟩ := h; exact k x I' J' h)
theorem wp_cVP5 {q0 ci y idx : Nat} {v1 v2 v3 v4 v5 : Value} {v : Value} {K' : Mth} (hd : decode K.2.1 pc = .ok (.invokevirtual idx, 3)) (lk : LM K.1.cls idx K') (mi : MIn K' 5) (ha : Ω.1[q0]? = some (0, ci, y)) (hb : Nat.beq q0 1010 = false) (hci : ci < 7) (hc : cNm ci = K'.1.cls) (hw : (S.map fun v => v.category).sum ≤ 8) (hC : CALL Ω d K' [.ref q0, v1, v2, v3, v4, v5] I J (PQ v I J)) (k : WP Ω (d + 1) K (pc + 3) L (v :: S) I J Q) : WP Ω (d + 1) K pc L (v5 :: v4 :: v3 :: v2 :: v1 :: .ref q0 :: S) I J Q :=
  wp_callV (as := [v1, v2, v3, v4, v5]) hd lk mi ha hb hci hc rfl rfl hw hC (fun r I' J' h => by obtain ⟨rfl, rfl, rfl⟩ := h; exact k)
theorem wp_cSP5 {idx : Nat} {v1 v2 v3 v4 v5 : Value} {v : Value} {K' : Mth} (hd : decode K.2.1 pc = .ok (.invokestatic idx, 3)) (lk : LM K.1.cls idx K') (mi : MSn K' 5) (hw : (S.map fun v => v.category).sum ≤ 8) (hC : CALL Ω d K' [v1, v2, v3, v4, v5] I J (PQ v I J)) (k : WP Ω (d + 1) K (pc + 3) L (v :: S) I J Q) : WP Ω (d + 1) K pc L (v5 :: v4 :: v3 :: v2 :: v1 :: S) I J Q :=
  wp_callS (as := [v1, v2, v3, v4, v5]) hd lk mi rfl rfl hw hC (fun r I' J' h => by obtain ⟨rfl, rfl, rfl⟩ := h; exact k)
theorem wp_cVV5 {q0 ci y idx : Nat} {v1 v2 v3 v4 v5 : Value} {post : MemI → MemJ → Prop} {K' : Mth} (hd : decode K.2.1 pc = .ok (.invokevirtual idx, 3)) (lk : LM K.1.cls idx K') (mi : MIn K' 5) (ha : Ω.1[q0]? = some (0, ci, y)) (hb : Nat.beq q0 1010 = false) (hci : ci < 7) (hc : cNm ci = K'.1.cls) (hw : (S.map fun v => v.category).sum ≤ 8) (hC : CALL Ω d K' [.ref q0, v1, v2, v3, v4, v5] I J (VQ post)) (k : ∀ I' J', post I' J' → WP Ω (d + 1) K (pc + 3) L S I' J' Q) : WP Ω (d + 1) K pc L (v5 :: v4 :: v3 :: v2 :: v1 :: .ref q0 :: S) I J Q :=
  wp_callV (as := [v1, v2, v3, v4, v5]) hd lk mi ha hb hci hc rfl rfl hw hC (fun r I' J' h => by obtain ⟨rfl, h⟩ := h; exact k I' J' h)
theorem wp_cSV5 {idx : Nat} {v1 v2 v3 v4 v5 : Value} {post : MemI → MemJ → Prop} {K' : Mth} (hd : decode K.2.1 pc = .ok (.invokestatic idx, 3)) (lk : LM K.1.cls idx K') (mi : MSn K' 5) (hw : (S.map fun v => v.category).sum ≤ 8) (hC : CALL Ω d K' [v1, v2, v3, v4, v5] I J (VQ post)) (k : ∀ I' J', post I' J' → WP Ω (d + 1) K (pc + 3) L S I' J' Q) : WP Ω (d + 1) K pc L (v5 :: v4 :: v3 :: v2 :: v1 :: S) I J Q :=
  wp_callS (as := [v1, v2, v3, v4, v5]) hd lk mi rfl rfl hw hC (fun r I' J' h => by obtain ⟨rfl, h⟩ := h; exact k I' J' h)
theorem wp_cVI5 {q0 ci y idx : Nat} {v1 v2 v3 v4 v5 : Value} {post : Int32 → MemI → MemJ → Prop} {K' : Mth} (hd : decode K.2.1 pc = .ok (.invokevirtual idx, 3)) (lk : LM K.1.cls idx K') (mi : MIn K' 5) (ha : Ω.1[q0]? = some (0, ci, y)) (hb : Nat.beq q0 1010 = false) (hci : ci < 7) (hc : cNm ci = K'.1.cls) (hw : (S.map fun v => v.category).sum ≤ 8) (hC : CALL Ω d K' [.ref q0, v1, v2, v3, v4, v5] I J (IQ post)) (k : ∀ x I' J', post x I' J' → WP Ω (d + 1) K (pc + 3) L (.int x :: S) I' J' Q) : WP Ω (d + 1) K pc L (v5 :: v4 :: v3 :: v2 :: v1 :: .ref q0 :: S) I J Q :=
  wp_callV (as := [v1, v2, v3, v4, v5]) hd lk mi ha hb hci hc rfl rfl hw hC (fun r I' J' h => by obtain ⟨x, rfl, h⟩ := h; exact k x I' J' h)
theorem wp_cSI5 {idx : Nat} {v1 v2 v3 v4 v5 : Value} {post : Int32 → MemI → MemJ → Prop} {K' : Mth} (hd : decode K.2.1 pc = .ok (.invokestatic idx, 3)) (lk : LM K.1.cls idx K') (mi : MSn K' 5) (hw : (S.map fun v => v.category).sum ≤ 8) (hC : CALL Ω d K' [v1, v2, v3, v4, v5] I J (IQ post)) (k : ∀ x I' J', post x I' J' → WP Ω (d + 1) K (pc + 3) L (.int x :: S) I' J' Q) : WP Ω (d + 1) K pc L (v5 :: v4 :: v3 :: v2 :: v1 :: S) I J Q :=
  wp_callS (as := [v1, v2, v3, v4, v5]) hd lk mi rfl rfl hw hC (fun r I' J' h => by obtain ⟨x, rfl, h⟩ := h; exact k x I' J' h)
end NRW
