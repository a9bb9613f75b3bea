/-! COUNTS OF BITS -/
/-- how many bits -/
def cnt (P : Nat → Bool) : Nat := fb_ct P 16
def swN (m : Nat) : Nat :=
  let a := m - (m / 2 ^ 1 &&& 1431655765)
  let b := (a &&& 858993459) + (a / 2 ^ 2 &&& 858993459)
  let c := (b + b / 2 ^ 4) &&& 252645135
  let e := c + c / 2 ^ 8
  let g := e + e / 2 ^ 16
  g &&& 63
theorem sw_a0 : ∀ a, a < 8 → ∀ b, b < 256 → swN (256 * (0 + a) + b) = fb_ct (fun i => (256 * (0 + a) + b).testBit i) 16 := by decide +kernel
theorem sw_a1 : ∀ a, a < 8 → ∀ b, b < 256 → swN (256 * (8 + a) + b) = fb_ct (fun i => (256 * (8 + a) + b).testBit i) 16 := by decide +kernel
theorem sw_a2 : ∀ a, a < 8 → ∀ b, b < 256 → swN (256 * (16 + a) + b) = fb_ct (fun i => (256 * (16 + a) + b).testBit i) 16 := by decide +kernel
theorem sw_a3 : ∀ a, a < 8 → ∀ b, b < 256 → swN (256 * (24 + a) + b) = fb_ct (fun i => (256 * (24 + a) + b).testBit i) 16 := by decide +kernel
theorem sw_a4 : ∀ a, a < 8 → ∀ b, b < 256 → swN (256 * (32 + a) + b) = fb_ct (fun i => (256 * (32 + a) + b).testBit i) 16 := by decide +kernel
theorem sw_a5 : ∀ a, a < 8 → ∀ b, b < 256 → swN (256 * (40 + a) + b) = fb_ct (fun i => (256 * (40 + a) + b).testBit i) 16 := by decide +kernel
theorem sw_a6 : ∀ a, a < 8 → ∀ b, b < 256 → swN (256 * (48 + a) + b) = fb_ct (fun i => (256 * (48 + a) + b).testBit i) 16 := by decide +kernel
theorem sw_a7 : ∀ a, a < 8 → ∀ b, b < 256 → swN (256 * (56 + a) + b) = fb_ct (fun i => (256 * (56 + a) + b).testBit i) 16 := by decide +kernel
theorem sw_a8 : ∀ a, a < 8 → ∀ b, b < 256 → swN (256 * (64 + a) + b) = fb_ct (fun i => (256 * (64 + a) + b).testBit i) 16 := by decide +kernel
theorem sw_a9 : ∀ a, a < 8 → ∀ b, b < 256 → swN (256 * (72 + a) + b) = fb_ct (fun i => (256 * (72 + a) + b).testBit i) 16 := by decide +kernel
theorem sw_a10 : ∀ a, a < 8 → ∀ b, b < 256 → swN (256 * (80 + a) + b) = fb_ct (fun i => (256 * (80 + a) + b).testBit i) 16 := by decide +kernel
theorem sw_a11 : ∀ a, a < 8 → ∀ b, b < 256 → swN (256 * (88 + a) + b) = fb_ct (fun i => (256 * (88 + a) + b).testBit i) 16 := by decide +kernel
theorem sw_a12 : ∀ a, a < 8 → ∀ b, b < 256 → swN (256 * (96 + a) + b) = fb_ct (fun i => (256 * (96 + a) + b).testBit i) 16 := by decide +kernel
theorem sw_a13 : ∀ a, a < 8 → ∀ b, b < 256 → swN (256 * (104 + a) + b) = fb_ct (fun i => (256 * (104 + a) + b).testBit i) 16 := by decide +kernel
theorem sw_a14 : ∀ a, a < 8 → ∀ b, b < 256 → swN (256 * (112 + a) + b) = fb_ct (fun i => (256 * (112 + a) + b).testBit i) 16 := by decide +kernel
theorem sw_a15 : ∀ a, a < 8 → ∀ b, b < 256 → swN (256 * (120 + a) + b) = fb_ct (fun i => (256 * (120 + a) + b).testBit i) 16 := by decide +kernel
theorem sw_a16 : ∀ a, a < 8 → ∀ b, b < 256 → swN (256 * (128 + a) + b) = fb_ct (fun i => (256 * (128 + a) + b).testBit i) 16 := by decide +kernel
theorem sw_a17 : ∀ a, a < 8 → ∀ b, b < 256 → swN (256 * (136 + a) + b) = fb_ct (fun i => (256 * (136 + a) + b).testBit i) 16 := by decide +kernel
theorem sw_a18 : ∀ a, a < 8 → ∀ b, b < 256 → swN (256 * (144 + a) + b) = fb_ct (fun i => (256 * (144 + a) + b).testBit i) 16 := by decide +kernel
theorem sw_a19 : ∀ a, a < 8 → ∀ b, b < 256 → swN (256 * (152 + a) + b) = fb_ct (fun i => (256 * (152 + a) + b).testBit i) 16 := by decide +kernel
theorem sw_a20 : ∀ a, a < 8 → ∀ b, b < 256 → swN (256 * (160 + a) + b) = fb_ct (fun i => (256 * (160 + a) + b).testBit i) 16 := by decide +kernel
theorem sw_a21 : ∀ a, a < 8 → ∀ b, b < 256 → swN (256 * (168 + a) + b) = fb_ct (fun i => (256 * (168 + a) + b).testBit i) 16 := by decide +kernel
theorem sw_a22 : ∀ a, a < 8 → ∀ b, b < 256 → swN (256 * (176 + a) + b) = fb_ct (fun i => (256 * (176 + a) + b).testBit i) 16 := by decide +kernel
theorem sw_a23 : ∀ a, a < 8 → ∀ b, b < 256 → swN (256 * (184 + a) + b) = fb_ct (fun i => (256 * (184 + a) + b).testBit i) 16 := by decide +kernel
theorem sw_a24 : ∀ a, a < 8 → ∀ b, b < 256 → swN (256 * (192 + a) + b) = fb_ct (fun i => (256 * (192 + a) + b).testBit i) 16 := by decide +kernel
theorem sw_a25 : ∀ a, a < 8 → ∀ b, b < 256 → swN (256 * (200 + a) + b) = fb_ct (fun i => (256 * (200 + a) + b).testBit i) 16 := by decide +kernel
theorem sw_a26 : ∀ a, a < 8 → ∀ b, b < 256 → swN (256 * (208 + a) + b) = fb_ct (fun i => (256 * (208 + a) + b).testBit i) 16 := by decide +kernel
theorem sw_a27 : ∀ a, a < 8 → ∀ b, b < 256 → swN (256 * (216 + a) + b) = fb_ct (fun i => (256 * (216 + a) + b).testBit i) 16 := by decide +kernel
theorem sw_a28 : ∀ a, a < 8 → ∀ b, b < 256 → swN (256 * (224 + a) + b) = fb_ct (fun i => (256 * (224 + a) + b).testBit i) 16 := by decide +kernel
theorem sw_a29 : ∀ a, a < 8 → ∀ b, b < 256 → swN (256 * (232 + a) + b) = fb_ct (fun i => (256 * (232 + a) + b).testBit i) 16 := by decide +kernel
theorem sw_a30 : ∀ a, a < 8 → ∀ b, b < 256 → swN (256 * (240 + a) + b) = fb_ct (fun i => (256 * (240 + a) + b).testBit i) 16 := by decide +kernel
theorem sw_a31 : ∀ a, a < 8 → ∀ b, b < 256 → swN (256 * (248 + a) + b) = fb_ct (fun i => (256 * (248 + a) + b).testBit i) 16 := by decide +kernel
theorem sw_all : ∀ a, a < 256 → ∀ b, b < 256 → swN (256 * a + b) = fb_ct (fun i => (256 * a + b).testBit i) 16 := by
  intro a ha b hb
  by_cases h0 : a < 8
  · have h := sw_a0 (a - 0) (by omega) b hb
    rwa [show 0 + (a - 0) = a by omega] at h
  by_cases h1 : a < 16
  · have h := sw_a1 (a - 8) (by omega) b hb
    rwa [show 8 + (a - 8) = a by omega] at h
  by_cases h2 : a < 24
  · have h := sw_a2 (a - 16) (by omega) b hb
    rwa [show 16 + (a - 16) = a by omega] at h
  by_cases h3 : a < 32
  · have h := sw_a3 (a - 24) (by omega) b hb
    rwa [show 24 + (a - 24) = a by omega] at h
  by_cases h4 : a < 40
  · have h := sw_a4 (a - 32) (by omega) b hb
    rwa [show 32 + (a - 32) = a by omega] at h
  by_cases h5 : a < 48
  · have h := sw_a5 (a - 40) (by omega) b hb
    rwa [show 40 + (a - 40) = a by omega] at h
  by_cases h6 : a < 56
  · have h := sw_a6 (a - 48) (by omega) b hb
    rwa [show 48 + (a - 48) = a by omega] at h
  by_cases h7 : a < 64
  · have h := sw_a7 (a - 56) (by omega) b hb
    rwa [show 56 + (a - 56) = a by omega] at h
  by_cases h8 : a < 72
  · have h := sw_a8 (a - 64) (by omega) b hb
    rwa [show 64 + (a - 64) = a by omega] at h
  by_cases h9 : a < 80
  · have h := sw_a9 (a - 72) (by omega) b hb
    rwa [show 72 + (a - 72) = a by omega] at h
  by_cases h10 : a < 88
  · have h := sw_a10 (a - 80) (by omega) b hb
    rwa [show 80 + (a - 80) = a by omega] at h
  by_cases h11 : a < 96
  · have h := sw_a11 (a - 88) (by omega) b hb
    rwa [show 88 + (a - 88) = a by omega] at h
  by_cases h12 : a < 104
  · have h := sw_a12 (a - 96) (by omega) b hb
    rwa [show 96 + (a - 96) = a by omega] at h
  by_cases h13 : a < 112
  · have h := sw_a13 (a - 104) (by omega) b hb
    rwa [show 104 + (a - 104) = a by omega] at h
  by_cases h14 : a < 120
  · have h := sw_a14 (a - 112) (by omega) b hb
    rwa [show 112 + (a - 112) = a by omega] at h
  by_cases h15 : a < 128
  · have h := sw_a15 (a - 120) (by omega) b hb
    rwa [show 120 + (a - 120) = a by omega] at h
  by_cases h16 : a < 136
  · have h := sw_a16 (a - 128) (by omega) b hb
    rwa [show 128 + (a - 128) = a by omega] at h
  by_cases h17 : a < 144
  · have h := sw_a17 (a - 136) (by omega) b hb
    rwa [show 136 + (a - 136) = a by omega] at h
  by_cases h18 : a < 152
  · have h := sw_a18 (a - 144) (by omega) b hb
    rwa [show 144 + (a - 144) = a by omega] at h
  by_cases h19 : a < 160
  · have h := sw_a19 (a - 152) (by omega) b hb
    rwa [show 152 + (a - 152) = a by omega] at h
  by_cases h20 : a < 168
  · have h := sw_a20 (a - 160) (by omega) b hb
    rwa [show 160 + (a - 160) = a by omega] at h
  by_cases h21 : a < 176
  · have h := sw_a21 (a - 168) (by omega) b hb
    rwa [show 168 + (a - 168) = a by omega] at h
  by_cases h22 : a < 184
  · have h := sw_a22 (a - 176) (by omega) b hb
    rwa [show 176 + (a - 176) = a by omega] at h
  by_cases h23 : a < 192
  · have h := sw_a23 (a - 184) (by omega) b hb
    rwa [show 184 + (a - 184) = a by omega] at h
  by_cases h24 : a < 200
  · have h := sw_a24 (a - 192) (by omega) b hb
    rwa [show 192 + (a - 192) = a by omega] at h
  by_cases h25 : a < 208
  · have h := sw_a25 (a - 200) (by omega) b hb
    rwa [show 200 + (a - 200) = a by omega] at h
  by_cases h26 : a < 216
  · have h := sw_a26 (a - 208) (by omega) b hb
    rwa [show 208 + (a - 208) = a by omega] at h
  by_cases h27 : a < 224
  · have h := sw_a27 (a - 216) (by omega) b hb
    rwa [show 216 + (a - 216) = a by omega] at h
  by_cases h28 : a < 232
  · have h := sw_a28 (a - 224) (by omega) b hb
    rwa [show 224 + (a - 224) = a by omega] at h
  by_cases h29 : a < 240
  · have h := sw_a29 (a - 232) (by omega) b hb
    rwa [show 232 + (a - 232) = a by omega] at h
  by_cases h30 : a < 248
  · have h := sw_a30 (a - 240) (by omega) b hb
    rwa [show 240 + (a - 240) = a by omega] at h
  by_cases h31 : a < 256
  · have h := sw_a31 (a - 248) (by omega) b hb
    rwa [show 248 + (a - 248) = a by omega] at h
  omega
theorem sw_cnt {m : Nat} (h : m < 65536) : swN m = fb_ct (fun i => m.testBit i) 16 := by
  have := sw_all (m / 256) (by omega) (m % 256) (by omega)
  rwa [show 256 * (m / 256) + m % 256 = m by omega] at this
theorem sw_mset (P : Nat → Bool) : swN (mset P) = cnt P := by
  rw [sw_cnt (mset_lt P)]
  exact fb_ct_cong (fun k hk => mset_bit' P hk)
