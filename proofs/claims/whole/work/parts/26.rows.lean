/-! ===== how many bits are set ===== -/
def hf (B : Nat) : Nat → (Nat → Nat) → Nat
  | 0, _ => 0
  | k + 1, f => f 0 + B * hf B k (fun i => f (i + 1))
theorem hf_cong {B : Nat} : ∀ {k : Nat} {f g : Nat → Nat}, (∀ i, i < k → f i = g i) → hf B k f = hf B k g
  | 0, _, _, _ => rfl
  | k + 1, f, g, h => by rw [hf, hf, h 0 (Nat.succ_pos k), hf_cong (fun i hi => h (i + 1) (by omega))]
theorem land_dig {m a c u v : Nat} (ha : a < 2 ^ m) (hc : c < 2 ^ m) : (a + 2 ^ m * u) &&& (c + 2 ^ m * v) = (a &&& c) + 2 ^ m * (u &&& v) := by
  have hp : 0 < 2 ^ m := Nat.pow_pos (by decide)
  have q := Nat.mod_add_div ((a + 2 ^ m * u) &&& (c + 2 ^ m * v)) (2 ^ m)
  rw [Nat.and_mod_two_pow, Nat.and_div_two_pow, Nat.add_mul_mod_self_left, Nat.add_mul_mod_self_left, Nat.mod_eq_of_lt ha, Nat.mod_eq_of_lt hc, Nat.add_mul_div_left _ _ hp, Nat.add_mul_div_left _ _ hp, Nat.div_eq_of_lt ha, Nat.div_eq_of_lt hc, Nat.zero_add, Nat.zero_add] at q
  exact q.symm
theorem hf_land {m : Nat} : ∀ {k : Nat} {f g : Nat → Nat}, (∀ i, i < k → f i < 2 ^ m) → (∀ i, i < k → g i < 2 ^ m) → hf (2 ^ m) k f &&& hf (2 ^ m) k g = hf (2 ^ m) k (fun i => f i &&& g i)
  | 0, _, _, _, _ => Nat.and_self 0
  | k + 1, f, g, h1, h2 => by
    have ih := hf_land (m := m) (k := k) (f := fun i => f (i + 1)) (g := fun i => g (i + 1)) (fun i hi => h1 (i + 1) (by omega)) (fun i hi => h2 (i + 1) (by omega))
    rw [hf, hf, hf, land_dig (h1 0 (Nat.succ_pos k)) (h2 0 (Nat.succ_pos k)), ih]
theorem hf_div {B k : Nat} {f : Nat → Nat} (h0 : f 0 < B) : hf B (k + 1) f / B = hf B k (fun i => f (i + 1)) := by
  rw [hf, Nat.add_mul_div_left _ _ (by omega), Nat.div_eq_of_lt h0, Nat.zero_add]
theorem hf_bits : ∀ (k n : Nat), n < 2 ^ k → n = hf 2 k (fun i => if n.testBit i = true then 1 else 0)
  | 0, n, h => by
    have : n = 0 := by rw [Nat.pow_zero] at h; omega
    rw [this]; rfl
  | k + 1, n, h => by
    have h2 : n / 2 < 2 ^ k := by rw [Nat.pow_succ] at h; omega
    have ih := hf_bits k (n / 2) h2
    have e : hf 2 k (fun i => if n.testBit (i + 1) = true then 1 else 0) = hf 2 k (fun i => if (n / 2).testBit i = true then 1 else 0) := hf_cong (fun i _ => by rw [Nat.testBit_succ])
    rw [hf, e, ← ih, Nat.testBit_zero]
    by_cases h1 : n % 2 = 1
    · rw [if_pos (by simpa using h1)]; omega
    · rw [if_neg (by simpa using h1)]; omega
def vU (x : Int32) : Nat := x.toBitVec.toNat
theorem vU_lt (x : Int32) : vU x < 2 ^ 32 := x.toBitVec.isLt
theorem vU_and (x y : Int32) : vU (x &&& y) = vU x &&& vU y := by unfold vU; rw [Int32.toBitVec_and, BitVec.toNat_and]
theorem vU_add (x y : Int32) : vU (x + y) = (vU x + vU y) % 2 ^ 32 := by unfold vU; rw [Int32.toBitVec_add, BitVec.toNat_add]
theorem vU_sub (x y : Int32) : vU (x - y) = (2 ^ 32 - vU y + vU x) % 2 ^ 32 := by unfold vU; rw [Int32.toBitVec_sub, BitVec.toNat_sub]
theorem vU_shr (n : Nat) (hn : n < 32) (x : Int32) : vU ((x.toUInt32 >>> ((nI n).toUInt32 &&& Int32.toUInt32 31)).toInt32) = vU x / 2 ^ n := by
  show (x.toUInt32 >>> ((nI n).toUInt32 &&& Int32.toUInt32 31)).toBitVec.toNat = x.toUInt32.toBitVec.toNat / 2 ^ n
  rw [UInt32.toBitVec_shiftRight]
  show (x.toUInt32.toBitVec >>> (((nI n).toUInt32 &&& Int32.toUInt32 31).toBitVec % 32).toNat).toNat = _
  rw [s_u n hn, BitVec.toNat_ushiftRight, Nat.shiftRight_eq_div_pow]
theorem vU_inj {x y : Int32} (h : vU x = vU y) : x = y := Int32.toBitVec_inj.mp (BitVec.eq_of_toNat_eq h)
theorem vU_nI {n : Nat} (h : n < 2 ^ 32) : vU (nI n) = n := by
  show (BitVec.ofNat 32 n).toNat = n
  rw [BitVec.toNat_ofNat, Nat.mod_eq_of_lt h]
theorem land_3 : ∀ c, c < 3 → c &&& 3 = c := by decide
theorem land_15 : ∀ c, c < 9 → c &&& 15 = c := by decide
def bcA (x : Int32) : Int32 := x - (((x.toUInt32 >>> ((1 : Int32).toUInt32 &&& Int32.toUInt32 31)).toInt32) &&& 1431655765)
def bcB (a : Int32) : Int32 := (a &&& 858993459) + (((a.toUInt32 >>> ((2 : Int32).toUInt32 &&& Int32.toUInt32 31)).toInt32) &&& 858993459)
def bcC (b : Int32) : Int32 := (b + ((b.toUInt32 >>> ((4 : Int32).toUInt32 &&& Int32.toUInt32 31)).toInt32)) &&& 252645135
def bcD (c : Int32) : Int32 := c + ((c.toUInt32 >>> ((8 : Int32).toUInt32 &&& Int32.toUInt32 31)).toInt32)
def bcE (d : Int32) : Int32 := d + ((d.toUInt32 >>> ((16 : Int32).toUInt32 &&& Int32.toUInt32 31)).toInt32)
theorem bcnt_split (x : Int32) : bcnt x = bcE (bcD (bcC (bcB (bcA x)))) &&& 63 := rfl
set_option maxHeartbeats 2000000 in
theorem bcA_v {x : Int32} {b : Nat → Nat} (hb : ∀ i, b i ≤ 1) (hx : vU x = hf 2 32 b) : vU (bcA x) = hf 4 16 (fun j => b (2 * j) + b (2 * j + 1)) := by
  have hm : vU 1431655765 = hf 2 31 (fun i => 1 - i % 2) := by decide +kernel
  have hs : vU (((x.toUInt32 >>> ((1 : Int32).toUInt32 &&& Int32.toUInt32 31)).toInt32) &&& 1431655765) = hf 2 31 (fun i => b (i + 1) &&& (1 - i % 2)) := by
    rw [vU_and, hm]
    have h1 : vU ((x.toUInt32 >>> ((1 : Int32).toUInt32 &&& Int32.toUInt32 31)).toInt32) = vU x / 2 := vU_shr 1 (by decide) x
    rw [h1, hx, hf_div (by have := hb 0; omega)]
    exact hf_land (m := 1) (fun i _ => by have := hb (i + 1); show b (i + 1) < 2; omega) (fun i _ => by show 1 - i % 2 < 2; omega)
  have h1 : ∀ i, b i &&& 1 = b i := fun i => by rw [Nat.and_one_is_mod]; exact Nat.mod_eq_of_lt (by have := hb i; omega)
  have hlt := vU_lt x
  unfold bcA
  rw [vU_sub, hs]
  rw [hx] at hlt ⊢
  simp only [hf, Nat.reduceAdd, Nat.reduceMod, Nat.reduceSub, Nat.reduceMul, h1, Nat.and_zero] at hlt ⊢
  have q : b 0 ≤ 1 ∧ b 1 ≤ 1 ∧ b 2 ≤ 1 ∧ b 3 ≤ 1 ∧ b 4 ≤ 1 ∧ b 5 ≤ 1 ∧ b 6 ≤ 1 ∧ b 7 ≤ 1 ∧ b 8 ≤ 1 ∧ b 9 ≤ 1 ∧ b 10 ≤ 1 ∧ b 11 ≤ 1 ∧ b 12 ≤ 1 ∧ b 13 ≤ 1 ∧ b 14 ≤ 1 ∧ b 15 ≤ 1 ∧ b 16 ≤ 1 ∧ b 17 ≤ 1 ∧ b 18 ≤ 1 ∧ b 19 ≤ 1 ∧ b 20 ≤ 1 ∧ b 21 ≤ 1 ∧ b 22 ≤ 1 ∧ b 23 ≤ 1 ∧ b 24 ≤ 1 ∧ b 25 ≤ 1 ∧ b 26 ≤ 1 ∧ b 27 ≤ 1 ∧ b 28 ≤ 1 ∧ b 29 ≤ 1 ∧ b 30 ≤ 1 ∧ b 31 ≤ 1 := by refine ⟨hb 0, hb 1, hb 2, hb 3, hb 4, hb 5, hb 6, hb 7, hb 8, hb 9, hb 10, hb 11, hb 12, hb 13, hb 14, hb 15, hb 16, hb 17, hb 18, hb 19, hb 20, hb 21, hb 22, hb 23, hb 24, hb 25, hb 26, hb 27, hb 28, hb 29, hb 30, hb 31⟩
  omega
set_option maxHeartbeats 2000000 in
theorem bcB_v {x : Int32} {c : Nat → Nat} (hc : ∀ i, c i ≤ 2) (hx : vU x = hf 4 16 c) : vU (bcB x) = hf 16 8 (fun j => c (2 * j) + c (2 * j + 1)) := by
  have hm : vU 858993459 = hf 4 16 (fun i => if i % 2 = 0 then 3 else 0) := by decide +kernel
  have hm2 : vU 858993459 = hf 4 15 (fun i => if i % 2 = 0 then 3 else 0) := by decide +kernel
  have hs : vU (x &&& 858993459) = hf 4 16 (fun i => c i &&& (if i % 2 = 0 then 3 else 0)) := by
    rw [vU_and, hm, hx]
    exact hf_land (m := 2) (fun i _ => by have := hc i; show c i < 4; omega) (fun i _ => by show (if i % 2 = 0 then 3 else 0) < 4; split <;> omega)
  have ht : vU (((x.toUInt32 >>> ((2 : Int32).toUInt32 &&& Int32.toUInt32 31)).toInt32) &&& 858993459) = hf 4 15 (fun i => c (i + 1) &&& (if i % 2 = 0 then 3 else 0)) := by
    rw [vU_and, hm2]
    have h1 : vU ((x.toUInt32 >>> ((2 : Int32).toUInt32 &&& Int32.toUInt32 31)).toInt32) = vU x / 4 := vU_shr 2 (by decide) x
    rw [h1, hx, hf_div (by have := hc 0; omega)]
    exact hf_land (m := 2) (fun i _ => by have := hc (i + 1); show c (i + 1) < 4; omega) (fun i _ => by show (if i % 2 = 0 then 3 else 0) < 4; split <;> omega)
  have h3 : ∀ i, c i &&& 3 = c i := fun i => land_3 _ (by have := hc i; omega)
  unfold bcB
  rw [vU_add, hs, ht]
  simp only [hf, Nat.reduceAdd, Nat.reduceMod, Nat.reduceSub, Nat.reduceMul, if_true, if_false, Nat.reduceEqDiff, ↓reduceIte, Nat.one_ne_zero, h3, Nat.and_zero]
  have q : c 0 ≤ 2 ∧ c 1 ≤ 2 ∧ c 2 ≤ 2 ∧ c 3 ≤ 2 ∧ c 4 ≤ 2 ∧ c 5 ≤ 2 ∧ c 6 ≤ 2 ∧ c 7 ≤ 2 ∧ c 8 ≤ 2 ∧ c 9 ≤ 2 ∧ c 10 ≤ 2 ∧ c 11 ≤ 2 ∧ c 12 ≤ 2 ∧ c 13 ≤ 2 ∧ c 14 ≤ 2 ∧ c 15 ≤ 2 := by refine ⟨hc 0, hc 1, hc 2, hc 3, hc 4, hc 5, hc 6, hc 7, hc 8, hc 9, hc 10, hc 11, hc 12, hc 13, hc 14, hc 15⟩
  omega
set_option maxHeartbeats 2000000 in
theorem bcC_v {x : Int32} {d : Nat → Nat} (hd : ∀ i, d i ≤ 4) (hx : vU x = hf 16 8 d) : vU (bcC x) = hf 256 4 (fun j => d (2 * j) + d (2 * j + 1)) := by
  have hm : vU 252645135 = hf 16 8 (fun i => if i % 2 = 0 then 15 else 0) := by decide +kernel
  have h1 : vU ((x.toUInt32 >>> ((4 : Int32).toUInt32 &&& Int32.toUInt32 31)).toInt32) = vU x / 16 := vU_shr 4 (by decide) x
  have q : d 0 ≤ 4 ∧ d 1 ≤ 4 ∧ d 2 ≤ 4 ∧ d 3 ≤ 4 ∧ d 4 ≤ 4 ∧ d 5 ≤ 4 ∧ d 6 ≤ 4 ∧ d 7 ≤ 4 := by refine ⟨hd 0, hd 1, hd 2, hd 3, hd 4, hd 5, hd 6, hd 7⟩
  have hs : vU (x + ((x.toUInt32 >>> ((4 : Int32).toUInt32 &&& Int32.toUInt32 31)).toInt32)) = hf 16 8 (fun i => if i = 7 then d 7 else d i + d (i + 1)) := by
    rw [vU_add, h1, hx, hf_div (by have := hd 0; omega)]
    simp only [hf, Nat.reduceAdd, Nat.reduceEqDiff, ↓reduceIte]
    omega
  have h15 : ∀ i j, d i + d j &&& 15 = d i + d j := fun i j => land_15 _ (by have := hd i; have := hd j; omega)
  unfold bcC
  rw [vU_and, hs, hm, hf_land (m := 4) (fun i _ => by have := hd 7; have := hd i; have := hd (i + 1); show (if i = 7 then d 7 else d i + d (i + 1)) < 16; split <;> omega) (fun i _ => by show (if i % 2 = 0 then 15 else 0) < 16; split <;> omega)]
  simp only [hf, Nat.reduceAdd, Nat.reduceMod, Nat.reduceSub, Nat.reduceMul, Nat.reduceEqDiff, ↓reduceIte, Nat.one_ne_zero, h15, Nat.and_zero, Nat.reducePow]
  omega
theorem bcE_v {x : Int32} {e : Nat → Nat} (he : ∀ i, e i ≤ 8) (hx : vU x = hf 256 4 e) : vU (bcE (bcD x) &&& 63) = e 0 + e 1 + e 2 + e 3 := by
  have h8 : ∀ z : Int32, vU ((z.toUInt32 >>> ((8 : Int32).toUInt32 &&& Int32.toUInt32 31)).toInt32) = vU z / 256 := fun z => vU_shr 8 (by decide) z
  have h16 : ∀ z : Int32, vU ((z.toUInt32 >>> ((16 : Int32).toUInt32 &&& Int32.toUInt32 31)).toInt32) = vU z / 65536 := fun z => vU_shr 16 (by decide) z
  have q : e 0 ≤ 8 ∧ e 1 ≤ 8 ∧ e 2 ≤ 8 ∧ e 3 ≤ 8 := ⟨he 0, he 1, he 2, he 3⟩
  have h63 : vU (63 : Int32) = 2 ^ 6 - 1 := by decide +kernel
  rw [vU_and, h63, Nat.and_two_pow_sub_one_eq_mod]
  have hd : vU (bcD x) = (e 0 + e 1) + 256 * (e 1 + e 2) + 65536 * (e 2 + e 3) + 16777216 * e 3 := by
    unfold bcD
    rw [vU_add, h8, hx]
    simp only [hf, Nat.reduceAdd, Nat.reducePow]
    omega
  unfold bcE
  rw [vU_add, h16, hd]
  have h5 : ((e 0 + e 1) + 256 * (e 1 + e 2) + 65536 * (e 2 + e 3) + 16777216 * e 3) / 65536 = (e 2 + e 3) + 256 * e 3 := by omega
  rw [h5]
  simp only [Nat.reducePow]
  omega
set_option maxHeartbeats 2000000 in
theorem bcnt_eq (x : Int32) : bcnt x = nI (ctP (fun i => bt x i) 32) := by
  obtain ⟨b, hb⟩ : ∃ b : Nat → Nat, b = fun i => if bt x i = true then 1 else 0 := ⟨_, rfl⟩
  have hb1 : ∀ i, b i ≤ 1 := fun i => by rw [hb]; show (if bt x i = true then 1 else 0) ≤ 1; split <;> omega
  have hx : vU x = hf 2 32 b := by rw [hb]; exact hf_bits 32 (vU x) (vU_lt x)
  have hA := bcA_v hb1 hx
  have hB := bcB_v (c := fun j => b (2 * j) + b (2 * j + 1)) (fun i => by have := hb1 (2 * i); have := hb1 (2 * i + 1); show b (2 * i) + b (2 * i + 1) ≤ 2; omega) hA
  have hC := bcC_v (fun i => by
    have h1 := hb1 (2 * (2 * i)); have h2 := hb1 (2 * (2 * i) + 1); have h3 := hb1 (2 * (2 * i + 1)); have h4 := hb1 (2 * (2 * i + 1) + 1)
    show b (2 * (2 * i)) + b (2 * (2 * i) + 1) + (b (2 * (2 * i + 1)) + b (2 * (2 * i + 1) + 1)) ≤ 4
    omega) hB
  have hE := bcE_v (fun i => by
    have h1 := hb1 (2 * (2 * (2 * i))); have h2 := hb1 (2 * (2 * (2 * i)) + 1); have h3 := hb1 (2 * (2 * (2 * i) + 1)); have h4 := hb1 (2 * (2 * (2 * i) + 1) + 1)
    have h5 := hb1 (2 * (2 * (2 * i + 1))); have h6 := hb1 (2 * (2 * (2 * i + 1)) + 1); have h7 := hb1 (2 * (2 * (2 * i + 1) + 1)); have h8 := hb1 (2 * (2 * (2 * i + 1) + 1) + 1)
    show b (2 * (2 * (2 * i))) + b (2 * (2 * (2 * i)) + 1) + (b (2 * (2 * (2 * i) + 1)) + b (2 * (2 * (2 * i) + 1) + 1)) + (b (2 * (2 * (2 * i + 1))) + b (2 * (2 * (2 * i + 1)) + 1) + (b (2 * (2 * (2 * i + 1) + 1)) + b (2 * (2 * (2 * i + 1) + 1) + 1))) ≤ 8
    omega) hC
  have hct := ctP_le (fun i => bt x i) 32
  apply vU_inj
  rw [bcnt_split, hE, vU_nI (by omega)]
  have hct2 : ctP (fun i => bt x i) 32 = b 0 + b 1 + b 2 + b 3 + b 4 + b 5 + b 6 + b 7 + b 8 + b 9 + b 10 + b 11 + b 12 + b 13 + b 14 + b 15 + b 16 + b 17 + b 18 + b 19 + b 20 + b 21 + b 22 + b 23 + b 24 + b 25 + b 26 + b 27 + b 28 + b 29 + b 30 + b 31 := by
    rw [hb]
    simp only [ctP, Nat.zero_add]
  rw [hct2]
  simp only [Nat.reduceMul, Nat.reduceAdd]
  omega
