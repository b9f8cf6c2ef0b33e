/-! rows on bits, shifts and unsigned numbers, to paste: each family out of a closed proof of our own, whole with what it rests on; each by itself clean at Lean in its own claim (generation 39, form 5). Take a family whole -/
/-! ===== Int32 by its bits: bt x i ===== -/
def bt (x : Int32) (i : Nat) : Bool := x.toBitVec.getLsbD i
theorem b_ext {x y : Int32} (h : ∀ i, i < 32 → bt x i = bt y i) : x = y := Int32.toBitVec_inj.mp (BitVec.eq_of_getLsbD_eq (fun i hi => h i hi))
theorem b_or (x y : Int32) (i : Nat) : bt (x ||| y) i = (bt x i || bt y i) := by unfold bt; rw [Int32.toBitVec_or, BitVec.getLsbD_or]
theorem b_and (x y : Int32) (i : Nat) : bt (x &&& y) i = (bt x i && bt y i) := by unfold bt; rw [Int32.toBitVec_and, BitVec.getLsbD_and]
theorem b_xor (x y : Int32) (i : Nat) : bt (x ^^^ y) i = (bt x i ^^ bt y i) := by unfold bt; rw [Int32.toBitVec_xor, BitVec.getLsbD_xor]
theorem b_big {x : Int32} {i : Nat} (h : 32 ≤ i) : bt x i = false := BitVec.getLsbD_of_ge _ _ h
theorem b_255 (i : Nat) : bt 255 i = decide (i < 8) := by
  rcases Nat.lt_or_ge i 32 with h | h
  · exact (by decide +kernel : ∀ i, i < 32 → bt 255 i = decide (i < 8)) i h
  · rw [b_big h, decide_eq_false (by omega)]
theorem b_65535 (i : Nat) : bt 65535 i = decide (i < 16) := by
  rcases Nat.lt_or_ge i 32 with h | h
  · exact (by decide +kernel : ∀ i, i < 32 → bt 65535 i = decide (i < 16)) i h
  · rw [b_big h, decide_eq_false (by omega)]
theorem b_m1 : ∀ i, i < 32 → bt (-1) i = true := by decide +kernel
theorem b_0 (i : Nat) : bt 0 i = false := BitVec.getLsbD_zero
theorem s_l : ∀ n, n < 32 → ((nI n &&& 31).toBitVec.smod 32).toNat = n := by decide +kernel
theorem s_u : ∀ n, n < 32 → (((nI n).toUInt32 &&& Int32.toUInt32 31).toBitVec % 32).toNat = n := by decide +kernel
theorem b_shl (n : Nat) (hn : n < 32) (x : Int32) {i : Nat} (hi : i < 32) : bt (x <<< (nI n &&& 31)) i = (decide (n ≤ i) && bt x (i - n)) := by
  unfold bt
  rw [Int32.toBitVec_shiftLeft]
  show (x.toBitVec <<< ((nI n &&& 31).toBitVec.smod 32).toNat).getLsbD i = _
  rw [s_l n hn, BitVec.getLsbD_shiftLeft]
  rcases Nat.lt_or_ge i n with h | h
  · simp [h, Nat.not_le.mpr h]
  · simp [hi, h, Nat.not_lt.mpr h]
theorem b_ushr (n : Nat) (hn : n < 32) (x : Int32) (i : Nat) : bt ((x.toUInt32 >>> ((nI n).toUInt32 &&& Int32.toUInt32 31)).toInt32) i = bt x (n + i) := by
  show (x.toUInt32 >>> ((nI n).toUInt32 &&& Int32.toUInt32 31)).toBitVec.getLsbD i = x.toUInt32.toBitVec.getLsbD (n + i)
  rw [UInt32.toBitVec_shiftRight]
  show (x.toUInt32.toBitVec >>> (((nI n).toUInt32 &&& Int32.toUInt32 31).toBitVec % 32).toNat).getLsbD i = _
  rw [s_u n hn, BitVec.getLsbD_ushiftRight]
theorem b_sshr (n : Nat) (hn : n < 32) (x : Int32) {i : Nat} (hi : i < 32) : bt (x >>> (nI n &&& 31)) i = if n + i < 32 then bt x (n + i) else bt x 31 := by
  unfold bt
  rw [Int32.toBitVec_shiftRight]
  show (x.toBitVec.sshiftRight ((nI n &&& 31).toBitVec.smod 32).toNat).getLsbD i = _
  rw [s_l n hn, BitVec.getLsbD_sshiftRight, BitVec.msb_eq_getLsbD_last]
  simp [hi]
theorem b_shl8 (x : Int32) {i : Nat} (hi : i < 32) : bt (x <<< ((8 : Int32) &&& 31)) i = (decide (8 ≤ i) && bt x (i - 8)) := b_shl 8 (by omega) x hi
theorem b_shl16 (x : Int32) {i : Nat} (hi : i < 32) : bt (x <<< ((16 : Int32) &&& 31)) i = (decide (16 ≤ i) && bt x (i - 16)) := b_shl 16 (by omega) x hi
theorem b_shl24 (x : Int32) {i : Nat} (hi : i < 32) : bt (x <<< ((24 : Int32) &&& 31)) i = (decide (24 ≤ i) && bt x (i - 24)) := b_shl 24 (by omega) x hi
theorem b_sshr8 (x : Int32) {i : Nat} (hi : i < 32) : bt (x >>> ((8 : Int32) &&& 31)) i = if 8 + i < 32 then bt x (8 + i) else bt x 31 := b_sshr 8 (by omega) x hi
/-! ===== what the roofs and the pieces are, as numbers ===== -/
def findP (P : Nat → Bool) (n : Nat) : Option Nat := (List.range n).find? P
theorem findP_none {P : Nat → Bool} {n : Nat} (h : ∀ q, q < n → P q = false) : findP P n = none := by
  unfold findP
  rw [List.find?_eq_none]
  intro x hx
  rw [h x (List.mem_range.mp hx)]
  decide
theorem findP_none' {P : Nat → Bool} {n : Nat} (h : findP P n = none) : ∀ q, q < n → P q = false := by
  intro q hq
  have := List.find?_eq_none.mp h q (List.mem_range.mpr hq)
  simpa using this
theorem findP_some {P : Nat → Bool} {n j : Nat} (hj : j < n) (hp : P j = true) (h : ∀ q, q < j → P q = false) : findP P n = some j := by
  unfold findP
  rw [List.find?_range_eq_some]
  exact ⟨hp, List.mem_range.mpr hj, fun q hq => by rw [h q hq]; rfl⟩
theorem findP_spec {P : Nat → Bool} {n j : Nat} (h : findP P n = some j) : j < n ∧ P j = true ∧ ∀ q, q < j → P q = false := by
  unfold findP at h
  rw [List.find?_range_eq_some] at h
  exact ⟨List.mem_range.mp h.2.1, h.1, fun q hq => by simpa using h.2.2 q hq⟩
theorem findP_cong {P Q : Nat → Bool} {n : Nat} (h : ∀ q, q < n → P q = Q q) : findP P n = findP Q n := by
  cases e : findP P n with
  | none => exact (findP_none (fun q hq => by rw [← h q hq]; exact findP_none' e q hq)).symm
  | some j =>
    obtain ⟨h1, h2, h3⟩ := findP_spec e
    exact (findP_some h1 (by rw [← h j h1]; exact h2) (fun q hq => by rw [← h q (by omega)]; exact h3 q hq)).symm
def oI : Option Nat → Int32
  | none => -4
  | some q => nI q
theorem nI_ne4 {q : Nat} (h : q < 2 ^ 31) : nI q ≠ -4 := by
  intro e
  have := congrArg Int32.toInt e
  rw [nI_toInt h] at this
  have h2 : (-4 : Int32).toInt = -4 := by decide
  omega
theorem oI_none {a : Option Nat} (h : ∀ q, a = some q → q < 2 ^ 31) : oI a = -4 ↔ a = none := by
  cases a with
  | none => exact ⟨fun _ => rfl, fun _ => rfl⟩
  | some q => exact ⟨fun e => absurd e (nI_ne4 (h q rfl)), fun e => by cases e⟩
theorem oI_nI {a : Option Nat} {j : Nat} (h : ∀ q, a = some q → q < 2 ^ 31) (hj : j < 2 ^ 31) : oI a = nI j ↔ a = some j := by
  cases a with
  | none => exact ⟨fun e => absurd e.symm (nI_ne4 hj), fun e => by cases e⟩
  | some q => rw [oI, nI_eq (h q rfl) hj]; exact ⟨fun e => by rw [e], fun e => by cases e; rfl⟩
theorem at6 {α : Type} {f : Nat → α} {z : α} {j N : Nat} (M : Int32) (hM : M = nI N) (hN : N < 2 ^ 31) (hj : j < N) : (if 0 ≤ nI j ∧ nI j < M then f (nI j).toNatClampNeg else z) = f j := by
  subst hM
  rw [if_pos ⟨nI_pos' (by omega), nI_lt hj hN⟩, nI_clamp (by omega)]
theorem at66 {α : Type} {f : Nat → α} {z : α} {j np : Nat} (hnp : np ≤ 6) (hj : j < np) : (if 0 ≤ nI j ∧ nI j < nI np ∧ nI j < 6 then f (nI j).toNatClampNeg else z) = f j := by
  rw [if_pos ⟨nI_pos' (by omega), nI_lt hj (by omega), nI_lt (show j < 6 by omega) (by decide)⟩, nI_clamp (by omega)]
