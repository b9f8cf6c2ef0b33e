/-! rows on bits, shifts and unsigned numbers, to paste: each family out of a closed proof of our own, whole with what it rests on; each by itself clean at Lean in its own claim (generation 39, form 5). Take a family whole -/
/-! ===== Int32 by its bits: bt x i ===== -/
def bt (x : Int32) (i : Nat) : Bool := x.toBitVec.getLsbD i
theorem b_ext {x y : Int32} (h : ∀ i, i < 32 → bt x i = bt y i) : x = y := Int32.toBitVec_inj.mp (BitVec.eq_of_getLsbD_eq (fun i hi => h i hi))
theorem b_or (x y : Int32) (i : Nat) : bt (x ||| y) i = (bt x i || bt y i) := by unfold bt; rw [Int32.toBitVec_or, BitVec.getLsbD_or]
theorem b_and (x y : Int32) (i : Nat) : bt (x &&& y) i = (bt x i && bt y i) := by unfold bt; rw [Int32.toBitVec_and, BitVec.getLsbD_and]
theorem b_xor (x y : Int32) (i : Nat) : bt (x ^^^ y) i = (bt x i ^^ bt y i) := by unfold bt; rw [Int32.toBitVec_xor, BitVec.getLsbD_xor]
theorem b_big {x : Int32} {i : Nat} (h : 32 ≤ i) : bt x i = false := BitVec.getLsbD_of_ge _ _ h
theorem b_255 (i : Nat) : bt 255 i = decide (i < 8) := by
  rcases Nat.lt_or_ge i 32 with h | h
  · exact (by decide +kernel : ∀ i, i < 32 → bt 255 i = decide (i < 8)) i h
  · rw [b_big h, decide_eq_false (by omega)]
theorem b_65535 (i : Nat) : bt 65535 i = decide (i < 16) := by
  rcases Nat.lt_or_ge i 32 with h | h
  · exact (by decide +kernel : ∀ i, i < 32 → bt 65535 i = decide (i < 16)) i h
  · rw [b_big h, decide_eq_false (by omega)]
theorem b_m1 : ∀ i, i < 32 → bt (-1) i = true := by decide +kernel
theorem b_0 (i : Nat) : bt 0 i = false := BitVec.getLsbD_zero
theorem s_l : ∀ n, n < 32 → ((nI n &&& 31).toBitVec.smod 32).toNat = n := by decide +kernel
theorem s_u : ∀ n, n < 32 → (((nI n).toUInt32 &&& Int32.toUInt32 31).toBitVec % 32).toNat = n := by decide +kernel
theorem b_shl (n : Nat) (hn : n < 32) (x : Int32) {i : Nat} (hi : i < 32) : bt (x <<< (nI n &&& 31)) i = (decide (n ≤ i) && bt x (i - n)) := by
  unfold bt
  rw [Int32.toBitVec_shiftLeft]
  show (x.toBitVec <<< ((nI n &&& 31).toBitVec.smod 32).toNat).getLsbD i = _
  rw [s_l n hn, BitVec.getLsbD_shiftLeft]
  rcases Nat.lt_or_ge i n with h | h
  · simp [h, Nat.not_le.mpr h]
  · simp [hi, h, Nat.not_lt.mpr h]
theorem b_ushr (n : Nat) (hn : n < 32) (x : Int32) (i : Nat) : bt ((x.toUInt32 >>> ((nI n).toUInt32 &&& Int32.toUInt32 31)).toInt32) i = bt x (n + i) := by
  show (x.toUInt32 >>> ((nI n).toUInt32 &&& Int32.toUInt32 31)).toBitVec.getLsbD i = x.toUInt32.toBitVec.getLsbD (n + i)
  rw [UInt32.toBitVec_shiftRight]
  show (x.toUInt32.toBitVec >>> (((nI n).toUInt32 &&& Int32.toUInt32 31).toBitVec % 32).toNat).getLsbD i = _
  rw [s_u n hn, BitVec.getLsbD_ushiftRight]
theorem b_sshr (n : Nat) (hn : n < 32) (x : Int32) {i : Nat} (hi : i < 32) : bt (x >>> (nI n &&& 31)) i = if n + i < 32 then bt x (n + i) else bt x 31 := by
  unfold bt
  rw [Int32.toBitVec_shiftRight]
  show (x.toBitVec.sshiftRight ((nI n &&& 31).toBitVec.smod 32).toNat).getLsbD i = _
  rw [s_l n hn, BitVec.getLsbD_sshiftRight, BitVec.msb_eq_getLsbD_last]
  simp [hi]
theorem b_shl8 (x : Int32) {i : Nat} (hi : i < 32) : bt (x <<< ((8 : Int32) &&& 31)) i = (decide (8 ≤ i) && bt x (i - 8)) := b_shl 8 (by omega) x hi
theorem b_shl16 (x : Int32) {i : Nat} (hi : i < 32) : bt (x <<< ((16 : Int32) &&& 31)) i = (decide (16 ≤ i) && bt x (i - 16)) := b_shl 16 (by omega) x hi
theorem b_shl24 (x : Int32) {i : Nat} (hi : i < 32) : bt (x <<< ((24 : Int32) &&& 31)) i = (decide (24 ≤ i) && bt x (i - 24)) := b_shl 24 (by omega) x hi
theorem b_sshr8 (x : Int32) {i : Nat} (hi : i < 32) : bt (x >>> ((8 : Int32) &&& 31)) i = if 8 + i < 32 then bt x (8 + i) else bt x 31 := b_sshr 8 (by omega) x hi
/-! ===== what the roofs and the pieces are, as numbers ===== -/
def findP (P : Nat → Bool) (n : Nat) : Option Nat := (List.range n).find? P
theorem findP_none {P : Nat → Bool} {n : Nat} (h : ∀ q, q < n → P q = false) : findP P n = none := by
  unfold findP
  rw [List.find?_eq_none]
  intro x hx
  rw [h x (List.mem_range.mp hx)]
  decide
theorem findP_none' {P : Nat → Bool} {n : Nat} (h : findP P n = none) : ∀ q, q < n → P q = false := by
  intro q hq
  have := List.find?_eq_none.mp h q (List.mem_range.mpr hq)
  simpa using this
theorem findP_some {P : Nat → Bool} {n j : Nat} (hj : j < n) (hp : P j = true) (h : ∀ q, q < j → P q = false) : findP P n = some j := by
  unfold findP
  rw [List.find?_range_eq_some]
  exact ⟨hp, List.mem_range.mpr hj, fun q hq => by rw [h q hq]; rfl⟩
theorem findP_spec {P : Nat → Bool} {n j : Nat} (h : findP P n = some j) : j < n ∧ P j = true ∧ ∀ q, q < j → P q = false := by
  unfold findP at h
  rw [List.find?_range_eq_some] at h
  exact ⟨List.mem_range.mp h.2.1, h.1, fun q hq => by simpa using h.2.2 q hq⟩
theorem findP_cong {P Q : Nat → Bool} {n : Nat} (h : ∀ q, q < n → P q = Q q) : findP P n = findP Q n := by
  cases e : findP P n with
  | none => exact (findP_none (fun q hq => by rw [← h q hq]; exact findP_none' e q hq)).symm
  | some j =>
    obtain ⟨h1, h2, h3⟩ := findP_spec e
    exact (findP_some h1 (by rw [← h j h1]; exact h2) (fun q hq => by rw [← h q (by omega)]; exact h3 q hq)).symm
def oI : Option Nat → Int32
  | none => -4
  | some q => nI q
theorem nI_ne4 {q : Nat} (h : q < 2 ^ 31) : nI q ≠ -4 := by
  intro e
  have := congrArg Int32.toInt e
  rw [nI_toInt h] at this
  have h2 : (-4 : Int32).toInt = -4 := by decide
  omega
theorem oI_none {a : Option Nat} (h : ∀ q, a = some q → q < 2 ^ 31) : oI a = -4 ↔ a = none := by
  cases a with
  | none => exact ⟨fun _ => rfl, fun _ => rfl⟩
  | some q => exact ⟨fun e => absurd e (nI_ne4 (h q rfl)), fun e => by cases e⟩
theorem oI_nI {a : Option Nat} {j : Nat} (h : ∀ q, a = some q → q < 2 ^ 31) (hj : j < 2 ^ 31) : oI a = nI j ↔ a = some j := by
  cases a with
  | none => exact ⟨fun e => absurd e.symm (nI_ne4 hj), fun e => by cases e⟩
  | some q => rw [oI, nI_eq (h q rfl) hj]; exact ⟨fun e => by rw [e], fun e => by cases e; rfl⟩
theorem at6 {α : Type} {f : Nat → α} {z : α} {j N : Nat} (M : Int32) (hM : M = nI N) (hN : N < 2 ^ 31) (hj : j < N) : (if 0 ≤ nI j ∧ nI j < M then f (nI j).toNatClampNeg else z) = f j := by
  subst hM
  rw [if_pos ⟨nI_pos' (by omega), nI_lt hj hN⟩, nI_clamp (by omega)]
theorem at66 {α : Type} {f : Nat → α} {z : α} {j np : Nat} (hnp : np ≤ 6) (hj : j < np) : (if 0 ≤ nI j ∧ nI j < nI np ∧ nI j < 6 then f (nI j).toNatClampNeg else z) = f j := by
  rw [if_pos ⟨nI_pos' (by omega), nI_lt hj (by omega), nI_lt (show j < 6 by omega) (by decide)⟩, nI_clamp (by omega)]
abbrev RT : Type := Nat × Nat × Nat × (Nat → Nat) × (Nat → Nat) × (Nat → Nat) × (Nat → Bool)
def rW (F : RT) : Nat := F.1
def rH (F : RT) : Nat := F.2.1
def rN (F : RT) : Nat := F.2.2.1
def rSd (F : RT) : Nat → Nat := F.2.2.2.1
def rKd (F : RT) : Nat → Nat := F.2.2.2.2.1
def rOd (F : RT) : Nat → Nat := F.2.2.2.2.2.1
def rS (F : RT) : Nat → Bool := F.2.2.2.2.2.2
abbrev BT : Type := (Nat → Option Nat) × (Nat → Nat) × Nat
def bP (b : BT) : Nat → Option Nat := b.1
def bO (b : BT) : Nat → Nat := b.2.1
def bM (b : BT) : Nat := b.2.2
def helB (F : RT) (b : BT) (sd i : Nat) : Bool := (List.range (rN F)).any (fun p => rSd F p == sd && bP b p == some i)
def RR (I : Mem) (r : Nat) (F : RT) : Prop :=
  I r 3 = nI (rW F) ∧ I r 4 = nI (rH F) ∧ I r 6 = nI (rN F) ∧ (∀ i, i < 32 → bt (I r 5) i = rS F i) ∧ (∀ p, p < rN F → I (r + 1) p = nI (rSd F p) ∧ I (r + 2) p = nI (rKd F p)) ∧ ∀ w, w < 5 → I (r + 3) w = nI (rOd F w)
def RW (F : RT) : Prop :=
  2 ≤ rW F ∧ rW F ≤ 5 ∧ 2 ≤ rH F ∧ rH F ≤ 5 ∧ rN F ≤ 6 ∧ (∀ p, p < rN F → rSd F p < 2 ∧ rKd F p < 4) ∧ (∀ w, w < 5 → rOd F w ≤ 9) ∧ ∀ i, rS F i = true → i < 25
def BR (I : Mem) (s : Nat) (F : RT) (b : BT) : Prop :=
  I s 3 = nI (bM b) ∧ (∀ p, p < rN F → I (s + 1) p = oI (bP b p) ∧ I (s + 2) p = nI (bO b p)) ∧ ∀ sd, sd < 2 → ∀ i, i < 32 → bt (I (s + 3) sd) i = helB F b sd i
def BW (F : RT) (b : BT) : Prop :=
  bM b < 2 ∧ (∀ p, p < rN F → (∀ q, bP b p = some q → q < 25) ∧ bO b p ≤ 9) ∧ ∀ p q i, p < rN F → q < rN F → bP b p = some i → bP b q = some i → p = q
theorem helB_t {F : RT} {b : BT} {sd i : Nat} : helB F b sd i = true ↔ ∃ p, p < rN F ∧ rSd F p = sd ∧ bP b p = some i := by
  unfold helB
  rw [List.any_eq_true]
  constructor
  · rintro ⟨p, hp, h⟩
    simp only [Bool.and_eq_true, beq_iff_eq] at h
    exact ⟨p, List.mem_range.mp hp, h.1, h.2⟩
  · rintro ⟨p, hp, h1, h2⟩
    exact ⟨p, List.mem_range.mpr hp, by simp [h1, h2]⟩
/-- the piece on a square; whose king is gone; a side's king -/
def pon (F : RT) (b : BT) (i : Nat) : Option Nat := findP (fun p => bP b p == some i) (rN F)
def lostP (F : RT) (b : BT) : Option Nat := findP (fun p => bP b p == none && rKd F p == 0) (rN F)
def lostB (F : RT) (b : BT) : Option Nat := (lostP F b).map (rSd F)
def kingB (F : RT) (sd : Nat) : Option Nat := findP (fun p => rKd F p == 0 && rSd F p == sd) (rN F)
theorem pl_lt {F : RT} {b : BT} (h : BW F b) {p : Nat} (hp : p < rN F) : ∀ q, bP b p = some q → q < 2 ^ 31 := fun q hq => Nat.lt_of_lt_of_le ((h.2.1 p hp).1 q hq) (by decide)
theorem pon_raw {I : Mem} {s : Nat} {F : RT} {b : BT} (hb : BR I s F b) (hw : BW F b) {q : Nat} (hq : q < 2 ^ 31) : findP (fun p => decide (I (s + 1) p = nI q)) (rN F) = pon F b q := by
  unfold pon
  refine findP_cong fun p hp => ?_
  rw [(hb.2.1 p hp).1]
  have := oI_nI (a := bP b p) (pl_lt hw hp) hq
  by_cases e : bP b p = some q
  · rw [decide_eq_true (this.mpr e)]; simp [e]
  · rw [decide_eq_false (fun h => e (this.mp h))]; simp [e]
theorem lost_raw {I : Mem} {s r : Nat} {F : RT} {b : BT} (hr : RR I r F) (hf : RW F) (hb : BR I s F b) (hw : BW F b) : findP (fun p => decide (I (s + 1) p = -4) && decide (I (r + 2) p = 0)) (rN F) = lostP F b := by
  unfold lostP
  refine findP_cong fun p hp => ?_
  rw [(hb.2.1 p hp).1, (hr.2.2.2.2.1 p hp).2]
  have h1 := oI_none (a := bP b p) (pl_lt hw hp)
  have h2 : nI (rKd F p) = 0 ↔ rKd F p = 0 := by
    have := (hf.2.2.2.2.2.1 p hp).2
    rw [show (0 : Int32) = nI 0 from rfl, nI_eq (by omega) (by decide)]
  congr 1
  · by_cases e : bP b p = none
    · rw [decide_eq_true (h1.mpr e)]; simp [e]
    · rw [decide_eq_false (fun h => e (h1.mp h))]
      cases hq : bP b p with
      | none => exact absurd hq e
      | some z => rfl
  · by_cases e : rKd F p = 0
    · rw [decide_eq_true (h2.mpr e)]; simp [e]
    · rw [decide_eq_false (fun h => e (h2.mp h))]; simp [e]
theorem king_raw {I : Mem} {r : Nat} {F : RT} (hr : RR I r F) (hf : RW F) {sd : Nat} (hsd : sd < 2 ^ 31) : findP (fun p => decide (I (r + 2) p = 0) && decide (I (r + 1) p = nI sd)) (rN F) = kingB F sd := by
  unfold kingB
  refine findP_cong fun p hp => ?_
  rw [(hr.2.2.2.2.1 p hp).1, (hr.2.2.2.2.1 p hp).2]
  have h3 := hf.2.2.2.2.2.1 p hp
  have h2 : nI (rKd F p) = 0 ↔ rKd F p = 0 := by
    rw [show (0 : Int32) = nI 0 from rfl, nI_eq (by omega) (by decide)]
  have h4 : nI (rSd F p) = nI sd ↔ rSd F p = sd := nI_eq (by omega) hsd
  congr 1
  · by_cases e : rKd F p = 0
    · rw [decide_eq_true (h2.mpr e)]; simp [e]
    · rw [decide_eq_false (fun h => e (h2.mp h))]; simp [e]
  · by_cases e : rSd F p = sd
    · rw [decide_eq_true (h4.mpr e)]; simp [e]
    · rw [decide_eq_false (fun h => e (h4.mp h))]; simp [e]
def ctP (P : Nat → Bool) : Nat → Nat
  | 0 => 0
  | k + 1 => ctP P k + (if P k then 1 else 0)
def smP (f : Nat → Nat) : Nat → Nat
  | 0 => 0
  | k + 1 => smP f k + f k
theorem smP_le {f : Nat → Nat} {c : Nat} : ∀ {k : Nat}, (∀ q, q < k → f q ≤ c) → smP f k ≤ k * c
  | 0, _ => by simp [smP]
  | k + 1, h => by
    have h1 := smP_le (k := k) (fun q hq => h q (by omega))
    have h2 := h k (by omega)
    rw [smP, Nat.succ_mul]
    omega
theorem ctP_le (P : Nat → Bool) : ∀ k, ctP P k ≤ k
  | 0 => Nat.le_refl _
  | k + 1 => by
    have := ctP_le P k
    rw [ctP]
    split <;> omega
def smI (f : Nat → Int32) : Nat → Int32
  | 0 => 0
  | k + 1 => smI f k + f k
theorem smI_nI {f : Nat → Int32} {g : Nat → Nat} : ∀ {k : Nat}, (∀ q, q < k → f q = nI (g q)) → smI f k = nI (smP g k)
  | 0, _ => rfl
  | k + 1, h => by rw [smI, smP, smI_nI (fun q hq => h q (by omega)), h k (by omega), nI_add]
/-! ===== the squares as it blows ===== -/
def nxt (w h q wd : Nat) : Option Nat :=
  if w * h ≤ q then none
  else if wd = 0 then (if w ≤ q then some (q - w) else none)
  else if wd = 1 then (if q % w < w - 1 then some (q + 1) else none)
  else if wd = 2 then (if q + w < w * h then some (q + w) else none)
  else if wd = 3 then (if 0 < q % w then some (q - 1) else none)
  else none
theorem nxt_lt {w h q wd a : Nat} (hw : w ≤ 5) (hh : h ≤ 5) (e : nxt w h q wd = some a) : a < w * h ∧ a < 25 := by
  have hm : w * h ≤ 5 * 5 := Nat.mul_le_mul hw hh
  unfold nxt at e
  split at e
  · cases e
  · split at e
    · split at e
      · cases e; omega
      · cases e
    · split at e
      · split at e
        · cases e
          rename_i h1 _ _ h2
          refine ⟨?_, ?_⟩
          · have := Nat.div_add_mod q w
            have hq : q < w * h := by omega
            have h3 : q / w < h := Nat.div_lt_of_lt_mul hq
            have h4 : w * (q / w + 1) ≤ w * h := Nat.mul_le_mul_left w h3
            rw [Nat.mul_add] at h4
            omega
          · have := Nat.div_add_mod q w
            have hq : q < w * h := by omega
            have h3 : q / w < h := Nat.div_lt_of_lt_mul hq
            have h4 : w * (q / w + 1) ≤ w * h := Nat.mul_le_mul_left w h3
            rw [Nat.mul_add] at h4
            omega
        · cases e
      · split at e
        · split at e
          · cases e; omega
          · cases e
        · split at e
          · split at e
            · cases e; omega
            · cases e
          · cases e
def nxtO (F : RT) (a : Option Nat) (wd : Nat) : Option Nat := a.bind (fun q => nxt (rW F) (rH F) q wd)
theorem nxtO_lt {F : RT} (hf : RW F) {a : Option Nat} {wd q : Nat} (e : nxtO F a wd = some q) : q < 25 := by
  unfold nxtO at e
  cases a with
  | none => cases e
  | some z => exact (nxt_lt hf.2.1 hf.2.2.2.1 e).2
theorem oI_neg {a : Option Nat} (h : ∀ q, a = some q → q < 25) : oI a < 0 ↔ a = none := by
  cases a with
  | none => exact ⟨fun _ => rfl, fun _ => by decide⟩
  | some q => exact ⟨fun e => absurd e (nI_pos (by have := h q rfl; omega)), fun e => by cases e⟩
theorem bitO_at {a : Option Nat} (h : ∀ q, a = some q → q < 25) {i : Nat} (hi : i < 32) : bt (bitO (oI a)) i = (a == some i) := by
  cases a with
  | none =>
    have : bitO (oI none) = 0 := by decide
    rw [this, b_0]; rfl
  | some q =>
    have hq := h q rfl
    unfold bitO oI
    rw [if_pos ⟨nI_pos' (by omega), nI_lt (b := 25) hq (by decide)⟩, b_shl q (by omega) 1 hi]
    have h1 : ∀ k, k < 32 → bt 1 k = decide (k = 0) := by decide +kernel
    rw [h1 _ (by omega)]
    by_cases e : q = i
    · subst e; simp
    · by_cases e2 : q ≤ i
      · have : ¬ (i - q = 0) := by omega
        simp [e2, this, e]
      · simp [e2, e]
theorem bt_zero {x : Int32} : x = 0 ↔ ∀ i, i < 32 → bt x i = false := by
  constructor
  · rintro rfl i _; exact b_0 i
  · intro h; exact b_ext fun i hi => by rw [h i hi, b_0]
