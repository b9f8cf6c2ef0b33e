/-! ===== by gales: how likely a king is taken ===== -/
def bstK (wants : Bool) (f : Nat → Nat) : Nat → Option (Nat × Nat)
  | 0 => none
  | k + 1 => match bstK wants f k with
    | none => some (f k, k)
    | some (a, i) => if (if wants = true then a < f k else f k < a) then some (f k, k) else some (a, i)
def cntM (F : RT) (b : BT) (w : Nat) : Nat := if (mvs F b w).length = 0 then 1 else (mvs F b w).length
def val (F : RT) (sd : Nat) : Nat → BT → Nat
  | 0, b => match lostB F b with
    | some l => if l = sd then 0 else 1
    | none => 0
  | k + 1, b => match lostB F b with
    | some l => if l = sd then 0 else pw (allO F) (k + 1)
    | none => smP (fun w => rOd F w * ((bstK (bM b == sd) (fun i => val F sd k (playB F b w ((mvs F b w)[i]?))) (cntM F b w)).map (fun q => q.1)).getD 0) 5
def valF (F : RT) (sd k : Nat) (b : BT) (w i : Nat) : Nat := val F sd k (playB F b w ((mvs F b w)[i]?))
def valB (F : RT) (sd k : Nat) (b : BT) (w : Nat) : Option (Nat × Nat) := bstK (bM b == sd) (valF F sd k b w) (cntM F b w)
def valW (F : RT) (sd k : Nat) (b : BT) (w : Nat) : Nat := ((valB F sd k b w).map (fun q => q.1)).getD 0
def chW (F : RT) (sd k : Nat) (b : BT) (w : Nat) : Option Nat := if (mvs F b w).length = 0 then none else (valB F sd k b w).map (fun q => q.2)
theorem val_succ {F : RT} {sd k : Nat} {b : BT} (h : lostB F b = none) : val F sd (k + 1) b = smP (fun w => rOd F w * valW F sd k b w) 5 := by
  rw [val, h]; rfl
theorem bstK_some {wants : Bool} {f : Nat → Nat} : ∀ {k : Nat}, 0 < k → ∃ a i, bstK wants f k = some (a, i) ∧ i < k ∧ f i = a
  | k + 1, _ => by
    rw [bstK]
    cases h : bstK wants f k with
    | none => exact ⟨f k, k, rfl, Nat.lt_succ_self k, rfl⟩
    | some q =>
      obtain ⟨a, i⟩ := q
      have hk : 0 < k := by
        cases k with
        | zero => rw [bstK] at h; cases h
        | succ k => exact Nat.succ_pos k
      obtain ⟨a2, i2, h2, h3, h4⟩ := bstK_some (wants := wants) (f := f) hk
      rw [h] at h2
      cases h2
      show ∃ a_1 i_1, (if (if wants = true then a < f k else f k < a) then some (f k, k) else some (a, i)) = some (a_1, i_1) ∧ _
      by_cases hc : (if wants = true then a < f k else f k < a)
      · rw [if_pos hc]; exact ⟨f k, k, rfl, Nat.lt_succ_self k, rfl⟩
      · rw [if_neg hc]; exact ⟨a, i, rfl, by omega, h4⟩
theorem bstK_cong {wants : Bool} {f g : Nat → Nat} : ∀ {k : Nat}, (∀ i, i < k → f i = g i) → bstK wants f k = bstK wants g k
  | 0, _ => rfl
  | k + 1, h => by rw [bstK, bstK, bstK_cong (fun i hi => h i (by omega)), h k (Nat.lt_succ_self k)]
/-- once the utmost is reached, it stays *)-/
theorem bstK_stop {wants : Bool} {f : Nat → Nat} {a i k : Nat} (h : bstK wants f k = some (a, i)) (hu : ∀ j, (if wants = true then f j ≤ a else a ≤ f j)) : ∀ m, bstK wants f (k + m) = some (a, i)
  | 0 => h
  | m + 1 => by
    rw [← Nat.add_assoc, bstK, bstK_stop h hu m]
    show (if (if wants = true then a < f (k + m) else f (k + m) < a) then some (f (k + m), k + m) else some (a, i)) = some (a, i)
    have := hu (k + m)
    rw [if_neg]
    cases wants <;> simp at this ⊢ <;> omega
theorem pw_pos {a : Nat} (h : 0 < a) : ∀ k, 0 < pw a k
  | 0 => Nat.one_pos
  | k + 1 => Nat.mul_pos (pw_pos h k) h
theorem smP_add {f g : Nat → Nat} : ∀ k, smP (fun i => f i + g i) k = smP f k + smP g k
  | 0 => rfl
  | k + 1 => by rw [smP, smP_add k, smP, smP]; omega
theorem smP_mono {f g : Nat → Nat} : ∀ {k : Nat}, (∀ i, i < k → f i ≤ g i) → smP f k ≤ smP g k
  | 0, _ => Nat.le_refl _
  | k + 1, h => by
    rw [smP, smP]
    have h1 := smP_mono (k := k) (fun i hi => h i (by omega))
    have h2 := h k (Nat.lt_succ_self k)
    omega
theorem smP_mul {f : Nat → Nat} {c : Nat} : ∀ k, smP (fun i => f i * c) k = smP f k * c
  | 0 => by simp [smP]
  | k + 1 => by rw [smP, smP_mul k, smP, Nat.add_mul]
theorem val_le {F : RT} {sd : Nat} : ∀ (k : Nat) (b : BT), val F sd k b ≤ pw (allO F) k
  | 0, b => by
    rw [val]
    show _ ≤ 1
    split
    · split <;> omega
    · omega
  | k + 1, b => by
    cases h : lostB F b with
    | some l =>
      rw [val, h]
      show (if l = sd then 0 else pw (allO F) (k + 1)) ≤ _
      split
      · exact Nat.zero_le _
      · exact Nat.le_refl _
    | none =>
      rw [val_succ h]
      show _ ≤ pw (allO F) k * allO F
      rw [Nat.mul_comm]
      show _ ≤ smP (rOd F) 5 * pw (allO F) k
      rw [← smP_mul]
      refine smP_mono (fun w _ => Nat.mul_le_mul_left _ ?_)
      unfold valW valB
      have hc : 0 < cntM F b w := by unfold cntM; split <;> omega
      obtain ⟨a, i, e, -, hf⟩ := bstK_some (wants := bM b == sd) (f := valF F sd k b w) hc
      rw [e]
      show a ≤ _
      rw [← hf]
      exact val_le k _
theorem pw3 {a k : Nat} (ha : a ≤ 45) (hk : k ≤ 3) : pw a k ≤ 91125 := by
  have h : pw a k ≤ 45 ^ k := by
    induction k with
    | zero => exact Nat.le_refl _
    | succ k ih => rw [pw, Nat.pow_succ]; exact Nat.mul_le_mul (ih (by omega)) ha
  refine Nat.le_trans h (Nat.le_trans (Nat.pow_le_pow_right (by decide) hk) (by decide))
/-! after a turn: whose king is gone *)-/
theorem mvsJ_mem {F : RT} {b : BT} {w m : Nat} : ∀ {j : Nat}, m ∈ mvsJ F b w j → ∃ p i, p < j ∧ i < 25 ∧ tgt F b w p i = true ∧ m = 100 * p + i
  | 0, h => by simp [mvsJ] at h
  | j + 1, h => by
    rw [mvsJ] at h
    rcases List.mem_append.mp h with h | h
    · obtain ⟨p, i, h1, h2⟩ := mvsJ_mem h
      exact ⟨p, i, by omega, h2⟩
    · unfold mvsP at h
      obtain ⟨i, hi, e⟩ := List.mem_map.mp h
      obtain ⟨h1, h2⟩ := List.mem_filter.mp hi
      exact ⟨j, i, Nat.lt_succ_self j, List.mem_range.mp h1, h2, e.symm⟩
theorem mvs_mem {F : RT} {b : BT} {w m : Nat} (h : m ∈ mvs F b w) : lostP F b = none ∧ w ≠ 4 ∧ ∃ p i, p < rN F ∧ i < 25 ∧ tgt F b w p i = true ∧ m = 100 * p + i := by
  unfold mvs at h
  split at h
  · cases h
  · rename_i hn
    refine ⟨?_, fun e => hn (Or.inl e), mvsJ_mem h⟩
    cases e : lostP F b with
    | none => rfl
    | some p => exact absurd (Or.inr (by rw [e]; exact fun h => by cases h)) hn
theorem mv_dm {p i : Nat} (hi : i < 25) : (100 * p + i) / 100 = p ∧ (100 * p + i) % 100 = i := by omega
theorem mvs_ok {F : RT} {b : BT} {w i m : Nat} (h : (mvs F b w)[i]? = some m) : m / 100 < rN F ∧ m % 100 < 25 ∧ m < 100 * rN F := by
  obtain ⟨-, -, p, q, h1, h2, -, rfl⟩ := mvs_mem (List.mem_of_getElem? h)
  have := mv_dm (p := p) h2
  omega
theorem mvs_over {F : RT} {b : BT} {w : Nat} (h : lostP F b ≠ none) : mvs F b w = [] := by unfold mvs; exact if_pos (Or.inr h)
theorem mvs_len {F : RT} {b : BT} {w : Nat} (hn : rN F ≤ 6) : (mvs F b w).length ≤ 24 := by
  unfold mvs
  split
  · exact Nat.zero_le _
  · have := mvsJ_len (F := F) (b := b) (wd := w) (j := rN F)
    omega
theorem playB_P {F : RT} {b : BT} {w : Nat} {mv : Option Nat} (x : Nat) : bP (playB F b w mv) x = bP (goB F b mv) x := by
  unfold playB
  split <;> rfl
theorem lost_play_none {F : RT} {b : BT} {w : Nat} (h : lostP F b = none) : lostP F (playB F b w none) = none := by
  have e : lostP F (playB F b w none) = lostP F b := findP_cong fun p hp => by rw [playB_P]; rfl
  rw [e]; exact h
theorem goB_at {F : RT} {b : BT} {p i x : Nat} (hi : i < 25) : bP (goB F b (some (100 * p + i))) x = if x = p then some i else if pon F b i = some x then none else bP b x := by
  obtain ⟨e1, e2⟩ := mv_dm (p := p) hi
  show bP (setP (offB F b ((100 * p + i) % 100)) ((100 * p + i) / 100) (some ((100 * p + i) % 100))) x = _
  rw [e1, e2]
  by_cases e : x = p
  · subst e; rw [setP_s, if_pos rfl]
  · rw [setP_n e, if_neg e]
    unfold offB
    cases h : pon F b i with
    | none => rw [if_neg (fun h => by cases h)]
    | some t =>
      show bP (setP b t none) x = _
      by_cases e3 : x = t
      · subst e3; rw [setP_s, if_pos rfl]
      · rw [setP_n e3, if_neg (fun h => e3 (Option.some.inj h).symm)]
theorem tgt_free {F : RT} {b : BT} {w p i t : Nat} (h : tgt F b w p i = true) (ht : pon F b i = some t) : rSd F t ≠ bM b ∧ rSd F p = bM b := by
  obtain ⟨h1, h2⟩ := pon_some ht
  unfold tgt at h
  split at h
  · cases h
  · simp only [Bool.and_eq_true, Bool.not_eq_true', beq_iff_eq, decide_eq_true_eq] at h
    refine ⟨fun e => ?_, h.1.1.1.2⟩
    have : helB F b (bM b) i = true := helB_t.mpr ⟨t, h1, e, h2⟩
    rw [h.2] at this; cases this
theorem lost_play {F : RT} {b : BT} {w p i : Nat} (h : lostP F b = none) (ht : tgt F b w p i = true) (hp : p < rN F) (hi : i < 25) : lostP F (playB F b w (some (100 * p + i))) = (match pon F b i with | some t => if rKd F t = 0 then some t else none | none => none) := by
  have hln := lost_none h
  cases e : pon F b i with
  | none =>
    refine findP_none fun x hx => ?_
    rw [playB_P, goB_at hi, e]
    by_cases ex : x = p
    · rw [if_pos ex]; rfl
    · rw [if_neg ex, if_neg (fun h => by cases h)]
      by_cases ek : rKd F x = 0
      · obtain ⟨q, hq⟩ := hln x hx ek
        rw [hq]; rfl
      · simp [ek]
  | some t =>
    obtain ⟨h1, h2⟩ := pon_some e
    obtain ⟨f1, f2⟩ := tgt_free ht e
    have htp : t ≠ p := fun h => f1 (by rw [h]; exact f2)
    show lostP F _ = if rKd F t = 0 then some t else none
    by_cases ek : rKd F t = 0
    · rw [if_pos ek]
      refine findP_some h1 ?_ fun x hx => ?_
      · rw [playB_P, goB_at hi, e, if_neg htp, if_pos rfl, ek]; rfl
      · rw [playB_P, goB_at hi, e]
        by_cases ex : x = p
        · rw [if_pos ex]; rfl
        · rw [if_neg ex, if_neg (fun h => by have := Option.some.inj h; omega)]
          by_cases ek2 : rKd F x = 0
          · obtain ⟨q, hq⟩ := hln x (by omega) ek2
            rw [hq]; rfl
          · simp [ek2]
    · rw [if_neg ek]
      refine findP_none fun x hx => ?_
      rw [playB_P, goB_at hi, e]
      by_cases ex : x = p
      · rw [if_pos ex]; rfl
      · rw [if_neg ex]
        by_cases ext : x = t
        · subst ext; simp [ek]
        · rw [if_neg (fun h => ext (Option.some.inj h).symm)]
          by_cases ek2 : rKd F x = 0
          · obtain ⟨q, hq⟩ := hln x hx ek2
            rw [hq]; rfl
          · simp [ek2]

