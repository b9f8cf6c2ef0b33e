/-! ===== by gales: how likely a king is taken ===== -/
def bstK (wants : Bool) (f : Nat → Nat) : Nat → Option (Nat × Nat)
  | 0 => none
  | k + 1 => match bstK wants f k with
    | none => some (f k, k)
    | some (a, i) => if (if wants = true then a < f k else f k < a) then some (f k, k) else some (a, i)
def cntM (F : RT) (b : BT) (w : Nat) : Nat := if (mvs F b w).length = 0 then 1 else (mvs F b w).length
def val (F : RT) (sd : Nat) : Nat → BT → Nat
  | 0, b => match lostB F b with
    | some l => if l = sd then 0 else 1
    | none => 0
  | k + 1, b => match lostB F b with
    | some l => if l = sd then 0 else pw (allO F) (k + 1)
    | none => smP (fun w => rOd F w * ((bstK (bM b == sd) (fun i => val F sd k (playB F b w ((mvs F b w)[i]?))) (cntM F b w)).map (fun q => q.1)).getD 0) 5
def valF (F : RT) (sd k : Nat) (b : BT) (w i : Nat) : Nat := val F sd k (playB F b w ((mvs F b w)[i]?))
def valB (F : RT) (sd k : Nat) (b : BT) (w : Nat) : Option (Nat × Nat) := bstK (bM b == sd) (valF F sd k b w) (cntM F b w)
def valW (F : RT) (sd k : Nat) (b : BT) (w : Nat) : Nat := ((valB F sd k b w).map (fun q => q.1)).getD 0
def chW (F : RT) (sd k : Nat) (b : BT) (w : Nat) : Option Nat := if (mvs F b w).length = 0 then none else (valB F sd k b w).map (fun q => q.2)
theorem val_succ {F : RT} {sd k : Nat} {b : BT} (h : lostB F b = none) : val F sd (k + 1) b = smP (fun w => rOd F w * valW F sd k b w) 5 := by
  rw [val, h]; rfl
theorem bstK_some {wants : Bool} {f : Nat → Nat} : ∀ {k : Nat}, 0 < k → ∃ a i, bstK wants f k = some (a, i) ∧ i < k ∧ f i = a
  | k + 1, _ => by
    rw [bstK]
    cases h : bstK wants f k with
    | none => exact ⟨f k, k, rfl, Nat.lt_succ_self k, rfl⟩
    | some q =>
      obtain ⟨a, i⟩ := q
      have hk : 0 < k := by
        cases k with
        | zero => rw [bstK] at h; cases h
        | succ k => exact Nat.succ_pos k
      obtain ⟨a2, i2, h2, h3, h4⟩ := bstK_some (wants := wants) (f := f) hk
      rw [h] at h2
      cases h2
      show ∃ a_1 i_1, (if (if wants = true then a < f k else f k < a) then some (f k, k) else some (a, i)) = some (a_1, i_1) ∧ _
      by_cases hc : (if wants = true then a < f k else f k < a)
      · rw [if_pos hc]; exact ⟨f k, k, rfl, Nat.lt_succ_self k, rfl⟩
      · rw [if_neg hc]; exact ⟨a, i, rfl, by omega, h4⟩
theorem bstK_cong {wants : Bool} {f g : Nat → Nat} : ∀ {k : Nat}, (∀ i, i < k → f i = g i) → bstK wants f k = bstK wants g k
  | 0, _ => rfl
  | k + 1, h => by rw [bstK, bstK, bstK_cong (fun i hi => h i (by omega)), h k (Nat.lt_succ_self k)]
/-- once the utmost is reached, it stays *)-/
theorem bstK_stop {wants : Bool} {f : Nat → Nat} {a i k : Nat} (h : bstK wants f k = some (a, i)) (hu : ∀ j, (if wants = true then f j ≤ a else a ≤ f j)) : ∀ m, bstK wants f (k + m) = some (a, i)
  | 0 => h
  | m + 1 => by
    rw [← Nat.add_assoc, bstK, bstK_stop h hu m]
    show (if (if wants = true then a < f (k + m) else f (k + m) < a) then some (f (k + m), k + m) else some (a, i)) = some (a, i)
    have := hu (k + m)
    rw [if_neg]
    cases wants <;> simp at this ⊢ <;> omega
theorem pw_pos {a : Nat} (h : 0 < a) : ∀ k, 0 < pw a k
  | 0 => Nat.one_pos
  | k + 1 => Nat.mul_pos (pw_pos h k) h
theorem smP_add {f g : Nat → Nat} : ∀ k, smP (fun i => f i + g i) k = smP f k + smP g k
  | 0 => rfl
  | k + 1 => by rw [smP, smP_add k, smP, smP]; omega
theorem smP_mono {f g : Nat → Nat} : ∀ {k : Nat}, (∀ i, i < k → f i ≤ g i) → smP f k ≤ smP g k
  | 0, _ => Nat.le_refl _
  | k + 1, h => by
    rw [smP, smP]
    have h1 := smP_mono (k := k) (fun i hi => h i (by omega))
    have h2 := h k (Nat.lt_succ_self k)
    omega
theorem smP_mul {f : Nat → Nat} {c : Nat} : ∀ k, smP (fun i => f i * c) k = smP f k * c
  | 0 => by simp [smP]
  | k + 1 => by rw [smP, smP_mul k, smP, Nat.add_mul]
theorem val_le {F : RT} {sd : Nat} : ∀ (k : Nat) (b : BT), val F sd k b ≤ pw (allO F) k
  | 0, b => by
    rw [val]
    show _ ≤ 1
    split
    · split <;> omega
    · omega
  | k + 1, b => by
    cases h : lostB F b with
    | some l =>
      rw [val, h]
      show (if l = sd then 0 else pw (allO F) (k + 1)) ≤ _
      split
      · exact Nat.zero_le _
      · exact Nat.le_refl _
    | none =>
      rw [val_succ h]
      show _ ≤ pw (allO F) k * allO F
      rw [Nat.mul_comm]
      show _ ≤ smP (rOd F) 5 * pw (allO F) k
      rw [← smP_mul]
      refine smP_mono (fun w _ => Nat.mul_le_mul_left _ ?_)
      unfold valW valB
      have hc : 0 < cntM F b w := by unfold cntM; split <;> omega
      obtain ⟨a, i, e, -, hf⟩ := bstK_some (wants := bM b == sd) (f := valF F sd k b w) hc
      rw [e]
      show a ≤ _
      rw [← hf]
      exact val_le k _
theorem pw3 {a k : Nat} (ha : a ≤ 45) (hk : k ≤ 3) : pw a k ≤ 91125 := by
  have h : pw a k ≤ 45 ^ k := by
    induction k with
    | zero => exact Nat.le_refl _
    | succ k ih => rw [pw, Nat.pow_succ]; exact Nat.mul_le_mul (ih (by omega)) ha
  refine Nat.le_trans h (Nat.le_trans (Nat.pow_le_pow_right (by decide) hk) (by decide))
/-! after a turn: whose king is gone *)-/
theorem mvsJ_mem {F : RT} {b : BT} {w m : Nat} : ∀ {j : Nat}, m ∈ mvsJ F b w j → ∃ p i, p < j ∧ i < 25 ∧ tgt F b w p i = true ∧ m = 100 * p + i
  | 0, h => by simp [mvsJ] at h
  | j + 1, h => by
    rw [mvsJ] at h
    rcases List.mem_append.mp h with h | h
    · obtain ⟨p, i, h1, h2⟩ := mvsJ_mem h
      exact ⟨p, i, by omega, h2⟩
    · unfold mvsP at h
      obtain ⟨i, hi, e⟩ := List.mem_map.mp h
      obtain ⟨h1, h2⟩ := List.mem_filter.mp hi
      exact ⟨j, i, Nat.lt_succ_self j, List.mem_range.mp h1, h2, e.symm⟩
theorem mvs_mem {F : RT} {b : BT} {w m : Nat} (h : m ∈ mvs F b w) : lostP F b = none ∧ w ≠ 4 ∧ ∃ p i, p < rN F ∧ i < 25 ∧ tgt F b w p i = true ∧ m = 100 * p + i := by
  unfold mvs at h
  split at h
  · cases h
  · rename_i hn
    refine ⟨?_, fun e => hn (Or.inl e), mvsJ_mem h⟩
    cases e : lostP F b with
    | none => rfl
    | some p => exact absurd (Or.inr (by rw [e]; exact fun h => by cases h)) hn
theorem mv_dm {p i : Nat} (hi : i < 25) : (100 * p + i) / 100 = p ∧ (100 * p + i) % 100 = i := by omega
theorem mvs_ok {F : RT} {b : BT} {w i m : Nat} (h : (mvs F b w)[i]? = some m) : m / 100 < rN F ∧ m % 100 < 25 ∧ m < 100 * rN F := by
  obtain ⟨-, -, p, q, h1, h2, -, rfl⟩ := mvs_mem (List.mem_of_getElem? h)
  have := mv_dm (p := p) h2
  omega
theorem mvs_over {F : RT} {b : BT} {w : Nat} (h : lostP F b ≠ none) : mvs F b w = [] := by unfold mvs; exact if_pos (Or.inr h)
theorem mvs_len {F : RT} {b : BT} {w : Nat} (hn : rN F ≤ 6) : (mvs F b w).length ≤ 24 := by
  unfold mvs
  split
  · exact Nat.zero_le _
  · have := mvsJ_len (F := F) (b := b) (wd := w) (j := rN F)
    omega
theorem playB_P {F : RT} {b : BT} {w : Nat} {mv : Option Nat} (x : Nat) : bP (playB F b w mv) x = bP (goB F b mv) x := by
  unfold playB
  split <;> rfl
theorem lost_play_none {F : RT} {b : BT} {w : Nat} (h : lostP F b = none) : lostP F (playB F b w none) = none := by
  have e : lostP F (playB F b w none) = lostP F b := findP_cong fun p hp => by rw [playB_P]; rfl
  rw [e]; exact h
theorem goB_at {F : RT} {b : BT} {p i x : Nat} (hi : i < 25) : bP (goB F b (some (100 * p + i))) x = if x = p then some i else if pon F b i = some x then none else bP b x := by
  obtain ⟨e1, e2⟩ := mv_dm (p := p) hi
  show bP (setP (offB F b ((100 * p + i) % 100)) ((100 * p + i) / 100) (some ((100 * p + i) % 100))) x = _
  rw [e1, e2]
  by_cases e : x = p
  · subst e; rw [setP_s, if_pos rfl]
  · rw [setP_n e, if_neg e]
    unfold offB
    cases h : pon F b i with
    | none => rw [if_neg (fun h => by cases h)]
    | some t =>
      show bP (setP b t none) x = _
      by_cases e3 : x = t
      · subst e3; rw [setP_s, if_pos rfl]
      · rw [setP_n e3, if_neg (fun h => e3 (Option.some.inj h).symm)]
theorem tgt_free {F : RT} {b : BT} {w p i t : Nat} (h : tgt F b w p i = true) (ht : pon F b i = some t) : rSd F t ≠ bM b ∧ rSd F p = bM b := by
  obtain ⟨h1, h2⟩ := pon_some ht
  unfold tgt at h
  split at h
  · cases h
  · simp only [Bool.and_eq_true, Bool.not_eq_true', beq_iff_eq, decide_eq_true_eq] at h
    refine ⟨fun e => ?_, h.1.1.1.2⟩
    have : helB F b (bM b) i = true := helB_t.mpr ⟨t, h1, e, h2⟩
    rw [h.2] at this; cases this
theorem lost_play {F : RT} {b : BT} {w p i : Nat} (h : lostP F b = none) (ht : tgt F b w p i = true) (hp : p < rN F) (hi : i < 25) : lostP F (playB F b w (some (100 * p + i))) = (match pon F b i with | some t => if rKd F t = 0 then some t else none | none => none) := by
  have hln := lost_none h
  cases e : pon F b i with
  | none =>
    refine findP_none fun x hx => ?_
    rw [playB_P, goB_at hi, e]
    by_cases ex : x = p
    · rw [if_pos ex]; rfl
    · rw [if_neg ex, if_neg (fun h => by cases h)]
      by_cases ek : rKd F x = 0
      · obtain ⟨q, hq⟩ := hln x hx ek
        rw [hq]; rfl
      · simp [ek]
  | some t =>
    obtain ⟨h1, h2⟩ := pon_some e
    obtain ⟨f1, f2⟩ := tgt_free ht e
    have htp : t ≠ p := fun h => f1 (by rw [h]; exact f2)
    show lostP F _ = if rKd F t = 0 then some t else none
    by_cases ek : rKd F t = 0
    · rw [if_pos ek]
      refine findP_some h1 ?_ fun x hx => ?_
      · rw [playB_P, goB_at hi, e, if_neg htp, if_pos rfl, ek]; rfl
      · rw [playB_P, goB_at hi, e]
        by_cases ex : x = p
        · rw [if_pos ex]; rfl
        · rw [if_neg ex, if_neg (fun h => by have := Option.some.inj h; omega)]
          by_cases ek2 : rKd F x = 0
          · obtain ⟨q, hq⟩ := hln x (by omega) ek2
            rw [hq]; rfl
          · simp [ek2]
    · rw [if_neg ek]
      refine findP_none fun x hx => ?_
      rw [playB_P, goB_at hi, e]
      by_cases ex : x = p
      · rw [if_pos ex]; rfl
      · rw [if_neg ex]
        by_cases ext : x = t
        · subst ext; simp [ek]
        · rw [if_neg (fun h => ext (Option.some.inj h).symm)]
          by_cases ek2 : rKd F x = 0
          · obtain ⟨q, hq⟩ := hln x hx ek2
            rw [hq]; rfl
          · simp [ek2]
/-- each side has one king *)-/
def KW (F : RT) : Prop := (∀ s, s < 2 → ∃ p, kingB F s = some p) ∧ ∀ p q, p < rN F → q < rN F → rKd F p = 0 → rKd F q = 0 → rSd F p = rSd F q → p = q
theorem kingB_at {F : RT} {s p : Nat} (h : kingB F s = some p) : p < rN F ∧ rKd F p = 0 ∧ rSd F p = s := by
  obtain ⟨h1, h2, -⟩ := findP_spec h
  simp only [Bool.and_eq_true, beq_iff_eq] at h2
  exact ⟨h1, h2.1, h2.2⟩
theorem cntM_pos {F : RT} {b : BT} {w : Nat} : 0 < cntM F b w := by unfold cntM; split <;> omega
theorem bst_zero {wants : Bool} {f : Nat → Nat} : ∀ {N : Nat}, 0 < N → (∀ i, i < N → f i = 0) → bstK wants f N = some (0, 0)
  | N + 1, _, h => by
    cases N with
    | zero => rw [bstK, bstK, h 0 (by decide)]
    | succ N =>
      rw [bstK, bst_zero (Nat.succ_pos N) (fun i hi => h i (by omega)), h (N + 1) (by omega)]
      show (if (if wants = true then 0 < 0 else 0 < 0) then some (0, N + 1) else some (0, 0)) = some (0, 0)
      rw [if_neg (by cases wants <;> simp)]
theorem bst_one {f : Nat → Nat} {k : Nat} (hk : f k = 1) (h0 : ∀ q, q < k → f q = 0) (h1 : ∀ i, f i ≤ 1) : ∀ m, bstK true f (k + 1 + m) = some (1, k) := by
  refine bstK_stop (wants := true) ?_ (fun j => by rw [if_pos rfl]; exact h1 j)
  cases k with
  | zero => rw [bstK, bstK, hk]
  | succ k =>
    rw [bstK, bst_zero (Nat.succ_pos k) h0, hk]
    rfl
theorem lostB_play {F : RT} {b : BT} {sd w i : Nat} (hl : lostP F b = none) : lostB F (playB F b w ((mvs F b w)[i]?)) = none ∨ ∃ m t, (mvs F b w)[i]? = some m ∧ pon F b (m % 100) = some t ∧ rKd F t = 0 ∧ rSd F t ≠ bM b ∧ lostB F (playB F b w ((mvs F b w)[i]?)) = some (rSd F t) := by
  cases e : (mvs F b w)[i]? with
  | none => left; unfold lostB; rw [lost_play_none hl]; rfl
  | some m =>
    obtain ⟨-, -, p, q, h1, h2, h3, rfl⟩ := mvs_mem (List.mem_of_getElem? e)
    have hm := (mv_dm (p := p) h2).2
    have hlp := lost_play (w := w) hl h3 h1 h2
    cases e2 : pon F b q with
    | none => left; unfold lostB; rw [hlp, e2]; rfl
    | some t =>
      rw [e2] at hlp
      by_cases ek : rKd F t = 0
      · right
        refine ⟨_, t, rfl, by rw [hm]; exact e2, ek, (tgt_free h3 e2).1, ?_⟩
        unfold lostB
        rw [hlp]
        show Option.map (rSd F) (if rKd F t = 0 then some t else none) = _
        rw [if_pos ek]; rfl
      · left; unfold lostB; rw [hlp]
        show Option.map (rSd F) (if rKd F t = 0 then some t else none) = _
        rw [if_neg ek]; rfl
theorem valF0_other {F : RT} {b : BT} {sd w i : Nat} (hf : RW F) (hw : BW F b) (hl : lostP F b = none) (hsd : sd < 2) (hne : bM b ≠ sd) : valF F sd 0 b w i = 0 := by
  unfold valF
  rw [val]
  rcases lostB_play (sd := sd) (w := w) (i := i) hl with h | ⟨m, t, -, h2, -, h4, h5⟩
  · rw [h]
  · rw [h5]
    have h6 := (hf.2.2.2.2.2.1 t (pon_some h2).1).1
    have h7 := hw.1
    show (if rSd F t = sd then 0 else 1) = 0
    rw [if_pos (by omega)]
theorem val1_other {F : RT} {b : BT} {sd : Nat} (hf : RW F) (hw : BW F b) (hl : lostP F b = none) (hsd : sd < 2) (hne : bM b ≠ sd) : val F sd 1 b = 0 := by
  rw [val_succ (by unfold lostB; rw [hl]; rfl)]
  have : ∀ w, rOd F w * valW F sd 0 b w = 0 := by
    intro w
    unfold valW valB
    rw [bst_zero cntM_pos (fun i _ => valF0_other hf hw hl hsd hne)]
    rfl
  have e : (fun w => rOd F w * valW F sd 0 b w) = fun _ => 0 := funext this
  rw [e]; rfl
theorem valF0_own {F : RT} {b : BT} {sd w i kp kq : Nat} (hf : RW F) (hk : KW F) (hw : BW F b) (hl : lostP F b = none) (hsd : bM b = sd) (hkp : kingB F (1 - bM b) = some kp) (hkq : bP b kp = some kq) : valF F sd 0 b w i = if (∃ m, (mvs F b w)[i]? = some m ∧ m % 100 = kq) then 1 else 0 := by
  obtain ⟨k1, k2, k3⟩ := kingB_at hkp
  have hM := hw.1
  unfold valF
  rw [val]
  rcases lostB_play (sd := sd) (w := w) (i := i) hl with h | ⟨m, t, h1, h2, h3, h4, h5⟩
  · rw [h, if_neg]
    rintro ⟨m, h1, h2⟩
    obtain ⟨-, -, p, q, g1, g2, g3, rfl⟩ := mvs_mem (List.mem_of_getElem? h1)
    have hm := (mv_dm (p := p) g2).2
    rw [hm] at h2
    subst h2
    have hpk : pon F b q = some kp := by
      cases e : pon F b q with
      | none => exact absurd hkq (pon_none e kp k1)
      | some t =>
        obtain ⟨e1, e2⟩ := pon_some e
        rw [hw.2.2 t kp q e1 k1 e2 hkq]
    have hlp := lost_play (w := w) hl g3 g1 g2
    rw [hpk] at hlp
    rw [h1] at h
    unfold lostB at h
    rw [hlp] at h
    simp [k2] at h
  · rw [h5]
    obtain ⟨t1, t2⟩ := pon_some h2
    have h6 := (hf.2.2.2.2.2.1 t t1).1
    have e : t = kp := hk.2 t kp t1 k1 h3 k2 (by omega)
    subst e
    rw [if_pos ⟨m, h1, Option.some.inj (t2.symm.trans hkq)⟩]
    show (if rSd F t = sd then 0 else 1) = 1
    rw [if_neg (by omega)]
/-- what a row of so many turns from a Step's Stand on writes: the Steps behind it, its own moves and choice *)-/
def Sc (k h i : Nat) : Prop := (h - 6 * k ≤ i ∧ i < h) ∨ i = h ∨ i = h + 5
def Ch (n : Nat) (ρ : Rho) : Nat → Nat → Prop
  | 0, h => Sp n ρ h
  | k + 1, h => Sp n ρ h ∧ 6 ≤ h ∧ ρ h 2 = some (h - 6) ∧ Ch n ρ k (h - 6)
theorem Ch.sp {n : Nat} {ρ : Rho} {k h : Nat} (hc : Ch n ρ k h) : Sp n ρ h := by
  cases k with
  | zero => exact hc
  | succ k => exact hc.1
theorem Ch.ge {n : Nat} {ρ : Rho} : ∀ {k h : Nat}, Ch n ρ k h → 6 * k ≤ h
  | 0, h, _ => Nat.zero_le _
  | k + 1, h, hc => by
    have := Ch.ge hc.2.2.2
    have := hc.2.1
    omega
theorem Ch.down {n : Nat} {ρ : Rho} : ∀ {k h : Nat}, Ch n ρ (k + 1) h → Ch n ρ k h
  | 0, h, hc => hc.1
  | k + 1, h, hc => ⟨hc.1, hc.2.1, hc.2.2.1, Ch.down hc.2.2.2⟩
def lO : Option Nat → Int64
  | none => -1
  | some v => lN v
theorem cmp_gt {a b : Nat} (ha : a < 2 ^ 31) (hb : b < 2 ^ 31) : 0 < lg_cmp (lN a) (lN b) ↔ b < a := by
  unfold lg_cmp
  have h1 : lN a > lN b ↔ b < a := lN_lt hb ha
  by_cases h : b < a
  · rw [if_pos (h1.mpr h)]; exact ⟨fun _ => h, fun _ => by decide⟩
  · rw [if_neg (fun e => h (h1.mp e))]
    refine ⟨fun e => ?_, fun e => absurd e h⟩
    split at e
    · exact absurd e (by decide)
    · exact absurd e (by decide)
theorem cmp_lt {a b : Nat} (ha : a < 2 ^ 31) (hb : b < 2 ^ 31) : lg_cmp (lN a) (lN b) < 0 ↔ a < b := by
  unfold lg_cmp
  have h1 : lN a > lN b ↔ b < a := lN_lt hb ha
  have h2 : lN a = lN b ↔ a = b := lN_eq ha hb
  by_cases h : b < a
  · rw [if_pos (h1.mpr h)]; exact ⟨fun e => absurd e (by decide), fun e => by omega⟩
  · rw [if_neg (fun e => h (h1.mp e))]
    by_cases h3 : a = b
    · rw [if_pos (h2.mpr h3)]; exact ⟨fun e => absurd e (by decide), fun e => by omega⟩
    · rw [if_neg (fun e => h3 (h2.mp e))]; exact ⟨fun _ => by omega, fun _ => by decide⟩
theorem cmp_eq {a b : Nat} (ha : a < 2 ^ 31) (hb : b < 2 ^ 31) : lg_cmp (lN a) (lN b) = 0 ↔ a = b := by
  unfold lg_cmp
  have h1 : lN a > lN b ↔ b < a := lN_lt hb ha
  have h2 : lN a = lN b ↔ a = b := lN_eq ha hb
  by_cases h : b < a
  · rw [if_pos (h1.mpr h)]; exact ⟨fun e => absurd e (by decide), fun e => by omega⟩
  · rw [if_neg (fun e => h (h1.mp e))]
    by_cases h3 : a = b
    · rw [if_pos (h2.mpr h3)]; exact ⟨fun _ => h3, fun _ => rfl⟩
    · rw [if_neg (fun e => h3 (h2.mp e))]; exact ⟨fun e => absurd e (by decide), fun e => absurd e h3⟩
theorem lN_neg {a : Nat} (ha : a < 2 ^ 31) : lg_cmp (-1) (lN a) = -1 := by
  unfold lg_cmp
  have h1 : ¬ (-1 : Int64) > lN a := by
    intro h
    have := Int64.lt_iff_toInt_lt.mp h
    rw [lN_toInt ha] at this
    have h2 : (-1 : Int64).toInt = -1 := by decide
    omega
  have h2 : ¬ (-1 : Int64) = lN a := by
    intro h
    have := congrArg Int64.toInt h
    rw [lN_toInt ha] at this
    have h2 : (-1 : Int64).toInt = -1 := by decide
    omega
  rw [if_neg h1, if_neg h2]

