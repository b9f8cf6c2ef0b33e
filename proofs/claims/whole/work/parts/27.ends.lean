/-! ===== rows of turns ===== -/
abbrev RowT : Type := List Nat × BT
def lblN (F : RT) (b : BT) (w i : Nat) : Nat := 100 * w + (if (mvs F b w).length = 0 then 99 else i)
def consR (l : Nat) (r : RowT) : RowT := (l :: r.1, r.2)
def fndI (F : RT) (b : BT) (R : BT → List RowT) (w : Nat) : Nat → List RowT
  | 0 => []
  | i + 1 => fndI F b R w i ++ (R (playB F b w ((mvs F b w)[i]?))).map (consR (lblN F b w i))
def fndW (F : RT) (b : BT) (R : BT → List RowT) : Nat → List RowT
  | 0 => []
  | w + 1 => fndW F b R w ++ fndI F b R w (cntM F b w)
def fnd (F : RT) (g : BT → Bool) : Nat → BT → List RowT
  | 0, b => if g b = true then [([], b)] else []
  | k + 1, b => if lostP F b = none then fndW F b (fnd F g k) 5 else []
theorem fndI_mem {F : RT} {b : BT} {R : BT → List RowT} {w : Nat} {r : RowT} : ∀ {i : Nat}, r ∈ fndI F b R w i → ∃ j r', j < i ∧ r' ∈ R (playB F b w ((mvs F b w)[j]?)) ∧ r = consR (lblN F b w j) r'
  | 0, h => by rw [fndI] at h; cases h
  | i + 1, h => by
    rw [fndI] at h
    rcases List.mem_append.mp h with h | h
    · obtain ⟨j, r', h1, h2⟩ := fndI_mem h
      exact ⟨j, r', by omega, h2⟩
    · obtain ⟨r', h1, h2⟩ := List.mem_map.mp h
      exact ⟨i, r', Nat.lt_succ_self i, h1, h2.symm⟩
theorem fndW_mem {F : RT} {b : BT} {R : BT → List RowT} {r : RowT} : ∀ {m : Nat}, r ∈ fndW F b R m → ∃ w j r', w < m ∧ j < cntM F b w ∧ r' ∈ R (playB F b w ((mvs F b w)[j]?)) ∧ r = consR (lblN F b w j) r'
  | 0, h => by rw [fndW] at h; cases h
  | m + 1, h => by
    rw [fndW] at h
    rcases List.mem_append.mp h with h | h
    · obtain ⟨w, j, r', h1, h2⟩ := fndW_mem h
      exact ⟨w, j, r', by omega, h2⟩
    · obtain ⟨j, r', h1, h2⟩ := fndI_mem h
      exact ⟨m, j, r', Nat.lt_succ_self m, h1, h2⟩
theorem fnd_mem {F : RT} {g : BT → Bool} {k : Nat} {b : BT} {r : RowT} (h : r ∈ fnd F g (k + 1) b) : lostP F b = none ∧ ∃ w j r', w < 5 ∧ j < cntM F b w ∧ r' ∈ fnd F g k (playB F b w ((mvs F b w)[j]?)) ∧ r = consR (lblN F b w j) r' := by
  rw [fnd] at h
  split at h
  · rename_i hl
    exact ⟨hl, fndW_mem h⟩
  · cases h
theorem fnd_len {F : RT} {g : BT → Bool} : ∀ {k : Nat} {b : BT} {r : RowT}, r ∈ fnd F g k b → r.1.length = k ∧ g r.2 = true
  | 0, b, r, h => by
    rw [fnd] at h
    split at h
    · rename_i hg
      have e : r = ([], b) := List.mem_singleton.mp h
      rw [e]; exact ⟨rfl, hg⟩
    · cases h
  | k + 1, b, r, h => by
    obtain ⟨-, w, j, r', -, -, h1, rfl⟩ := fnd_mem h
    obtain ⟨h2, h3⟩ := fnd_len h1
    exact ⟨by show (lblN F b w j :: r'.1).length = k + 1; rw [List.length_cons, h2], h3⟩
theorem cntM_le {F : RT} {b : BT} {w : Nat} (hn : rN F ≤ 6) : cntM F b w ≤ 24 := by
  have := mvs_len (F := F) (b := b) (w := w) hn
  unfold cntM; split <;> omega
theorem fndI_cnt {F : RT} {b : BT} {R : BT → List RowT} {w c : Nat} (h : ∀ b', (R b').length ≤ c) : ∀ i, (fndI F b R w i).length ≤ i * c
  | 0 => by rw [fndI]; exact Nat.zero_le _
  | i + 1 => by
    have h1 := fndI_cnt (F := F) (b := b) (w := w) h i
    have h2 := h (playB F b w ((mvs F b w)[i]?))
    rw [fndI, List.length_append, List.length_map, Nat.succ_mul]
    omega
theorem fndW_cnt {F : RT} {b : BT} {R : BT → List RowT} {c : Nat} (hn : rN F ≤ 6) (h : ∀ b', (R b').length ≤ c) : ∀ m, (fndW F b R m).length ≤ m * (24 * c)
  | 0 => by rw [fndW]; exact Nat.zero_le _
  | m + 1 => by
    have h1 := fndW_cnt (F := F) (b := b) hn h m
    have h2 := fndI_cnt (F := F) (b := b) (w := m) h (cntM F b m)
    have h3 : cntM F b m * c ≤ 24 * c := Nat.mul_le_mul_right c (cntM_le hn)
    rw [fndW, List.length_append, Nat.succ_mul]
    omega
theorem fnd_cnt {F : RT} {g : BT → Bool} (hn : rN F ≤ 6) : ∀ (k : Nat) (b : BT), (fnd F g k b).length ≤ 120 ^ k
  | 0, b => by
    rw [fnd]
    split
    · exact Nat.le_refl _
    · exact Nat.zero_le _
  | k + 1, b => by
    rw [fnd]
    split
    · have := fndW_cnt (F := F) (b := b) (R := fnd F g k) hn (fun b' => fnd_cnt hn k b') 5
      rw [Nat.pow_succ]
      omega
    · exact Nat.zero_le _
/-- what prunes: a test that says at no turn left what is asked, and never drops a row that is to be found -/
def Prn (F : RT) (g : BT → Bool) (mc : Nat → BT → Bool) : Prop := (∀ b, BW F b → mc 0 b = g b) ∧ ∀ k b, BW F b → mc k b = false → fnd F g k b = []
theorem ctP_or {P Q R : Nat → Bool} (h : ∀ x, P x = true → Q x = true ∨ R x = true) : ∀ n, ctP P n ≤ ctP Q n + ctP R n
  | 0 => Nat.le_refl _
  | n + 1 => by
    have ih := ctP_or h n
    have hx := h n
    rw [ctP, ctP, ctP]
    by_cases hp : P n = true
    · rcases hx hp with hq | hr
      · rw [if_pos hp, if_pos hq]; omega
      · rw [if_pos hp, if_pos hr]; omega
    · rw [if_neg hp]; omega
theorem ctP_one (a : Nat) : ∀ n, ctP (fun x => decide (x = a)) n ≤ if a < n then 1 else 0
  | 0 => Nat.zero_le _
  | n + 1 => by
    have ih := ctP_one a n
    rw [ctP]
    by_cases e : n = a
    · rw [if_pos (by simpa using e)]
      rw [if_neg (by omega)] at ih
      rw [if_pos (by omega)]; omega
    · rw [if_neg (by simpa using e)]
      by_cases e2 : a < n
      · rw [if_pos e2] at ih; rw [if_pos (by omega)]; omega
      · rw [if_neg e2] at ih; rw [if_neg (by omega)]; omega
theorem ctP_one1 (a n : Nat) : ctP (fun x => decide (x = a)) n ≤ 1 := by
  have := ctP_one a n
  split at this <;> omega
theorem ctP_cong {P Q : Nat → Bool} : ∀ {n : Nat}, (∀ x, x < n → P x = Q x) → ctP P n = ctP Q n
  | 0, _ => rfl
  | n + 1, h => by rw [ctP, ctP, ctP_cong (fun x hx => h x (by omega)), h n (Nat.lt_succ_self n)]
theorem ctP_zero {P : Nat → Bool} : ∀ {n : Nat}, ctP P n = 0 ↔ ∀ x, x < n → P x = false
  | 0 => ⟨fun _ x hx => absurd hx (Nat.not_lt_zero x), fun _ => rfl⟩
  | n + 1 => by
    have ih := ctP_zero (P := P) (n := n)
    rw [ctP]
    constructor
    · intro h x hx
      have h1 : ctP P n = 0 := by omega
      have h2 : (if P n = true then 1 else 0) = 0 := by omega
      rcases Nat.lt_or_ge x n with h3 | h3
      · exact ih.mp h1 x h3
      · have : x = n := by omega
        subst this
        cases h4 : P x with
        | false => rfl
        | true => rw [h4] at h2; simp at h2
    · intro h
      rw [ih.mpr (fun x hx => h x (by omega)), h n (Nat.lt_succ_self n)]; rfl
/-- a turn's squares: all others stay as they are -/
theorem hel_play {F : RT} {b : BT} {w p i q z s : Nat} (hw : BW F b) (hp : p < rN F) (hi : i < 25) (hq : bP b p = some q) (h1 : z ≠ q) (h2 : z ≠ i) : helB F (playB F b w (some (100 * p + i))) s z = helB F b s z := by
  rw [Bool.eq_iff_iff, helB_t, helB_t]
  constructor
  · rintro ⟨x, hx, hs, hxz⟩
    rw [playB_P, goB_at hi] at hxz
    split at hxz
    · exact absurd (Option.some.inj hxz).symm h2
    · split at hxz
      · cases hxz
      · exact ⟨x, hx, hs, hxz⟩
  · rintro ⟨x, hx, hs, hxz⟩
    refine ⟨x, hx, hs, ?_⟩
    rw [playB_P, goB_at hi]
    rw [if_neg (by rintro rfl; rw [hq] at hxz; exact h1 (Option.some.inj hxz).symm), if_neg (fun h => by
      have := (pon_some h).2
      rw [hxz] at this
      exact h2 (Option.some.inj this))]
    exact hxz
theorem hel_play0 {F : RT} {b : BT} {w s z : Nat} : helB F (playB F b w none) s z = helB F b s z := by
  rw [Bool.eq_iff_iff, helB_t, helB_t]
  constructor
  · rintro ⟨x, hx, hs, hxz⟩
    rw [playB_P] at hxz
    exact ⟨x, hx, hs, hxz⟩
  · rintro ⟨x, hx, hs, hxz⟩
    exact ⟨x, hx, hs, by rw [playB_P]; exact hxz⟩
theorem playB_M {F : RT} {b : BT} {w : Nat} {mv : Option Nat} : bM (playB F b w mv) = 1 - bM b := by
  have hg : bM (goB F b mv) = bM b := by
    cases mv with
    | none => rfl
    | some m =>
      unfold goB
      show bM (match pon F b (m % 100) with | some t => setP b t none | none => b) = bM b
      split <;> rfl
  unfold playB
  split
  · show 1 - bM (goB F b mv) = _; rw [hg]
  · show 1 - bM (goB F b mv) = _; rw [hg]
/-- all pieces stand as there -/
def asB (F : RT) (gl b : BT) : Bool := decide (bM b = bM gl) && (List.range (rN F)).all (fun p => decide (bP b p = bP gl p) && decide (bO b p = bO gl p))
def stB (gl b : BT) (p : Nat) : Bool := decide (bP b p ≠ bP gl p) && decide (bP gl p ≠ none)
def mcR (F : RT) (gl : BT) (k : Nat) (b : BT) : Bool := decide ((bM b + k) % 2 = bM gl) && (decide (k ≠ 0) || (List.range (rN F)).all (fun p => decide (bP b p = bP gl p) && decide (bO b p = bO gl p))) && decide (ctP (stB gl b) (rN F) ≤ k)
theorem stB_play {F : RT} {gl b : BT} {w j : Nat} : ctP (stB gl b) (rN F) ≤ ctP (stB gl (playB F b w ((mvs F b w)[j]?))) (rN F) + 1 := by
  cases e : (mvs F b w)[j]? with
  | none =>
    have : ctP (stB gl b) (rN F) = ctP (stB gl (playB F b w none)) (rN F) := ctP_cong fun x _ => by unfold stB; rw [playB_P]; rfl
    omega
  | some m =>
    obtain ⟨-, -, p, i, h1, h2, h3, rfl⟩ := mvs_mem (List.mem_of_getElem? e)
    have := ctP_or (P := stB gl b) (Q := stB gl (playB F b w (some (100 * p + i)))) (R := fun x => decide (x = p)) (fun x hx => by
      by_cases ex : x = p
      · exact Or.inr (by simpa using ex)
      · left
        unfold stB at hx ⊢
        rw [playB_P, goB_at h2, if_neg ex]
        simp only [Bool.and_eq_true, decide_eq_true_eq] at hx ⊢
        refine ⟨?_, hx.2⟩
        split
        · exact fun h => hx.2 h.symm
        · exact hx.1) (rN F)
    have := ctP_one1 p (rN F)
    omega
theorem fnd_reached {F : RT} {gl : BT} : ∀ {k : Nat} {b : BT} {r : RowT}, BW F b → r ∈ fnd F (asB F gl) k b → (bM b + k) % 2 = bM gl ∧ ctP (stB gl b) (rN F) ≤ k
  | 0, b, r, hw, h => by
    rw [fnd] at h
    split at h
    · rename_i hg
      unfold asB at hg
      simp only [Bool.and_eq_true, decide_eq_true_eq, List.all_eq_true] at hg
      have hM := hw.1
      refine ⟨by omega, Nat.le_of_eq (ctP_zero.mpr fun x hx => ?_)⟩
      unfold stB
      have := (hg.2 x (List.mem_range.mpr hx)).1
      simp [this]
    · cases h
  | k + 1, b, r, hw, h => by
    obtain ⟨-, w, j, r', h1, h2, h3, -⟩ := fnd_mem h
    have hw' : BW F (playB F b w ((mvs F b w)[j]?)) := playB_W hw (fun m hm => ⟨(mvs_ok hm).1, (mvs_ok hm).2.1⟩)
    obtain ⟨h4, h5⟩ := fnd_reached hw' h3
    rw [playB_M] at h4
    have h6 := stB_play (F := F) (gl := gl) (b := b) (w := w) (j := j)
    have hM := hw.1
    exact ⟨by omega, by omega⟩
theorem prn_reached {F : RT} {gl : BT} : Prn F (asB F gl) (mcR F gl) := by
  constructor
  · intro b hw
    have hM := hw.1
    unfold mcR asB
    have e : (bM b + 0) % 2 = bM b := by omega
    rw [e]
    by_cases h : (List.range (rN F)).all (fun p => decide (bP b p = bP gl p) && decide (bO b p = bO gl p)) = true
    · have hz : ctP (stB gl b) (rN F) = 0 := ctP_zero.mpr fun x hx => by
        have := List.all_eq_true.mp h x (List.mem_range.mpr hx)
        simp only [Bool.and_eq_true, decide_eq_true_eq] at this
        unfold stB; simp [this.1]
      rw [h, hz]; simp
    · rw [Bool.not_eq_true] at h
      rw [h]; simp
  · intro k b hw h
    cases e : fnd F (asB F gl) k b with
    | nil => rfl
    | cons r L =>
      exfalso
      obtain ⟨h1, h2⟩ := fnd_reached hw (show r ∈ fnd F (asB F gl) k b by rw [e]; exact List.mem_cons_self)
      unfold mcR at h
      rw [decide_eq_true h1, decide_eq_true h2] at h
      cases k with
      | zero =>
        have hr : r ∈ fnd F (asB F gl) 0 b := by rw [e]; exact List.mem_cons_self
        rw [fnd] at hr
        split at hr
        · rename_i hg
          unfold asB at hg
          rw [Bool.and_eq_true] at hg
          rw [hg.2] at h
          simp at h
        · cases hr
      | succ k => simp at h
/-- all is as seen: so many squares, with who stands there -/
def wntB (sn : Nat) (sq : Nat → Nat) (sd : Nat → Option Nat) (x : Option Nat) (i : Nat) : Bool := (List.range sn).any (fun k => decide (sd k = x) && decide (sq k = i))
def unB (F : RT) (sn : Nat) (sq : Nat → Nat) (sd : Nat → Option Nat) (b : BT) (i : Nat) : Bool := ((wntB sn sq sd none i && (helB F b 0 i || helB F b 1 i)) || (wntB sn sq sd (some 0) i && !helB F b 0 i)) || (wntB sn sq sd (some 1) i && !helB F b 1 i)
def seeB (F : RT) (sn : Nat) (sq : Nat → Nat) (sd : Nat → Option Nat) (b : BT) : Bool := (List.range sn).all (fun k => decide ((pon F b (sq k)).map (rSd F) = sd k))
def mcS (F : RT) (sn : Nat) (sq : Nat → Nat) (sd : Nat → Option Nat) (k : Nat) (b : BT) : Bool := decide (ctP (unB F sn sq sd b) 32 ≤ 2 * k)
theorem wntB_t {sn : Nat} {sq : Nat → Nat} {sd : Nat → Option Nat} {x : Option Nat} {i : Nat} : wntB sn sq sd x i = true ↔ ∃ k, k < sn ∧ sd k = x ∧ sq k = i := by
  unfold wntB
  rw [List.any_eq_true]
  constructor
  · rintro ⟨k, h1, h2⟩
    simp only [Bool.and_eq_true, decide_eq_true_eq] at h2
    exact ⟨k, List.mem_range.mp h1, h2.1, h2.2⟩
  · rintro ⟨k, h1, h2, h3⟩
    exact ⟨k, List.mem_range.mpr h1, by simp [h2, h3]⟩
theorem wntB_succ {sn : Nat} {sq : Nat → Nat} {sd : Nat → Option Nat} {x : Option Nat} {i : Nat} : wntB (sn + 1) sq sd x i = (wntB sn sq sd x i || (decide (sd sn = x) && decide (sq sn = i))) := by
  unfold wntB
  rw [List.range_succ, List.any_append]
  simp
theorem hel_pon {F : RT} {b : BT} (hw : BW F b) {s i : Nat} : helB F b s i = true ↔ (pon F b i).map (rSd F) = some s := by
  rw [helB_t]
  constructor
  · rintro ⟨p, hp, hs, hpi⟩
    cases e : pon F b i with
    | none => exact absurd hpi (pon_none e p hp)
    | some t =>
      obtain ⟨h1, h2⟩ := pon_some e
      have := hw.2.2 t p i h1 hp h2 hpi
      rw [this]; show some (rSd F p) = some s; rw [hs]
  · intro h
    cases e : pon F b i with
    | none => rw [e] at h; cases h
    | some t =>
      rw [e] at h
      obtain ⟨h1, h2⟩ := pon_some e
      exact ⟨t, h1, Option.some.inj h, h2⟩
theorem pon_side {F : RT} (hf : RW F) {b : BT} {i s : Nat} (h : (pon F b i).map (rSd F) = some s) : s < 2 := by
  cases e : pon F b i with
  | none => rw [e] at h; cases h
  | some t =>
    rw [e] at h
    have := (hf.2.2.2.2.2.1 t (pon_some e).1).1
    have h2 : rSd F t = s := Option.some.inj h
    omega
theorem unB_zero {F : RT} (hf : RW F) {b : BT} (hw : BW F b) {sn : Nat} {sq : Nat → Nat} {sd : Nat → Option Nat} (hq : ∀ k, k < sn → sq k < 25 ∧ ∀ z, sd k = some z → z < 2) : ctP (unB F sn sq sd b) 32 = 0 ↔ seeB F sn sq sd b = true := by
  rw [ctP_zero]
  unfold seeB
  rw [List.all_eq_true]
  constructor
  · intro h k hk
    have hk := List.mem_range.mp hk
    have h1 := h (sq k) (by have := (hq k hk).1; omega)
    rw [decide_eq_true_eq]
    unfold unB at h1
    rw [Bool.or_eq_false_iff, Bool.or_eq_false_iff] at h1
    obtain ⟨⟨a1, a2⟩, a3⟩ := h1
    cases e : sd k with
    | none =>
      have hx : wntB sn sq sd none (sq k) = true := wntB_t.mpr ⟨k, hk, e, rfl⟩
      rw [hx, Bool.true_and, Bool.or_eq_false_iff] at a1
      cases e2 : (pon F b (sq k)).map (rSd F) with
      | none => rfl
      | some s =>
        exfalso
        have hs := pon_side hf e2
        have h3 := (hel_pon hw).mpr e2
        have : s = 0 ∨ s = 1 := by omega
        rcases this with rfl | rfl
        · rw [a1.1] at h3; cases h3
        · rw [a1.2] at h3; cases h3
    | some s =>
      have hs := (hq k hk).2 s e
      have hx : wntB sn sq sd (some s) (sq k) = true := wntB_t.mpr ⟨k, hk, e, rfl⟩
      have : s = 0 ∨ s = 1 := by omega
      rcases this with rfl | rfl
      · rw [hx, Bool.true_and, Bool.not_eq_false'] at a2
        exact (hel_pon hw).mp a2
      · rw [hx, Bool.true_and, Bool.not_eq_false'] at a3
        exact (hel_pon hw).mp a3
  · intro h i hi
    have h1 : ∀ k, k < sn → (pon F b (sq k)).map (rSd F) = sd k := fun k hk => by
      have := h k (List.mem_range.mpr hk)
      rwa [decide_eq_true_eq] at this
    have ha : ∀ s, wntB sn sq sd (some s) i = true → helB F b s i = true := fun s hs => by
      obtain ⟨k, hk, e1, e2⟩ := wntB_t.mp hs
      rw [hel_pon hw, ← e2, h1 k hk, e1]
    have hb : wntB sn sq sd none i = true → ∀ s, helB F b s i = false := fun hs s => by
      obtain ⟨k, hk, e1, e2⟩ := wntB_t.mp hs
      cases e : helB F b s i with
      | false => rfl
      | true => rw [hel_pon hw, ← e2, h1 k hk, e1] at e; cases e
    unfold unB
    rw [Bool.or_eq_false_iff, Bool.or_eq_false_iff]
    refine ⟨⟨?_, ?_⟩, ?_⟩
    · cases e : wntB sn sq sd none i with
      | false => rfl
      | true => rw [hb e 0, hb e 1]; rfl
    · cases e : wntB sn sq sd (some 0) i with
      | false => rfl
      | true => rw [ha 0 e]; rfl
    · cases e : wntB sn sq sd (some 1) i with
      | false => rfl
      | true => rw [ha 1 e]; rfl
theorem unB_play {F : RT} {sn : Nat} {sq : Nat → Nat} {sd : Nat → Option Nat} {b : BT} {w j : Nat} (hw : BW F b) : ctP (unB F sn sq sd b) 32 ≤ ctP (unB F sn sq sd (playB F b w ((mvs F b w)[j]?))) 32 + 2 := by
  cases e : (mvs F b w)[j]? with
  | none =>
    have : ctP (unB F sn sq sd b) 32 = ctP (unB F sn sq sd (playB F b w none)) 32 := ctP_cong fun x _ => by unfold unB; rw [hel_play0, hel_play0]
    omega
  | some m =>
    obtain ⟨-, -, p, i, h1, h2, h3, rfl⟩ := mvs_mem (List.mem_of_getElem? e)
    obtain ⟨q, hq⟩ : ∃ q, bP b p = some q := by
      unfold tgt at h3
      cases e2 : bP b p with
      | none => rw [e2] at h3; cases h3
      | some q => exact ⟨q, rfl⟩
    have t1 := ctP_or (P := unB F sn sq sd b) (Q := unB F sn sq sd (playB F b w (some (100 * p + i)))) (R := fun x => decide (x = q) || decide (x = i)) (fun x hx => by
      by_cases ex : x = q
      · exact Or.inr (by simp [ex])
      · by_cases ey : x = i
        · exact Or.inr (by simp [ey])
        · left
          unfold unB at hx ⊢
          rw [hel_play hw h1 h2 hq ex ey, hel_play hw h1 h2 hq ex ey]
          exact hx) 32
    have t2 := ctP_or (P := fun x => decide (x = q) || decide (x = i)) (Q := fun x => decide (x = q)) (R := fun x => decide (x = i)) (fun x hx => by simpa using hx) 32
    have t3 := ctP_one1 q 32
    have t4 := ctP_one1 i 32
    omega
theorem fnd_seen {F : RT} (hf : RW F) {sn : Nat} {sq : Nat → Nat} {sd : Nat → Option Nat} (hq : ∀ k, k < sn → sq k < 25 ∧ ∀ z, sd k = some z → z < 2) : ∀ {k : Nat} {b : BT} {r : RowT}, BW F b → r ∈ fnd F (seeB F sn sq sd) k b → ctP (unB F sn sq sd b) 32 ≤ 2 * k
  | 0, b, r, hw, h => by
    rw [fnd] at h
    split at h
    · rename_i hg
      exact Nat.le_of_eq ((unB_zero hf hw hq).mpr hg)
    · cases h
  | k + 1, b, r, hw, h => by
    obtain ⟨-, w, j, r', h1, h2, h3, -⟩ := fnd_mem h
    have hw' : BW F (playB F b w ((mvs F b w)[j]?)) := playB_W hw (fun m hm => ⟨(mvs_ok hm).1, (mvs_ok hm).2.1⟩)
    have h4 := fnd_seen hf hq hw' h3
    have h5 := unB_play (F := F) (sn := sn) (sq := sq) (sd := sd) (b := b) (w := w) (j := j) hw
    omega
theorem prn_seen {F : RT} (hf : RW F) {sn : Nat} {sq : Nat → Nat} {sd : Nat → Option Nat} (hq : ∀ k, k < sn → sq k < 25 ∧ ∀ z, sd k = some z → z < 2) : Prn F (seeB F sn sq sd) (mcS F sn sq sd) := by
  constructor
  · intro b hw
    have := unB_zero hf hw hq
    unfold mcS
    rw [Bool.eq_iff_iff, ← this, decide_eq_true_eq]
    omega
  · intro k b hw h
    cases e : fnd F (seeB F sn sq sd) k b with
    | nil => rfl
    | cons r L =>
      exfalso
      have h1 := fnd_seen hf hq hw (show r ∈ fnd F (seeB F sn sq sd) k b by rw [e]; exact List.mem_cons_self)
      unfold mcS at h
      rw [decide_eq_true h1] at h
      cases h
/-- where a piece stands: its square's bit, or the last one -/
def plB (wt : Option Nat) (e : BT) (i : Nat) : Bool := match wt.bind (bP e) with
  | none => decide (i = 25)
  | some a => decide (i = a)
/-- what the notes of these rows change in the object that keeps them -/
def NtP (Wt : Prop) (I I1 : Mem) (q h0 t : Nat) (wt : Option Nat) (L : List RowT) : Prop :=
  (Wt → ∀ i, i < 32 → bt (I1 q 6) i = (bt (I q 6) i || L.any (fun r => plB wt r.2 i))) ∧ (∀ z, z ≠ 4 → z ≠ 6 → I1 q z = I q z) ∧
  (L = [] → I1 q 4 = I q 4 ∧ I1 (q + 4) = I (q + 4)) ∧
  (∀ r L', L = r :: L' → I1 q 4 = 1 ∧ (I q 4 = 1 → I1 (q + 4) = I (q + 4)) ∧ (I q 4 = 0 → (∀ x l, r.1[x]? = some l → I1 (q + 4) (t + x) = nI l) ∧ ∀ x, x < t → I1 (q + 4) x = I (h0 - 6 * x) 3))
theorem NtP.nil {Wt : Prop} {I I1 : Mem} {q h0 t : Nat} {wt : Option Nat} (h1 : I1 q = I q) (h2 : I1 (q + 4) = I (q + 4)) : NtP Wt I I1 q h0 t wt [] := by
  refine ⟨fun _ i _ => by rw [h1]; simp, fun z _ _ => by rw [h1], fun _ => ⟨by rw [h1], h2⟩, fun r L' h => by cases h⟩
theorem NtP.app {Wt : Prop} {I J J2 J3 : Mem} {q h0 t lb : Nat} {wt : Option Nat} {LL L' : List RowT} (a : NtP Wt I J q h0 t wt LL) (h01 : I q 4 = 0 ∨ I q 4 = 1) (e1 : J2 q = J q) (e2 : J2 (q + 4) = J (q + 4)) (e3 : ∀ x, x < t → J2 (h0 - 6 * x) 3 = I (h0 - 6 * x) 3) (e4 : J2 (h0 - 6 * t) 3 = nI lb) (c : NtP Wt J2 J3 q h0 (t + 1) wt L') : NtP Wt I J3 q h0 t wt (LL ++ L'.map (consR lb)) := by
  obtain ⟨a1, a2, a3, a4⟩ := a
  obtain ⟨c1, c2, c3, c4⟩ := c
  refine ⟨fun hW i hi => ?_, fun z h4 h6 => ?_, fun h => ?_, fun r L9 h => ?_⟩
  · rw [c1 hW i hi, e1, a1 hW i hi, List.any_append, List.any_map, Bool.or_assoc]
    rfl
  · rw [c2 z h4 h6, e1, a2 z h4 h6]
  · obtain ⟨h1, h2⟩ := List.append_eq_nil_iff.mp h
    have h2 := List.map_eq_nil_iff.mp h2
    obtain ⟨x1, x2⟩ := a3 h1
    obtain ⟨y1, y2⟩ := c3 h2
    exact ⟨by rw [y1, e1, x1], by rw [y2, e2, x2]⟩
  · cases LL with
    | cons r0 L0 =>
      obtain ⟨x1, x2, x3⟩ := a4 r0 L0 rfl
      have hr : r0 = r := by rw [List.cons_append] at h; exact (List.cons.inj h).1
      subst hr
      have hk : J3 q 4 = 1 ∧ J3 (q + 4) = J (q + 4) := by
        cases L' with
        | nil => obtain ⟨y1, y2⟩ := c3 rfl; exact ⟨by rw [y1, e1, x1], by rw [y2, e2]⟩
        | cons r1 L1 =>
          obtain ⟨y1, y2, -⟩ := c4 r1 L1 rfl
          exact ⟨y1, by rw [y2 (by rw [e1]; exact x1), e2]⟩
      refine ⟨hk.1, fun h1 => by rw [hk.2]; exact x2 h1, fun h0 => ?_⟩
      rw [hk.2]; exact x3 h0
    | nil =>
      obtain ⟨x1, x2⟩ := a3 rfl
      cases L' with
      | nil => cases h
      | cons r1 L1 =>
        obtain ⟨y1, y2, y3⟩ := c4 r1 L1 rfl
        rw [List.nil_append, List.map_cons] at h
        have hr : consR lb r1 = r := (List.cons.inj h).1
        subst hr
        refine ⟨y1, fun h1 => ?_, fun h0 => ?_⟩
        · rw [y2 (by rw [e1, x1]; exact h1), e2, x2]
        · obtain ⟨z1, z2⟩ := y3 (by rw [e1, x1]; exact h0)
          refine ⟨fun x l hx => ?_, fun x hx => ?_⟩
          · cases x with
            | zero =>
              have : lb = l := by simpa [consR] using hx
              show J3 (q + 4) t = nI l
              rw [z2 t (Nat.lt_succ_self t), e4, this]
            | succ x =>
              have := z1 x l (by simpa [consR] using hx)
              rw [show t + (x + 1) = t + 1 + x by omega]; exact this
          · rw [z2 x (by omega), e3 x hx]
theorem Ch.at {n : Nat} {ρ : Rho} {h0 : Nat} (hc : Ch n ρ 3 h0) : ∀ j, j < 3 → Sp n ρ (h0 - 6 * j) ∧ ρ (h0 - 6 * j) 2 = some (h0 - 6 * (j + 1)) ∧ 6 * (j + 1) ≤ h0 := by
  obtain ⟨a1, a2, a3, b1, b2, b3, c1, c2, c3, d⟩ := hc
  intro j hj
  have : j = 0 ∨ j = 1 ∨ j = 2 := by omega
  rcases this with rfl | rfl | rfl
  · exact ⟨a1, a3, by omega⟩
  · exact ⟨b1, b3, by omega⟩
  · exact ⟨c1, by rw [show h0 - 6 * (2 + 1) = h0 - 6 - 6 - 6 by omega]; exact c3, by omega⟩
/-- the object that keeps the rows found -/
def RwS (n : Nat) (ρ : Rho) (q h0 : Nat) : Prop := shp q = (15, 7) ∧ ρ q 2 = some (q + 4) ∧ ρ q 3 = some h0 ∧ shp (q + 4) = (0, 3) ∧ q + 4 < n
/-- what is seen, as the heap holds it -/
def SnP (I : Mem) (g sn : Nat) (sq : Nat → Nat) (sd : Nat → Option Nat) : Prop := I g 6 = nI sn ∧ sn ≤ 8 ∧ ∀ k, k < sn → I (g + 9) k = nI (sq k) ∧ sq k < 25 ∧ I (g + 10) k = oI (sd k) ∧ ∀ z, sd k = some z → z < 2
theorem oI_side {a : Option Nat} (h : ∀ z, a = some z → z < 2) : (0 ≤ oI a ∧ oI a < 2) ↔ ∃ z, a = some z := by
  cases a with
  | none => exact ⟨fun h => absurd h.1 (by decide), fun ⟨z, h⟩ => by cases h⟩
  | some z => exact ⟨fun _ => ⟨z, rfl⟩, fun _ => ⟨nI_pos' (by have := h z rfl; omega), nI_lt (b := 2) (h z rfl) (by decide)⟩⟩
theorem beq_dec {a i : Nat} : (some a == some i) = decide (a = i) := by by_cases h : a = i <;> simp [h]
theorem oI_inj {a b : Option Nat} (ha : ∀ q, a = some q → q < 2 ^ 31) (hb : ∀ q, b = some q → q < 2 ^ 31) (h : oI a = oI b) : a = b := by
  cases b with
  | none => exact (oI_none ha).mp h
  | some j => exact (oI_nI ha (hb j rfl)).mp h
set_option maxHeartbeats 400000 in
theorem c_X0_aim (n : Nat) (ρ : Rho) (I : Mem) (a g sn : Nat) (sq : Nat → Nat) (sd : Nat → Option Nat) (hn9 : n ≤ 999) (ha0 : shp a = (10, 2)) (ha1 : ρ a 0 = some (a + 1)) (ha2 : shp (a + 1) = (0, 2)) (han : a + 1 < n) (hg0 : shp g = (12, 8)) (hg2 : ρ g 2 = some (g + 9)) (hg3 : ρ g 3 = some (g + 10)) (hg9 : shp (g + 9) = (0, 8)) (hg10 : shp (g + 10) = (0, 8)) (hgn : g + 10 < n) (hsn : SnP I g sn sq sd) (hag : ∀ i, i ≤ 10 → g + i ≠ a ∧ g + i ≠ a + 1) : MV yX0_aim cX0_aim 5 none 1 [.ref a, .ref g] n ρ I (fun I1 => (∀ s, s < 2 → ∀ i, i < 32 → bt (I1 (a + 1) s) i = wntB sn sq sd (some s) i) ∧ (∀ i, i < 32 → bt (I1 a 1) i = wntB sn sq sd none i) ∧ ∀ x, x ≠ a → x ≠ a + 1 → I1 x = I x) := by
  refine MG.of (by decide +kernel) (Nat.le_of_ble_eq_true rfl) hn9 ?_
  intro κ C hR
  show G κ n ρ 0 [(0, .ref a), (1, .ref g)] [] I
  obtain ⟨hs6, hs8, hsk⟩ := id hsn
  have hga := hag 0 (by decide)
  refine g_iconst C (pc := 0) 0 dX0_aim_0 (by decide) ?_
  refine g_istore_n C (pc := 1) dX0_aim_1 (by decide) (fun v1 => [(2, .int v1), (0, .ref a), (1, .ref g)]) (fun _ => rfl) (fun v1 ev1 => ?_)
  have L2 : ∀ (k9 : Nat) (u : Nat) (wz2 : Int32) (J : Mem) (hw2 : wz2 = nI u) (hu : u ≤ 2) (hB : ∀ k, k < u → J (a + 1) k = 0) (hF : ∀ x, x ≠ a + 1 → J x = I x), 2 - u < k9 → G κ n ρ 2 [(2, .int wz2), (0, .ref a), (1, .ref g)] [] J := by
    intro k9
    induction k9 with
    | zero => intro u wz2 J hw2 hu hB hF hm2; exact absurd hm2 (Nat.not_lt_zero _)
    | succ k9 ih2 =>
      intro u wz2 J hw2 hu hB hF hm2
      subst hw2
      refine g_iload_n C (pc := 2) dX0_aim_2 0 rfl ?_
      refine g_iconst C (pc := 3) 2 dX0_aim_3 (by decide) ?_
      refine g_icmp_ge C (pc := 4) 20 dX0_aim_4 (by decide) (fun c4 => ?_) (fun c4 => ?_)
      · replace c4 := (nI_leI (a := 2) (b := u) (by decide) (by omega)).mp c4
        refine g_aload_n C (pc := 20) dX0_aim_20 1 rfl ?_
        refine g_iconst C (pc := 21) 0 dX0_aim_21 (by decide) ?_
        refine g_putI C (pc := 22) fl_RX0_15 (by decide) fp_0_1 (Or.inl rfl) ⟨rfl, rfl⟩ (by first | assumption | rfl | omega) (by first | assumption | rfl | omega) hn9 dX0_aim_22 ?_
        refine g_iconst C (pc := 25) 0 dX0_aim_25 (by decide) ?_
        refine g_istore_n C (pc := 26) dX0_aim_26 (by decide) (fun v26 => [(2, .int v26), (0, .ref a), (1, .ref g)]) (fun _ => rfl) (fun v26 ev26 => ?_)
        have L27 : ∀ (k9 : Nat) (j : Nat) (wz2 : Int32) (K : Mem) (hw2 : wz2 = nI j) (hj : j ≤ sn) (hW : ∀ s, s < 2 → ∀ i, i < 32 → bt (K (a + 1) s) i = wntB j sq sd (some s) i) (hE : ∀ i, i < 32 → bt (K a 1) i = wntB j sq sd none i) (hG : ∀ x, x ≠ a → x ≠ a + 1 → K x = I x), sn - j < k9 → G κ n ρ 27 [(2, .int wz2), (0, .ref a), (1, .ref g)] [] K := by
          intro k9
          induction k9 with
          | zero => intro j wz2 K hw2 hj hW hE hG hm27; exact absurd hm27 (Nat.not_lt_zero _)
          | succ k9 ih27 =>
            intro j wz2 K hw2 hj hW hE hG hm27
            subst hw2
            refine g_iload_n C (pc := 27) dX0_aim_27 0 rfl ?_
            refine g_aload_n C (pc := 28) dX0_aim_28 2 rfl ?_
            refine g_getI C (pc := 29) fl_RX0_19 (by decide) (by first | assumption | rfl | omega) (by first | assumption | rfl | omega) dX0_aim_29 ?_
            refine g_icmp_ge C (pc := 32) 97 dX0_aim_32 (by decide) (fun c32 => ?_) (fun c32 => ?_)
            · rw [hG g (by omega) (by omega), hs6, nI_leI (by omega) (by omega)] at c32
              refine g_vret C hR (pc := 97) rfl dX0_aim_97 ?_
              refine ⟨rfl, rfl, ?_⟩
              first
              | (have hjn : j = sn := by omega
                 subst hjn; exact ⟨hW, hE, hG⟩)
            · rw [hG g (by omega) (by omega), hs6, nI_ltI (by omega) (by omega)] at c32
              have hs1 := hsk j (by omega)
              refine g_iload_n C (pc := 35) dX0_aim_35 0 rfl ?_
              refine g_bipush C (pc := 36) 8 dX0_aim_36 (by decide) ?_
              refine g_icmp_ge C (pc := 38) 97 dX0_aim_38 (by decide) (fun c38 => ?_) (fun c38 => ?_)
              · exact absurd (nI_lt (b := 8) (show j < 8 by omega) (by decide)) (Int32.not_lt.mpr c38)
              · refine g_aload_n C (pc := 41) dX0_aim_41 2 rfl ?_
                refine g_getR C (pc := 42) fl_RX0_24 (by decide) (by first | assumption | rfl | omega) (by first | assumption | rfl | omega) (by first | assumption | rfl | omega) dX0_aim_42 ?_
                refine g_iload_n C (pc := 45) dX0_aim_45 0 rfl ?_
                refine g_iald C (pc := 46) (by first | assumption | rfl | omega) (by first | assumption | rfl | omega) (vp_in_nI (show j < 8 by omega) (by decide)) dX0_aim_46 ?_
                rw [nI_clamp (by omega), hG (g + 9) (hag 9 (by decide)).1 (hag 9 (by decide)).2, hs1.1]
                refine g_callSI C (pc := 47) mf_X5_bitOf lk_RX0_27 (c_X5_bitOf n ρ _ _ hn9) (by decide) (Nat.le_refl _) rfl (Nat.le_of_ble_eq_true rfl) dX0_aim_47 (fun v47 I47 h47 => ?_)
                obtain ⟨e47, rfl⟩ := h47
                refine g_istore_n C (pc := 50) dX0_aim_50 (by decide) (fun v50 => [(3, .int v50), (2, .int (nI j)), (0, .ref a), (1, .ref g)]) (fun _ => rfl) (fun v50 ev50 => ?_)
                refine g_aload_n C (pc := 51) dX0_aim_51 3 rfl ?_
                refine g_getR C (pc := 52) fl_RX0_33 (by decide) (by first | assumption | rfl | omega) (by first | assumption | rfl | omega) (by first | assumption | rfl | omega) dX0_aim_52 ?_
                refine g_iload_n C (pc := 55) dX0_aim_55 1 rfl ?_
                refine g_iald C (pc := 56) (by first | assumption | rfl | omega) (by first | assumption | rfl | omega) (vp_in_nI (show j < 8 by omega) (by decide)) dX0_aim_56 ?_
                rw [nI_clamp (by omega), hG (g + 10) (hag 10 (by decide)).1 (hag 10 (by decide)).2, hs1.2.2.1]
                have hb50 : v50 = bitO (oI (some (sq j))) := ev50.trans e47
                refine g_istore C (pc := 57) dX0_aim_57 (by decide) (fun v57 => [(4, .int v57), (3, .int v50), (2, .int (nI j)), (0, .ref a), (1, .ref g)]) (fun _ => rfl) (fun v57 ev57 => ?_)
                refine g_iload C (pc := 59) dX0_aim_59 0 rfl ?_
                refine g_callSI C (pc := 61) mf_X11_isSide lk_RX0_36 (c_X11_isSide n ρ _ _ hn9) (by decide) (Nat.le_refl _) rfl (Nat.le_of_ble_eq_true rfl) dX0_aim_61 (fun v61 I61 h61 => ?_)
                obtain ⟨e61, rfl⟩ := h61
                refine g_if_eq C (pc := 64) 81 dX0_aim_64 (by decide) (fun c64 => ?_) (fun c64 => ?_)
                · have hnone : sd j = none := by
                    rw [ev57] at e61
                    have h9 := bI_0.mp (e61.symm.trans c64)
                    cases h8 : sd j with
                    | none => rfl
                    | some z => exact absurd ((oI_side hs1.2.2.2).mpr ⟨z, h8⟩) h9
                  refine g_aload_n C (pc := 81) dX0_aim_81 3 rfl ?_
                  refine g_dup C (pc := 82) dX0_aim_82 rfl ?_
                  refine g_getI C (pc := 83) fl_RX0_15 (by decide) (by first | assumption | rfl | omega) (by first | assumption | rfl | omega) dX0_aim_83 ?_
                  refine g_iload_n C (pc := 86) dX0_aim_86 1 rfl ?_
                  refine g_ior C (pc := 87) dX0_aim_87 ?_
                  refine g_putI C (pc := 88) fl_RX0_15 (by decide) fp_0_1 (Or.inl rfl) ⟨rfl, rfl⟩ (by first | assumption | rfl | omega) (by first | assumption | rfl | omega) hn9 dX0_aim_88 ?_
                  refine g_iinc C (pc := 91) (1) dX0_aim_91 2 rfl (by decide) (by decide) (fun v91 => [(2, .int v91), (4, .int v57), (3, .int v50), (0, .ref a), (1, .ref g)]) (fun _ => rfl) (fun v91 ev91 => ?_)
                  refine g_goto C (pc := 94) 27 dX0_aim_94 (by decide) ?_
                  refine g_lv C [0, 3, 4] rfl (ih27 (j + 1) _ _ ?_ ?_ ?_ ?_ ?_ (by omega))
                  · subst_vars; exact nI_1 _
                  · omega
                  · intro s hs i hi
                    rw [wntB_succ]
                    first
                    | (rw [wr_n (by omega), hW s hs i hi, decide_eq_false (fun h9 => by rw [hnone] at h9; cases h9)]; simp; done)
                    | (rw [hv, nI_clamp (by omega)]
                       by_cases e9 : s = s9
                       · subst e9; rw [wr_ss, hb50, or_bitO (by intro q h9; cases h9; exact hs1.2.1) hi, hW s hs i hi, hsd, beq_dec]; simp
                       · rw [wr_sn e9, hW s hs i hi, hsd, decide_eq_false (fun h9 => e9 (Option.some.inj h9).symm)]; simp)
                  · intro i hi
                    rw [wntB_succ]
                    first
                    | (rw [wr_n (by omega), hE i hi, hsd]; simp; done)
                    | (rw [wr_ss, hb50, or_bitO (by intro q h9; cases h9; exact hs1.2.1) hi, hE i hi, hnone, beq_dec]; simp)
                  · intro x h1 h2
                    first | (rw [wr_n h2]; exact hG x h1 h2) | (rw [wr_n h1]; exact hG x h1 h2)
                · obtain ⟨s9, hsd⟩ : ∃ z, sd j = some z := by
                    rw [ev57] at e61
                    exact (oI_side hs1.2.2.2).mp (bI_1.mp (fun h9 => c64 (e61.trans h9)))
                  have hs9 := hs1.2.2.2 s9 hsd
                  have hv : v57 = nI s9 := by rw [ev57, hsd]; rfl
                  refine g_aload_n C (pc := 67) dX0_aim_67 3 rfl ?_
                  refine g_getR C (pc := 68) fl_RX0_9 (by decide) (by first | assumption | rfl | omega) (by first | assumption | rfl | omega) (by first | assumption | rfl | omega) dX0_aim_68 ?_
                  refine g_iload C (pc := 71) dX0_aim_71 0 rfl ?_
                  refine g_dup2 C (pc := 73) dX0_aim_73 rfl rfl ?_
                  refine g_iald C (pc := 74) (by first | assumption | rfl | omega) (by first | assumption | rfl | omega) (by rw [hv]; exact vp_in_nI (by omega) (by decide)) dX0_aim_74 ?_
                  refine g_iload_n C (pc := 75) dX0_aim_75 1 rfl ?_
                  refine g_ior C (pc := 76) dX0_aim_76 ?_
                  refine g_iast C (pc := 77) (by first | assumption | rfl | omega) (by first | assumption | rfl | omega) hn9 (by rw [hv]; exact vp_in_nI (by omega) (by decide)) dX0_aim_77 ?_
                  refine g_goto C (pc := 78) 91 dX0_aim_78 (by decide) ?_
                  refine g_iinc C (pc := 91) (1) dX0_aim_91 2 rfl (by decide) (by decide) (fun v91 => [(2, .int v91), (4, .int v57), (3, .int v50), (0, .ref a), (1, .ref g)]) (fun _ => rfl) (fun v91 ev91 => ?_)
                  refine g_goto C (pc := 94) 27 dX0_aim_94 (by decide) ?_
                  refine g_lv C [0, 3, 4] rfl (ih27 (j + 1) _ _ ?_ ?_ ?_ ?_ ?_ (by omega))
                  · subst_vars; exact nI_1 _
                  · omega
                  · intro s hs i hi
                    rw [wntB_succ]
                    first
                    | (rw [wr_n (by omega), hW s hs i hi, decide_eq_false (fun h9 => by rw [hnone] at h9; cases h9)]; simp; done)
                    | (rw [hv, nI_clamp (by omega)]
                       by_cases e9 : s = s9
                       · subst e9; rw [wr_ss, hb50, or_bitO (by intro q h9; cases h9; exact hs1.2.1) hi, hW s hs i hi, hsd, beq_dec]; simp
                       · rw [wr_sn e9, hW s hs i hi, hsd, decide_eq_false (fun h9 => e9 (Option.some.inj h9).symm)]; simp)
                  · intro i hi
                    rw [wntB_succ]
                    first
                    | (rw [wr_n (by omega), hE i hi, hsd]; simp; done)
                    | (rw [wr_ss, hb50, or_bitO (by intro q h9; cases h9; exact hs1.2.1) hi, hE i hi, hnone, beq_dec]; simp)
                  · intro x h1 h2
                    first | (rw [wr_n h2]; exact hG x h1 h2) | (rw [wr_n h1]; exact hG x h1 h2)
        refine g_lv C [0, 1, 2] rfl (L27 (_ + 1) 0 _ _ ?_ ?_ ?_ ?_ ?_ (by first | omega | exact Nat.lt_succ_self _))
        · subst_vars; rfl
        · exact Nat.zero_le _
        · intro s hs i hi; rw [wr_n (by omega), hB s (by omega), b_0]; rfl
        · intro i hi; rw [wr_ss, b_0]; rfl
        · intro x h1 h2; rw [wr_n h1, hF x h2]
      · replace c4 := (nI_ltI (a := u) (b := 2) (by omega) (by decide)).mp c4
        refine g_aload_n C (pc := 7) dX0_aim_7 1 rfl ?_
        refine g_getR C (pc := 8) fl_RX0_9 (by decide) (by first | assumption | rfl | omega) (by first | assumption | rfl | omega) (by first | assumption | rfl | omega) dX0_aim_8 ?_
        refine g_iload_n C (pc := 11) dX0_aim_11 0 rfl ?_
        refine g_iconst C (pc := 12) 0 dX0_aim_12 (by decide) ?_
        refine g_iast C (pc := 13) (by first | assumption | rfl | omega) (by first | assumption | rfl | omega) hn9 (vp_in_nI (by omega) (by decide)) dX0_aim_13 ?_
        refine g_iinc C (pc := 14) (1) dX0_aim_14 0 rfl (by decide) (by decide) (fun v14 => [(2, .int v14), (0, .ref a), (1, .ref g)]) (fun _ => rfl) (fun v14 ev14 => ?_)
        refine g_goto C (pc := 17) 2 dX0_aim_17 (by decide) ?_
        refine g_lv C [0, 1, 2] rfl (ih2 (u + 1) _ _ ?_ ?_ ?_ ?_ (by omega))
        · subst_vars; exact nI_1 _
        · omega
        · intro k hk
          rw [nI_clamp (by omega)]
          rcases Nat.lt_or_ge k u with h1 | h1
          · rw [wr_sn (by omega)]; exact hB k h1
          · have : k = u := by omega
            subst this
            rw [wr_ss]
        · intro i h1; rw [wr_n h1]; exact hF i h1
  refine g_lv C [0, 1, 2] rfl (L2 (_ + 1) 0 _ _ ?_ ?_ ?_ ?_ (by first | omega | exact Nat.lt_succ_self _))
  · subst_vars; rfl
  · exact Nat.zero_le _
  · intro k hk; omega
  · intro i _; rfl
set_option maxHeartbeats 400000 in
theorem c_X0_mayCome (n : Nat) (ρ : Rho) (I : Mem) (a s sn k : Nat) (sq : Nat → Nat) (sd : Nat → Option Nat) (F : RT) (b : BT) (x : Int32) (hn9 : n ≤ 999) (ha0 : shp a = (10, 2)) (ha1 : ρ a 0 = some (a + 1)) (ha2 : shp (a + 1) = (0, 2)) (han : a + 1 < n) (hst : St n ρ s) (hbr : BR I s F b) (hW : ∀ s, s < 2 → ∀ i, i < 32 → bt (I (a + 1) s) i = wntB sn sq sd (some s) i) (hE : ∀ i, i < 32 → bt (I a 1) i = wntB sn sq sd none i) (hk : k ≤ 3) (hx : x = nI k) : MI yX0_mayCome cX0_mayCome 5 (some .boolean) 1 [.ref a, .ref s, .int x] n ρ I (fun v I1 => v = bI (mcS F sn sq sd k b = true) ∧ I = I1) := by
  refine MG.of (by decide +kernel) (Nat.le_of_ble_eq_true rfl) hn9 ?_
  intro κ C hR
  show G κ n ρ 0 [(0, .ref a), (1, .ref s), (2, .int x)] [] I
  subst hx
  obtain ⟨hs0, hs1, hs2, hs3, hsn, hr0, hr1, hr2⟩ := id hst
  refine g_aload_n C (pc := 0) dX0_mayCome_0 0 rfl ?_
  refine g_getI C (pc := 1) fl_RX0_15 (by decide) (by first | assumption | rfl | omega) (by first | assumption | rfl | omega) dX0_mayCome_1 ?_
  refine g_aload_n C (pc := 4) dX0_mayCome_4 1 rfl ?_
  refine g_iconst C (pc := 5) 0 dX0_mayCome_5 (by decide) ?_
  refine g_callVI C (pc := 6) mf_X8_heldBy lk_RX0_40 (c_X8_heldBy n ρ I s _ hn9 hst) (by decide) (Nat.le_refl _) rfl (by first | assumption | rfl | omega) rfl (by first | assumption | rfl | omega) (Nat.le_of_ble_eq_true rfl) dX0_mayCome_6 (fun v6 I6 h6 => ?_)
  obtain ⟨e6, rfl⟩ := h6
  refine g_aload_n C (pc := 9) dX0_mayCome_9 1 rfl ?_
  refine g_iconst C (pc := 10) 1 dX0_mayCome_10 (by decide) ?_
  refine g_callVI C (pc := 11) mf_X8_heldBy lk_RX0_40 (c_X8_heldBy n ρ I s _ hn9 hst) (by decide) (Nat.le_refl _) rfl (by first | assumption | rfl | omega) rfl (by first | assumption | rfl | omega) (Nat.le_of_ble_eq_true rfl) dX0_mayCome_11 (fun v11 I11 h11 => ?_)
  obtain ⟨e11, rfl⟩ := h11
  refine g_ior C (pc := 14) dX0_mayCome_14 ?_
  refine g_iand C (pc := 15) dX0_mayCome_15 ?_
  refine g_istore_n C (pc := 16) dX0_mayCome_16 (by decide) (fun v16 => [(3, .int v16), (0, .ref a), (1, .ref s), (2, .int (nI k))]) (fun _ => rfl) (fun v16 ev16 => ?_)
  refine g_iconst C (pc := 17) 0 dX0_mayCome_17 (by decide) ?_
  refine g_istore C (pc := 18) dX0_mayCome_18 (by decide) (fun v18 => [(4, .int v18), (3, .int v16), (0, .ref a), (1, .ref s), (2, .int (nI k))]) (fun _ => rfl) (fun v18 ev18 => ?_)
  have L20 : ∀ (k9 : Nat) (j : Nat) (wz4 : Int32) (wz3 : Int32) (hw4 : wz4 = nI j) (hj : j ≤ 2) (hU : ∀ i, i < 32 → bt wz3 i = (((wntB sn sq sd none i && (helB F b 0 i || helB F b 1 i)) || (decide (0 < j) && (wntB sn sq sd (some 0) i && !helB F b 0 i))) || (decide (1 < j) && (wntB sn sq sd (some 1) i && !helB F b 1 i)))), 2 - j < k9 → G κ n ρ 20 [(4, .int wz4), (3, .int wz3), (0, .ref a), (1, .ref s), (2, .int (nI k))] [] I := by
    intro k9
    induction k9 with
    | zero => intro j wz4 wz3 hw4 hj hU hm20; exact absurd hm20 (Nat.not_lt_zero _)
    | succ k9 ih20 =>
      intro j wz4 wz3 hw4 hj hU hm20
      subst hw4
      refine g_iload C (pc := 20) dX0_mayCome_20 0 rfl ?_
      refine g_iconst C (pc := 22) 2 dX0_mayCome_22 (by decide) ?_
      refine g_icmp_ge C (pc := 23) 51 dX0_mayCome_23 (by decide) (fun c23 => ?_) (fun c23 => ?_)
      · replace c23 := (nI_leI (a := 2) (b := j) (by decide) (by omega)).mp c23
        refine g_iload_n C (pc := 51) dX0_mayCome_51 1 rfl ?_
        have hj2 : j = 2 := by omega
        subst hj2
        have hct : ctP (fun i => bt wz3 i) 32 = ctP (unB F sn sq sd b) 32 := ctP_cong fun i hi => by rw [hU i hi]; unfold unB; simp
        refine g_callSI C (pc := 52) mf_J6_bitCount_0f7a4 lk_RX0_45 (c_J6_bitCount_0f7a4 n ρ I _ hn9) (by decide) (Nat.le_refl _) rfl (Nat.le_of_ble_eq_true rfl) dX0_mayCome_52 (fun v52 I52 h52 => ?_)
        obtain ⟨e52, rfl⟩ := h52
        refine g_iconst C (pc := 55) 2 dX0_mayCome_55 (by decide) ?_
        refine g_iload_n C (pc := 56) dX0_mayCome_56 4 rfl ?_
        refine g_imul C (pc := 57) dX0_mayCome_57 ?_
        refine g_icmp_gt C (pc := 58) 65 dX0_mayCome_58 (by decide) (fun c58 => ?_) (fun c58 => ?_)
        · have hgt : ¬ ctP (unB F sn sq sd b) 32 ≤ 2 * k := by
            have h8 := ctP_le (unB F sn sq sd b) 32
            rw [e52, bcnt_eq, hct, show (2 : Int32) = nI 2 from rfl, pk_mul, nI_ltI (by omega) (by omega)] at c58
            omega
          refine g_iconst C (pc := 65) 0 dX0_mayCome_65 (by decide) ?_
          refine g_zret C hR (pc := 66) rfl rfl dX0_mayCome_66 ?_
          refine ⟨rfl, _, rfl, ?_⟩
          unfold mcS
          first | exact ⟨by rw [bI_t (by simpa using hle)], rfl⟩ | exact ⟨by rw [bI_f (by simpa using hgt)], rfl⟩
        · have hle : ctP (unB F sn sq sd b) 32 ≤ 2 * k := by
            have h8 := ctP_le (unB F sn sq sd b) 32
            rw [e52, bcnt_eq, hct, show (2 : Int32) = nI 2 from rfl, pk_mul, nI_leI (by omega) (by omega)] at c58
            omega
          refine g_iconst C (pc := 61) 1 dX0_mayCome_61 (by decide) ?_
          refine g_goto C (pc := 62) 66 dX0_mayCome_62 (by decide) ?_
          refine g_zret C hR (pc := 66) rfl rfl dX0_mayCome_66 ?_
          refine ⟨rfl, _, rfl, ?_⟩
          unfold mcS
          first | exact ⟨by rw [bI_t (by simpa using hle)], rfl⟩ | exact ⟨by rw [bI_f (by simpa using hgt)], rfl⟩
      · replace c23 := (nI_ltI (a := j) (b := 2) (by omega) (by decide)).mp c23
        refine g_iload_n C (pc := 26) dX0_mayCome_26 1 rfl ?_
        refine g_aload_n C (pc := 27) dX0_mayCome_27 2 rfl ?_
        refine g_getR C (pc := 28) fl_RX0_9 (by decide) (by first | assumption | rfl | omega) (by first | assumption | rfl | omega) (by first | assumption | rfl | omega) dX0_mayCome_28 ?_
        refine g_iload C (pc := 31) dX0_mayCome_31 0 rfl ?_
        refine g_iald C (pc := 33) (by first | assumption | rfl | omega) (by first | assumption | rfl | omega) (vp_in_nI (by omega) (by decide)) dX0_mayCome_33 ?_
        refine g_aload_n C (pc := 34) dX0_mayCome_34 3 rfl ?_
        refine g_iload C (pc := 35) dX0_mayCome_35 0 rfl ?_
        refine g_callVI C (pc := 37) mf_X8_heldBy lk_RX0_40 (c_X8_heldBy n ρ I s _ hn9 hst) (by decide) (Nat.le_refl _) rfl (by first | assumption | rfl | omega) rfl (by first | assumption | rfl | omega) (Nat.le_of_ble_eq_true rfl) dX0_mayCome_37 (fun v37 I37 h37 => ?_)
        obtain ⟨e37, rfl⟩ := h37
        refine g_iconst C (pc := 40) (-1) dX0_mayCome_40 (by decide) ?_
        refine g_ixor C (pc := 41) dX0_mayCome_41 ?_
        refine g_iand C (pc := 42) dX0_mayCome_42 ?_
        refine g_ior C (pc := 43) dX0_mayCome_43 ?_
        refine g_istore_n C (pc := 44) dX0_mayCome_44 (by decide) (fun v44 => [(3, .int v44), (4, .int (nI j)), (0, .ref a), (1, .ref s), (2, .int (nI k))]) (fun _ => rfl) (fun v44 ev44 => ?_)
        refine g_iinc C (pc := 45) (1) dX0_mayCome_45 1 rfl (by decide) (by decide) (fun v45 => [(4, .int v45), (3, .int v44), (0, .ref a), (1, .ref s), (2, .int (nI k))]) (fun _ => rfl) (fun v45 ev45 => ?_)
        refine g_goto C (pc := 48) 20 dX0_mayCome_48 (by decide) ?_
        refine g_lv C [0, 1, 2, 3, 4] rfl (ih20 (j + 1) _ _ ?_ ?_ ?_ (by omega))
        · subst_vars; exact nI_1 _
        · omega
        · intro i hi
          rw [ev44, b_or, b_and, b_xor, b_m1 i hi, hU i hi, nI_clamp (by omega), hW j c23 i hi, e37, at6 (N := 2) 2 rfl (by decide) c23, hbr.2.2 j c23 i hi]
          have : j = 0 ∨ j = 1 := by omega
          rcases this with rfl | rfl <;> simp
  refine g_lv C [0, 1, 2, 3, 4] rfl (L20 (_ + 1) 0 _ _ ?_ ?_ ?_ (by first | omega | exact Nat.lt_succ_self _))
  · subst_vars; rfl
  · exact Nat.zero_le _
  · intro i hi; rw [ev16, b_and, b_or, hE i hi, e6, e11, hel_at hbr (sd := 0) (z := 0) (by decide) hi rfl, hel_at hbr (sd := 1) (z := 1) (by decide) hi rfl]; simp
set_option maxHeartbeats 400000 in
theorem c_X4_mayCome (n : Nat) (ρ : Rho) (I : Mem) (a s r g k : Nat) (F : RT) (b gl : BT) (x : Int32) (hn9 : n ≤ 999) (ha0 : shp a = (13, 2)) (ha1 : ρ a 0 = some r) (ha2 : ρ a 1 = some g) (han : a < n) (hst : St n ρ s) (hrf : Rf n ρ r) (hsg : St n ρ g) (hrr : RR I r F) (hrw : RW F) (hbr : BR I s F b) (hbw : BW F b) (hgr : BR I g F gl) (hgw : BW F gl) (hk : k ≤ 3) (hx : x = nI k) : MI yX4_mayCome cX4_mayCome 6 (some .boolean) 1 [.ref a, .ref s, .int x] n ρ I (fun v I1 => v = bI (mcR F gl k b = true) ∧ I = I1) := by
  refine MG.of (by decide +kernel) (Nat.le_of_ble_eq_true rfl) hn9 ?_
  intro κ C hR
  show G κ n ρ 0 [(0, .ref a), (1, .ref s), (2, .int x)] [] I
  subst hx
  obtain ⟨hs0, hs1, hs2, hs3, hsn, hr0, hr1, hr2⟩ := id hst
  obtain ⟨gs0, gs1, gs2, gs3, gsn, gr0, gr1, gr2⟩ := id hsg
  obtain ⟨hq0, hq1, hq2, hq3, hqn, ht0, ht1, ht2⟩ := id hrf
  have hnp : rN F ≤ 6 := hrw.2.2.2.2.1
  have hN := hrr.2.2.1
  have hM := hbw.1
  have hGM := hgw.1
  refine g_aload_n C (pc := 0) dX4_mayCome_0 0 rfl ?_
  refine g_getR C (pc := 1) fl_RX4_9 (by decide) (by first | assumption | rfl | omega) (by first | assumption | rfl | omega) (by first | assumption | rfl | omega) dX4_mayCome_1 ?_
  refine g_ifnull C (pc := 4) dX4_mayCome_4 ?_
  refine g_aload_n C (pc := 7) dX4_mayCome_7 0 rfl ?_
  refine g_getR C (pc := 8) fl_RX4_15 (by decide) (by first | assumption | rfl | omega) (by first | assumption | rfl | omega) (by first | assumption | rfl | omega) dX4_mayCome_8 ?_
  refine g_ifnonnull C (pc := 11) 16 dX4_mayCome_11 (by decide) ?_
  refine g_aload_n C (pc := 16) dX4_mayCome_16 1 rfl ?_
  refine g_getI C (pc := 17) fl_RX4_19 (by decide) (by first | assumption | rfl | omega) (by first | assumption | rfl | omega) dX4_mayCome_17 ?_
  refine g_iload_n C (pc := 20) dX4_mayCome_20 2 rfl ?_
  refine g_iadd C (pc := 21) dX4_mayCome_21 ?_
  refine g_iconst C (pc := 22) 2 dX4_mayCome_22 (by decide) ?_
  refine g_irem C (pc := 23) dX4_mayCome_23 (by decide) ?_
  rw [hbr.1, nI_add, show (2 : Int32) = nI 2 from rfl, pk_rem (by omega) (by decide) (by decide)]
  refine g_aload_n C (pc := 24) dX4_mayCome_24 0 rfl ?_
  refine g_getR C (pc := 25) fl_RX4_15 (by decide) (by first | assumption | rfl | omega) (by first | assumption | rfl | omega) (by first | assumption | rfl | omega) dX4_mayCome_25 ?_
  refine g_getI C (pc := 28) fl_RX4_19 (by decide) (by first | assumption | rfl | omega) (by first | assumption | rfl | omega) dX4_mayCome_28 ?_
  refine g_icmp_eq C (pc := 31) 36 dX4_mayCome_31 (by decide) (fun c31 => ?_) (fun c31 => ?_)
  · have hpar : (bM b + k) % 2 = bM gl := by
      rw [hgr.1] at c31
      exact (nI_eq (by omega) (by omega)).mp c31
    refine g_iconst C (pc := 36) 0 dX4_mayCome_36 (by decide) ?_
    refine g_istore_n C (pc := 37) dX4_mayCome_37 (by decide) (fun v37 => [(3, .int v37), (0, .ref a), (1, .ref s), (2, .int (nI k))]) (fun _ => rfl) (fun v37 ev37 => ?_)
    refine g_iconst C (pc := 38) 0 dX4_mayCome_38 (by decide) ?_
    refine g_istore C (pc := 39) dX4_mayCome_39 (by decide) (fun v39 => [(4, .int v39), (3, .int v37), (0, .ref a), (1, .ref s), (2, .int (nI k))]) (fun _ => rfl) (fun v39 ev39 => ?_)
    have L41 : ∀ (k9 : Nat) (j : Nat) (wz4 : Int32) (wz3 : Int32) (hw4 : wz4 = nI j) (hj : j ≤ rN F) (hw3 : wz3 = nI (ctP (stB gl b) j)) (hA : k = 0 → ∀ p, p < j → bP b p = bP gl p ∧ bO b p = bO gl p), rN F - j < k9 → G κ n ρ 41 [(4, .int wz4), (3, .int wz3), (0, .ref a), (1, .ref s), (2, .int (nI k))] [] I := by
      intro k9
      induction k9 with
      | zero => intro j wz4 wz3 hw4 hj hw3 hA hm41; exact absurd hm41 (Nat.not_lt_zero _)
      | succ k9 ih41 =>
        intro j wz4 wz3 hw4 hj hw3 hA hm41
        subst hw4
        have hc8 := ctP_le (stB gl b) j
        refine g_iload C (pc := 41) dX4_mayCome_41 0 rfl ?_
        refine g_aload_n C (pc := 43) dX4_mayCome_43 2 rfl ?_
        refine g_getR C (pc := 44) fl_RX4_9 (by decide) (by first | assumption | rfl | omega) (by first | assumption | rfl | omega) (by first | assumption | rfl | omega) dX4_mayCome_44 ?_
        refine g_getI C (pc := 47) fl_RX4_25 (by decide) (by first | assumption | rfl | omega) (by first | assumption | rfl | omega) dX4_mayCome_47 ?_
        refine g_icmp_ge C (pc := 50) 135 dX4_mayCome_50 (by decide) (fun c50 => ?_) (fun c50 => ?_)
        · rw [hN, nI_leI (by omega) (by omega)] at c50
          refine g_iload_n C (pc := 135) dX4_mayCome_135 1 rfl ?_
          refine g_iload_n C (pc := 136) dX4_mayCome_136 4 rfl ?_
          refine g_icmp_gt C (pc := 137) 144 dX4_mayCome_137 (by decide) (fun c137 => ?_) (fun c137 => ?_)
          · have hend : j = rN F := by omega
            have hgt : ¬ ctP (stB gl b) (rN F) ≤ k := by
              rw [hw3, nI_ltI (by omega) (by omega), hend] at c137
              omega
            refine g_iconst C (pc := 144) 0 dX4_mayCome_144 (by decide) ?_
            refine g_zret C hR (pc := 145) rfl rfl dX4_mayCome_145 ?_
            refine ⟨rfl, _, rfl, ?_⟩
            refine ⟨?_, rfl⟩
            first
            | (rw [bI_f (fun h9 => by
                 unfold mcR at h9
                 simp only [Bool.and_eq_true, decide_eq_true_eq] at h9
                 exact hgt h9.2)]; done)
            | (rw [bI_t (by
                 unfold mcR
                 simp only [Bool.and_eq_true, Bool.or_eq_true, decide_eq_true_eq, List.all_eq_true]
                 refine ⟨⟨hpar, ?_⟩, hle⟩
                 by_cases h9 : k = 0
                 · exact Or.inr (fun p hp => hA h9 p (by have := List.mem_range.mp hp; omega))
                 · exact Or.inl h9)])
          · have hend : j = rN F := by omega
            have hle : ctP (stB gl b) (rN F) ≤ k := by
              rw [hw3, nI_leI (by omega) (by omega), hend] at c137
              omega
            refine g_iconst C (pc := 140) 1 dX4_mayCome_140 (by decide) ?_
            refine g_goto C (pc := 141) 145 dX4_mayCome_141 (by decide) ?_
            refine g_zret C hR (pc := 145) rfl rfl dX4_mayCome_145 ?_
            refine ⟨rfl, _, rfl, ?_⟩
            refine ⟨?_, rfl⟩
            first
            | (rw [bI_f (fun h9 => by
                 unfold mcR at h9
                 simp only [Bool.and_eq_true, decide_eq_true_eq] at h9
                 exact hgt h9.2)]; done)
            | (rw [bI_t (by
                 unfold mcR
                 simp only [Bool.and_eq_true, Bool.or_eq_true, decide_eq_true_eq, List.all_eq_true]
                 refine ⟨⟨hpar, ?_⟩, hle⟩
                 by_cases h9 : k = 0
                 · exact Or.inr (fun p hp => hA h9 p (by have := List.mem_range.mp hp; omega))
                 · exact Or.inl h9)])
        · rw [hN, nI_ltI (by omega) (by omega)] at c50
          have hbj := hbr.2.1 j c50
          have hgj := hgr.2.1 j c50
          refine g_aload_n C (pc := 53) dX4_mayCome_53 3 rfl ?_
          refine g_iload C (pc := 54) dX4_mayCome_54 0 rfl ?_
          refine g_callVI C (pc := 56) mf_X8_placeOf lk_RX4_30 (c_X8_placeOf n ρ I s _ hn9 hst) (by decide) (Nat.le_refl _) rfl (by first | assumption | rfl | omega) rfl (by first | assumption | rfl | omega) (Nat.le_of_ble_eq_true rfl) dX4_mayCome_56 (fun v56 I56 h56 => ?_)
          obtain ⟨e56, rfl⟩ := h56
          refine g_aload_n C (pc := 59) dX4_mayCome_59 2 rfl ?_
          refine g_getR C (pc := 60) fl_RX4_15 (by decide) (by first | assumption | rfl | omega) (by first | assumption | rfl | omega) (by first | assumption | rfl | omega) dX4_mayCome_60 ?_
          refine g_iload C (pc := 63) dX4_mayCome_63 0 rfl ?_
          refine g_callVI C (pc := 65) mf_X8_placeOf lk_RX4_30 (c_X8_placeOf n ρ I g _ hn9 hsg) (by decide) (Nat.le_refl _) rfl (by first | assumption | rfl | omega) rfl (by first | assumption | rfl | omega) (Nat.le_of_ble_eq_true rfl) dX4_mayCome_65 (fun v65 I65 h65 => ?_)
          obtain ⟨e65, rfl⟩ := h65
          refine g_icmp_ne C (pc := 68) 75 dX4_mayCome_68 (by decide) (fun c68 => ?_) (fun c68 => ?_)
          · have hst2 : bP b j ≠ bP gl j := by
              rw [e56, e65, at6 (N := 6) 6 rfl (by decide) (by omega), at6 (N := 6) 6 rfl (by decide) (by omega), hbj.1, hgj.1] at c68
              exact fun h9 => c68 (by rw [h9])
            refine g_iconst C (pc := 75) 0 dX4_mayCome_75 (by decide) ?_
            refine g_istore C (pc := 76) dX4_mayCome_76 (by decide) (fun v76 => [(5, .int v76), (4, .int (nI j)), (3, .int wz3), (0, .ref a), (1, .ref s), (2, .int (nI k))]) (fun _ => rfl) (fun v76 ev76 => ?_)
            refine g_iload_n C (pc := 78) dX4_mayCome_78 5 rfl ?_
            refine g_if_ne C (pc := 79) 107 dX4_mayCome_79 (by decide) (fun c79 => ?_) (fun c79 => ?_)
            · have hk0 : k ≠ 0 := fun h9 => c79 (by rw [h9]; rfl)
              refine g_iload C (pc := 107) dX4_mayCome_107 0 rfl ?_
              refine g_if_ne C (pc := 109) 129 dX4_mayCome_109 (by decide) (fun c109 => absurd c109 (by first | decide | (subst_vars; decide))) (fun c109 => ?_)
              refine g_aload_n C (pc := 112) dX4_mayCome_112 3 rfl ?_
              refine g_getR C (pc := 113) fl_RX4_15 (by decide) (by first | assumption | rfl | omega) (by first | assumption | rfl | omega) (by first | assumption | rfl | omega) dX4_mayCome_113 ?_
              refine g_iload C (pc := 116) dX4_mayCome_116 1 rfl ?_
              refine g_callVI C (pc := 118) mf_X8_placeOf lk_RX4_30 (c_X8_placeOf n ρ I g _ hn9 hsg) (by decide) (Nat.le_refl _) rfl (by first | assumption | rfl | omega) rfl (by first | assumption | rfl | omega) (Nat.le_of_ble_eq_true rfl) dX4_mayCome_118 (fun v118 I118 h118 => ?_)
              obtain ⟨e118, rfl⟩ := h118
              refine g_bipush C (pc := 121) (-4) dX4_mayCome_121 (by decide) ?_
              refine g_icmp_eq C (pc := 123) 129 dX4_mayCome_123 (by decide) (fun c123 => ?_) (fun c123 => ?_)
              · have hgn1 : bP gl j = none := by
                  rw [e118, at6 (N := 6) 6 rfl (by decide) (by omega), hgj.1] at c123
                  exact (oI_none (pl_lt hgw c50)).mp c123
                have hsx : stB gl b j = false := by unfold stB; rw [hgn1]; simp
                refine g_iinc C (pc := 129) (1) dX4_mayCome_129 1 rfl (by decide) (by decide) (fun v129 => [(4, .int v129), (5, .int v76), (3, .int wz3), (0, .ref a), (1, .ref s), (2, .int (nI k))]) (fun _ => rfl) (fun v129 ev129 => ?_)
                refine g_goto C (pc := 132) 41 dX4_mayCome_132 (by decide) ?_
                refine g_lv C [0, 2, 3, 4, 5] rfl (ih41 (j + 1) _ _ ?_ ?_ ?_ ?_ (by omega))
                · subst_vars; exact nI_1 _
                · omega
                · first | (rw [hw3, ctP, if_neg (by rw [hsx]; decide), Nat.add_zero]; done) | (rw [ev126, hw3, ctP, if_pos hsx]; exact nI_1 _)
                · intro h0 p hp
                  rcases Nat.lt_or_ge p j with h1 | h1
                  · exact hA h0 p h1
                  · have : p = j := by omega
                    subst this
                    first | exact ⟨hst1, hoil⟩ | exact absurd h0 hk0
              · have hgn2 : bP gl j ≠ none := fun h9 => c123 (by rw [e118, at6 (N := 6) 6 rfl (by decide) (by omega), hgj.1, h9]; rfl)
                have hsx : stB gl b j = true := by unfold stB; rw [decide_eq_true hst2, decide_eq_true hgn2]; rfl
                refine g_iinc C (pc := 126) (1) dX4_mayCome_126 2 rfl (by decide) (by decide) (fun v126 => [(3, .int v126), (5, .int v76), (4, .int (nI j)), (0, .ref a), (1, .ref s), (2, .int (nI k))]) (fun _ => rfl) (fun v126 ev126 => ?_)
                refine g_iinc C (pc := 129) (1) dX4_mayCome_129 2 rfl (by decide) (by decide) (fun v129 => [(4, .int v129), (3, .int v126), (5, .int v76), (0, .ref a), (1, .ref s), (2, .int (nI k))]) (fun _ => rfl) (fun v129 ev129 => ?_)
                refine g_goto C (pc := 132) 41 dX4_mayCome_132 (by decide) ?_
                refine g_lv C [0, 1, 3, 4, 5] rfl (ih41 (j + 1) _ _ ?_ ?_ ?_ ?_ (by omega))
                · subst_vars; exact nI_1 _
                · omega
                · first | (rw [hw3, ctP, if_neg (by rw [hsx]; decide), Nat.add_zero]; done) | (rw [ev126, hw3, ctP, if_pos hsx]; exact nI_1 _)
                · intro h0 p hp
                  rcases Nat.lt_or_ge p j with h1 | h1
                  · exact hA h0 p h1
                  · have : p = j := by omega
                    subst this
                    first | exact ⟨hst1, hoil⟩ | exact absurd h0 hk0
            · have hk0 : k = 0 := (nI_eq (b := 0) (by omega) (by decide)).mp c79
              refine g_iload C (pc := 82) dX4_mayCome_82 0 rfl ?_
              refine g_if_eq C (pc := 84) 105 dX4_mayCome_84 (by decide) (fun c84 => ?_) (fun c84 => absurd c84 (by first | decide | (subst_vars; decide)))
              refine g_iconst C (pc := 105) 0 dX4_mayCome_105 (by decide) ?_
              refine g_zret C hR (pc := 106) rfl rfl dX4_mayCome_106 ?_
              refine ⟨rfl, _, rfl, ?_⟩
              refine ⟨?_, rfl⟩
              rw [bI_f (fun h9 => by
                unfold mcR at h9
                simp only [Bool.and_eq_true, Bool.or_eq_true, decide_eq_true_eq, List.all_eq_true] at h9
                have h8 := (h9.1.2.resolve_left (by omega)) j (List.mem_range.mpr c50)
                first | exact hst2 h8.1 | exact hoil h8.2)]
          · have hst1 : bP b j = bP gl j := by
              rw [e56, e65, at6 (N := 6) 6 rfl (by decide) (by omega), at6 (N := 6) 6 rfl (by decide) (by omega), hbj.1, hgj.1] at c68
              exact oI_inj (pl_lt hbw c50) (pl_lt hgw c50) c68
            have hsx : stB gl b j = false := by unfold stB; rw [decide_eq_false (fun h9 => h9 hst1)]; rfl
            refine g_iconst C (pc := 71) 1 dX4_mayCome_71 (by decide) ?_
            refine g_goto C (pc := 72) 76 dX4_mayCome_72 (by decide) ?_
            refine g_istore C (pc := 76) dX4_mayCome_76 (by decide) (fun v76 => [(5, .int v76), (4, .int (nI j)), (3, .int wz3), (0, .ref a), (1, .ref s), (2, .int (nI k))]) (fun _ => rfl) (fun v76 ev76 => ?_)
            refine g_iload_n C (pc := 78) dX4_mayCome_78 5 rfl ?_
            refine g_if_ne C (pc := 79) 107 dX4_mayCome_79 (by decide) (fun c79 => ?_) (fun c79 => ?_)
            · have hk0 : k ≠ 0 := fun h9 => c79 (by rw [h9]; rfl)
              refine g_iload C (pc := 107) dX4_mayCome_107 0 rfl ?_
              refine g_if_ne C (pc := 109) 129 dX4_mayCome_109 (by decide) (fun c109 => ?_) (fun c109 => absurd c109 (by first | decide | (subst_vars; decide)))
              refine g_iinc C (pc := 129) (1) dX4_mayCome_129 1 rfl (by decide) (by decide) (fun v129 => [(4, .int v129), (5, .int v76), (3, .int wz3), (0, .ref a), (1, .ref s), (2, .int (nI k))]) (fun _ => rfl) (fun v129 ev129 => ?_)
              refine g_goto C (pc := 132) 41 dX4_mayCome_132 (by decide) ?_
              refine g_lv C [0, 2, 3, 4, 5] rfl (ih41 (j + 1) _ _ ?_ ?_ ?_ ?_ (by omega))
              · subst_vars; exact nI_1 _
              · omega
              · first | (rw [hw3, ctP, if_neg (by rw [hsx]; decide), Nat.add_zero]; done) | (rw [ev126, hw3, ctP, if_pos hsx]; exact nI_1 _)
              · intro h0 p hp
                rcases Nat.lt_or_ge p j with h1 | h1
                · exact hA h0 p h1
                · have : p = j := by omega
                  subst this
                  first | exact ⟨hst1, hoil⟩ | exact absurd h0 hk0
            · have hk0 : k = 0 := (nI_eq (b := 0) (by omega) (by decide)).mp c79
              refine g_iload C (pc := 82) dX4_mayCome_82 0 rfl ?_
              refine g_if_eq C (pc := 84) 105 dX4_mayCome_84 (by decide) (fun c84 => absurd c84 (by first | decide | (subst_vars; decide))) (fun c84 => ?_)
              refine g_aload_n C (pc := 87) dX4_mayCome_87 4 rfl ?_
              refine g_iload C (pc := 88) dX4_mayCome_88 1 rfl ?_
              refine g_callVI C (pc := 90) mf_X8_oilOf lk_RX4_34 (c_X8_oilOf n ρ I s _ hn9 hst) (by decide) (Nat.le_refl _) rfl (by first | assumption | rfl | omega) rfl (by first | assumption | rfl | omega) (Nat.le_of_ble_eq_true rfl) dX4_mayCome_90 (fun v90 I90 h90 => ?_)
              obtain ⟨e90, rfl⟩ := h90
              refine g_aload_n C (pc := 93) dX4_mayCome_93 3 rfl ?_
              refine g_getR C (pc := 94) fl_RX4_15 (by decide) (by first | assumption | rfl | omega) (by first | assumption | rfl | omega) (by first | assumption | rfl | omega) dX4_mayCome_94 ?_
              refine g_iload C (pc := 97) dX4_mayCome_97 1 rfl ?_
              refine g_callVI C (pc := 99) mf_X8_oilOf lk_RX4_34 (c_X8_oilOf n ρ I g _ hn9 hsg) (by decide) (Nat.le_refl _) rfl (by first | assumption | rfl | omega) rfl (by first | assumption | rfl | omega) (Nat.le_of_ble_eq_true rfl) dX4_mayCome_99 (fun v99 I99 h99 => ?_)
              obtain ⟨e99, rfl⟩ := h99
              refine g_icmp_eq C (pc := 102) 107 dX4_mayCome_102 (by decide) (fun c102 => ?_) (fun c102 => ?_)
              · have hoil : bO b j = bO gl j := by
                  rw [e90, e99, at6 (N := 6) 6 rfl (by decide) (by omega), at6 (N := 6) 6 rfl (by decide) (by omega), hbj.2, hgj.2] at c102
                  have h8 := (hbw.2.1 j c50).2
                  have h7 := (hgw.2.1 j c50).2
                  exact (nI_eq (by omega) (by omega)).mp c102
                refine g_iload C (pc := 107) dX4_mayCome_107 0 rfl ?_
                refine g_if_ne C (pc := 109) 129 dX4_mayCome_109 (by decide) (fun c109 => ?_) (fun c109 => absurd c109 (by first | decide | (subst_vars; decide)))
                refine g_iinc C (pc := 129) (1) dX4_mayCome_129 1 rfl (by decide) (by decide) (fun v129 => [(4, .int v129), (5, .int v76), (3, .int wz3), (0, .ref a), (1, .ref s), (2, .int (nI k))]) (fun _ => rfl) (fun v129 ev129 => ?_)
                refine g_goto C (pc := 132) 41 dX4_mayCome_132 (by decide) ?_
                refine g_lv C [0, 2, 3, 4, 5] rfl (ih41 (j + 1) _ _ ?_ ?_ ?_ ?_ (by omega))
                · subst_vars; exact nI_1 _
                · omega
                · first | (rw [hw3, ctP, if_neg (by rw [hsx]; decide), Nat.add_zero]; done) | (rw [ev126, hw3, ctP, if_pos hsx]; exact nI_1 _)
                · intro h0 p hp
                  rcases Nat.lt_or_ge p j with h1 | h1
                  · exact hA h0 p h1
                  · have : p = j := by omega
                    subst this
                    first | exact ⟨hst1, hoil⟩ | exact absurd h0 hk0
              · have hoil : ¬ bO b j = bO gl j := fun h9 => c102 (by rw [e90, e99, at6 (N := 6) 6 rfl (by decide) (by omega), at6 (N := 6) 6 rfl (by decide) (by omega), hbj.2, hgj.2, h9])
                refine g_iconst C (pc := 105) 0 dX4_mayCome_105 (by decide) ?_
                refine g_zret C hR (pc := 106) rfl rfl dX4_mayCome_106 ?_
                refine ⟨rfl, _, rfl, ?_⟩
                refine ⟨?_, rfl⟩
                rw [bI_f (fun h9 => by
                  unfold mcR at h9
                  simp only [Bool.and_eq_true, Bool.or_eq_true, decide_eq_true_eq, List.all_eq_true] at h9
                  have h8 := (h9.1.2.resolve_left (by omega)) j (List.mem_range.mpr c50)
                  first | exact hst2 h8.1 | exact hoil h8.2)]
    refine g_lv C [0, 1, 2, 3, 4] rfl (L41 (_ + 1) 0 _ _ ?_ ?_ ?_ ?_ (by first | omega | exact Nat.lt_succ_self _))
    · subst_vars; rfl
    · exact Nat.zero_le _
    · subst_vars; rfl
    · intro _ p hp; omega
  · have hpar : ¬ (bM b + k) % 2 = bM gl := fun h9 => c31 (by rw [hgr.1, h9])
    refine g_iconst C (pc := 34) 0 dX4_mayCome_34 (by decide) ?_
    refine g_zret C hR (pc := 35) rfl rfl dX4_mayCome_35 ?_
    refine ⟨rfl, _, rfl, ?_⟩
    refine ⟨?_, rfl⟩
    rw [bI_f (by unfold mcR; simp [hpar])]
