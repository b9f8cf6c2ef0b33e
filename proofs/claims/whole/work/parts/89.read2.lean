/-! ===== what a text that is read gives ===== -/
theorem pb_iv {α β : Type} {x : PRs α} {g : α → PRs β} {r : β} (h : pb x g = .inr r) : ∃ a, x = .inr a ∧ g a = .inr r := by
  cases x with
  | inl e => cases h
  | inr a => exact ⟨a, rfl, h⟩
def PD (D : DT) : Prop := (∀ p, p < rN (dF D) → bP (dB D) p ≠ none) ∧ 0 < allO (dF D)
theorem PD_adF {F : RT} {b : BT} {kd sd q o : Nat} (h : ∀ p, p < rN F → bP b p ≠ none) : ∀ p, p < rN (adF F kd sd) → bP (adB b (rN F) q o) p ≠ none := by
  intro p hp
  replace hp : p < rN F + 1 := hp
  show (if p = rN F then some q else bP b p) ≠ none
  by_cases e : p = rN F
  · rw [if_pos e]; exact fun h9 => by cases h9
  · rw [if_neg e]; exact h p (by omega)
theorem PD_line {tb : Nat → Nat} {L k f p : Nat} {D : DT} {q : DT × Nat} (hD : PD D) (h : rdLine tb L D k f p = .inr q) : PD q.1 := by
  obtain ⟨h1, h2⟩ := hD
  unfold rdLine at h
  by_cases c0 : k = 1 ∧ isN tb 0 f p = true
  · rw [if_pos c0] at h
    unfold rdBoard at h
    by_cases d0 : dBd D = true
    · rw [if_pos d0] at h; cases h
    · rw [if_neg d0] at h
      obtain ⟨w, -, h⟩ := pb_iv h
      obtain ⟨v, -, h⟩ := pb_iv h
      obtain ⟨e, -, h⟩ := pb_iv h
      cases h
      exact ⟨h1, h2⟩
  rw [if_neg c0] at h
  by_cases c1 : k = 1 ∧ isN tb 1 f p = true
  · rw [if_pos c1] at h
    unfold rdStp at h
    obtain ⟨w, -, h⟩ := pb_iv h
    obtain ⟨e, -, h⟩ := pb_iv h
    cases h
    exact ⟨h1, h2⟩
  rw [if_neg c1] at h
  by_cases c2 : k = 1 ∧ isN tb 2 f p = true
  · rw [if_pos c2] at h
    unfold rdPiece at h
    by_cases d0 : 6 ≤ rN (dF D)
    · rw [if_pos d0] at h; cases h
    rw [if_neg d0] at h
    by_cases d1 : tkK tb L p = 0
    · rw [if_pos d1] at h; cases h
    rw [if_neg d1] at h
    cases e : (if tkK tb L p = 1 then kdN tb (tkF tb L p) (tkE tb L p) else none) with
    | none => rw [e] at h; cases h
    | some kd =>
      rw [e] at h
      dsimp only at h
      obtain ⟨s, -, h⟩ := pb_iv h
      obtain ⟨w, -, h⟩ := pb_iv h
      obtain ⟨o, -, h⟩ := pb_iv h
      obtain ⟨e, -, h⟩ := pb_iv h
      cases h
      exact ⟨PD_adF h1, h2⟩
  rw [if_neg c2] at h
  by_cases c3 : k = 1 ∧ isN tb 3 f p = true
  · rw [if_pos c3] at h
    unfold rdOdds at h
    by_cases d0 : dOd D = true
    · rw [if_pos d0] at h; cases h
    rw [if_neg d0] at h
    obtain ⟨w, -, h⟩ := pb_iv h
    by_cases d1 : 0 < smP w.1 5
    · rw [if_pos d1] at h
      obtain ⟨e, -, h⟩ := pb_iv h
      cases h
      exact ⟨h1, d1⟩
    · rw [if_neg d1] at h; cases h
  rw [if_neg c3] at h
  by_cases c4 : k = 1 ∧ isN tb 4 f p = true
  · rw [if_pos c4] at h
    unfold rdTurn at h
    by_cases d0 : dTn D = true
    · rw [if_pos d0] at h; cases h
    rw [if_neg d0] at h
    obtain ⟨w, -, h⟩ := pb_iv h
    obtain ⟨e, -, h⟩ := pb_iv h
    cases h
    exact ⟨h1, h2⟩
  rw [if_neg c4] at h
  cases h
theorem PD_all {tb : Nat → Nat} {L : Nat} : ∀ {k n p : Nat} {D : DT} {q : Nat × RT × BT}, PD D → rdAll tb L k D n p = .inr q → ∃ D', PD D' ∧ whlD L D' = .inr q.2
  | 0, n, p, D, q, hD, h => by rw [rdAll] at h; cases h
  | k + 1, n, p, D, q, hD, h => by
    by_cases c0 : tkK tb L p = 0
    · rw [rdAll_0 c0] at h; cases h
    by_cases c4 : tkK tb L p = 4
    · rw [rdAll_4 c4] at h
      obtain ⟨w, h1, h2⟩ := pb_iv h
      cases h2
      exact ⟨D, hD, h1⟩
    rw [rdAll_l c0 c4] at h
    obtain ⟨w, h1, h2⟩ := pb_iv h
    exact PD_all (PD_line hD h1) h2
theorem ct1 {f : Nat → Bool} {n : Nat} (h : ctP f n = 0) : ∀ p, p < n → f p = false := ctP_zero.mp h
theorem ct_one {f : Nat → Bool} : ∀ {n : Nat}, ctP f n = 1 → (∃ p, p < n ∧ f p = true) ∧ ∀ p q, p < n → q < n → f p = true → f q = true → p = q
  | 0, h => by cases h
  | n + 1, h => by
    rw [ctP] at h
    cases e9 : f n with
    | false =>
      rw [e9] at h
      obtain ⟨⟨p, hp, h1⟩, h2⟩ := ct_one (f := f) (n := n) (by simpa using h)
      refine ⟨⟨p, by omega, h1⟩, fun p q hp hq a b => ?_⟩
      have hpn : p ≠ n := fun e => by rw [e, e9] at a; cases a
      have hqn : q ≠ n := fun e => by rw [e, e9] at b; cases b
      exact h2 p q (by omega) (by omega) a b
    | true =>
      rw [e9] at h
      have h0 : ctP f n = 0 := by simpa using h
      refine ⟨⟨n, by omega, e9⟩, fun p q hp hq a b => ?_⟩
      have hpn : p = n := by
        by_cases e : p = n
        · exact e
        · have := ct1 h0 p (by omega); rw [this] at a; cases a
      have hqn : q = n := by
        by_cases e : q = n
        · exact e
        · have := ct1 h0 q (by omega); rw [this] at b; cases b
      rw [hpn, hqn]
def gK (F : RT) (b : BT) : Prop := KW F ∧ L1 F b ∧ PW F b ∧ 0 < allO F ∧ 1 ≤ rN F
theorem KW_of {F : RT} (hf : RW F) (h0 : kgN F 0 = 1) (h1 : kgN F 1 = 1) : KW F := by
  have hs : ∀ s, s < 2 → kgN F s = 1 := fun s hs => by
    have hc : s = 0 ∨ s = 1 := by omega
    rcases hc with rfl | rfl
    · exact h0
    · exact h1
  refine ⟨fun s h => ?_, fun p q hp hq kp kq e => ?_⟩
  · obtain ⟨⟨p, hp, e⟩, -⟩ := ct_one (hs s h)
    rw [Bool.and_eq_true, decide_eq_true_eq, decide_eq_true_eq] at e
    cases c : kingB F s with
    | some x => exact ⟨x, rfl⟩
    | none =>
      have := findP_none' c p hp
      rw [e.1, e.2] at this
      simp at this
  · have hp2 : rSd F p < 2 := (hf.2.2.2.2.2.1 p hp).1
    refine (ct_one (hs (rSd F p) hp2)).2 p q hp hq ?_ ?_
    · rw [kp]; simp
    · rw [kq, e]; simp
theorem twoK_K {F : RT} {b : BT} (h : rN F = 0) (hf : RW F) (ha : 0 < allO F) : gK (twoK F b).1 (twoK F b).2 := by
  have hat := twoK_at (b := b) h
  have hn := twoK_n (b := b) h
  have hW : 2 ≤ rW F := hf.1
  have hH : 2 ≤ rH F := hf.2.2.1
  have hWH : 4 ≤ rW F * rH F := Nat.mul_le_mul hW hH
  refine ⟨⟨fun s hs => ?_, fun p q hp hq _ _ e => ?_⟩, fun p q hp hq _ _ e _ => ?_, fun p q hp e => ?_, ha, by rw [hn]; decide⟩
  · cases c : kingB (twoK F b).1 s with
    | some x => exact ⟨x, rfl⟩
    | none =>
      have := findP_none' c s (by rw [hn]; exact hs)
      rw [(hat s hs).1, (hat s hs).2.1] at this
      simp at this
  · rw [hn] at hp hq
    rw [(hat p hp).1, (hat q hq).1] at e
    exact e
  · rw [hn] at hp
    rw [(hat p hp).2.2.1] at e
    cases e
  · rw [hn] at hp
    rw [(hat p hp).2.2.1] at e
    show q < rW F * rH F
    have := Option.some.inj e
    rw [← this]
    split <;> omega
theorem txR_K {tb : Nat → Nat} {L : Nat} {q : Nat × RT × BT} (h : txR tb L = .inr q) (hf : RW q.2.1) (hb : BW q.2.1 q.2.2) : gK q.2.1 q.2.2 := by
  have hd0 : PD dr0 := ⟨fun p hp => absurd hp (Nat.not_lt_zero p), by decide⟩
  obtain ⟨D, ⟨h1, h2⟩, hw⟩ := PD_all hd0 h
  unfold whlD at hw
  by_cases c0 : (List.range 32).any (fun i => decide (rW (dF D) * rH (dF D) ≤ i) && useB (dF D) (dB D) i) = true
  · rw [if_pos c0] at hw; cases hw
  rw [if_neg c0] at hw
  by_cases c1 : 0 < rN (dF D)
  · rw [if_pos c1] at hw
    by_cases c2 : kgN (dF D) 0 = 1 ∧ kgN (dF D) 1 = 1
    · rw [if_pos c2] at hw
      have e : q.2 = (dF D, dB D) := (Sum.inr.inj hw).symm
      rw [e] at hf hb ⊢
      refine ⟨KW_of hf c2.1 c2.2, fun p q hp _ _ _ e _ => absurd e (h1 p hp), fun p i hp e => ?_, h2, c1⟩
      by_cases hlt : i < rW (dF D) * rH (dF D)
      · exact hlt
      · exfalso
        apply c0
        have hi : i < 25 := (hb.2.1 p hp).1 i e
        refine List.any_eq_true.mpr ⟨i, List.mem_range.mpr (by omega), ?_⟩
        rw [Bool.and_eq_true]
        refine ⟨decide_eq_true (by omega), ?_⟩
        unfold useB
        have hs : rSd (dF D) p = 0 ∨ rSd (dF D) p = 1 := by have h9 : rSd (dF D) p < 2 := (hf.2.2.2.2.2.1 p hp).1; omega
        rcases hs with hs | hs
        · rw [helB_t.mpr ⟨p, hp, hs, e⟩]; simp
        · rw [helB_t.mpr ⟨p, hp, hs, e⟩]; simp
    · rw [if_neg c2] at hw; cases hw
  · rw [if_neg c1] at hw
    by_cases c2 : rS (dF D) 0 = true ∨ rS (dF D) (rW (dF D) * rH (dF D) - 1) = true
    · rw [if_pos c2] at hw; cases hw
    rw [if_neg c2] at hw
    have e : q.2 = twoK (dF D) (dB D) := (Sum.inr.inj hw).symm
    rw [e] at hf ⊢
    exact twoK_K (by omega) ⟨hf.1, hf.2.1, hf.2.2.1, hf.2.2.2.1, by omega, fun p hp => absurd hp (by omega), hf.2.2.2.2.2.2.1, hf.2.2.2.2.2.2.2⟩ h2
