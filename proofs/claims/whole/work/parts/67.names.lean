theorem lk_at {tb : Nat → Nat} {L p c : Nat} (hp : p < L) (ht : tb p < 256) (hc : c < 2 ^ 31) : lkM tb L p = nI c ↔ tb p = c := by
  unfold lkM
  rw [if_pos hp, nI_eq (by omega) hc]
theorem isN_of {tb : Nat → Nat} {i f e n : Nat} {W : List Nat} (hn : strN.getD i 0 = n) (hW : strC.getD i [] = W) : isN tb i f e = true ↔ e - f = n ∧ ∀ k, k < n → tb (f + k) = W.getD k 0 := by
  unfold isN
  rw [hn, hW, Bool.and_eq_true, decide_eq_true_eq, List.all_eq_true]
  exact and_congr Iff.rfl ⟨fun h k hk => of_decide_eq_true (h k (List.mem_range.mpr hk)), fun h k hk => decide_eq_true (h k (List.mem_range.mp hk))⟩
theorem all3 {P : Nat → Prop} : (∀ k, k < 3 → P k) ↔ P 0 ∧ P 1 ∧ P 2 := ⟨fun h => ⟨h 0 (by decide), h 1 (by decide), h 2 (by decide)⟩, fun h k hk => by
  rcases (show k = 0 ∨ k = 1 ∨ k = 2 by omega) with e | e | e <;> subst e
  · exact h.1
  · exact h.2.1
  · exact h.2.2⟩
theorem allS {P : Nat → Prop} {n : Nat} : (∀ k, k < n + 1 → P k) ↔ (∀ k, k < n → P k) ∧ P n := ⟨fun h => ⟨fun k hk => h k (by omega), h n (by omega)⟩, fun h k hk => by
  rcases Nat.lt_or_ge k n with h1 | h1
  · exact h.1 k h1
  · rw [show k = n by omega]; exact h.2⟩
/-- a name of three letters and more, as the reference looks at it -/
theorem nm_iff {tb : Nat → Nat} {L i f e n : Nat} {W : List Nat} (hn : strN.getD i 0 = n) (hW : strC.getD i [] = W) (h3 : 3 ≤ n) (he : e ≤ L) (ht : ∀ p, p < L → tb p < 256) (hw : ∀ k, k < n → W.getD k 0 < 256) : isN tb i f e = true ↔ e - f = n ∧ ∀ k, k < n → lkM tb L (f + k) = nI (W.getD k 0) := by
  rw [isN_of hn hW]
  constructor
  · rintro ⟨h1, h2⟩
    exact ⟨h1, fun k hk => (lk_at (by omega) (ht _ (by omega)) (by have := hw k hk; omega)).mpr (h2 k hk)⟩
  · rintro ⟨h1, h2⟩
    exact ⟨h1, fun k hk => (lk_at (by omega) (ht _ (by omega)) (by have := hw k hk; omega)).mp (h2 k hk)⟩
theorem nm3 {Q : Nat → Prop} : (∀ k, k < 3 → Q k) ↔ (Q 0 ∧ Q 1 ∧ Q 2) := all3
theorem nm4 {Q : Nat → Prop} : (∀ k, k < 4 → Q k) ↔ (Q 0 ∧ Q 1 ∧ Q 2) ∧ Q 3 := allS.trans (and_congr all3 Iff.rfl)
theorem nm5 {Q : Nat → Prop} : (∀ k, k < 5 → Q k) ↔ ((Q 0 ∧ Q 1 ∧ Q 2) ∧ Q 3) ∧ Q 4 := allS.trans (and_congr nm4 Iff.rfl)
theorem nm6 {Q : Nat → Prop} : (∀ k, k < 6 → Q k) ↔ (((Q 0 ∧ Q 1 ∧ Q 2) ∧ Q 3) ∧ Q 4) ∧ Q 5 := allS.trans (and_congr nm5 Iff.rfl)
theorem nm7 {Q : Nat → Prop} : (∀ k, k < 7 → Q k) ↔ ((((Q 0 ∧ Q 1 ∧ Q 2) ∧ Q 3) ∧ Q 4) ∧ Q 5) ∧ Q 6 := allS.trans (and_congr nm6 Iff.rfl)
theorem strN_0 : strN.getD 0 0 = 5 ∧ strN.getD 1 0 = 7 ∧ strN.getD 2 0 = 5 ∧ strN.getD 3 0 = 4 ∧ strN.getD 4 0 = 4 ∧ strN.getD 5 0 = 4 ∧ strN.getD 6 0 = 3 ∧ strN.getD 7 0 = 6 ∧ strN.getD 8 0 = 7 := by decide +kernel
theorem strC_0 : strC.getD 0 [] = [98, 111, 97, 114, 100] ∧ strC.getD 1 [] = [115, 116, 101, 101, 112, 108, 101] ∧ strC.getD 2 [] = [112, 105, 101, 99, 101] ∧ strC.getD 3 [] = [111, 100, 100, 115] ∧ strC.getD 4 [] = [116, 117, 114, 110] ∧ strC.getD 5 [] = [107, 105, 110, 103] ∧ strC.getD 6 [] = [109, 97, 110] ∧ strC.getD 7 [] = [114, 117, 110, 110, 101, 114] ∧ strC.getD 8 [] = [115, 112, 97, 114, 114, 111, 119] := by decide +kernel
