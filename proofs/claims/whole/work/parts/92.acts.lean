section JC
variable {I J J1 J2 : Mem} {G G' : GT} {kp : Nat → Bool} {Gi : Nat → GT} {L : Nat} {tb : Nat → Nat} {ln : Nat → Option Nat} {sz : Nat → Nat} {cl : Nat → Nat → Int32} {ft tr : Int32}
theorem gX.bd {b : BT} {t : Nat} (h : gX I 1 G) (hb : BR J 6 (gF G) b) (ht : J 1 5 = nI t) (e1 : J 1 6 = I 1 6) (e2 : J 1 7 = I 1 7) (e : ∀ a, (2 ≤ a ∧ a ≤ 5) ∨ (10 ≤ a ∧ a ≤ 12) → J a = I a) : gX J 1 (gF G, b, t, G.2.2.2) := by
  obtain ⟨h1, h2, h3, ⟨h4, h5⟩, h6, h7⟩ := h
  refine ⟨RR.cong (r := 2) h1 (fun i hi => e _ (by omega)), hb, ht, ⟨e1.trans h4, fun k hk => ?_⟩, e2.trans h6, fun q hq => ?_⟩
  · rw [e (1 + 9) (by omega), e (1 + 10) (by omega)]; exact h5 k hk
  · rw [e (1 + 11) (by omega)]; exact h7 q hq
theorem gM.bd {b : BT} {t : Nat} (h : gM I 0 G) (hw : gW G) (hb : ∀ p, p < rN (gF G) → J 98 p = oI (bP b p) ∧ J 98 (6 + p) = nI (bO b p)) (hm : J 98 18 = nI (bM b)) (ht : J 98 19 = nI t) (e : ∀ z, 12 ≤ z → z ≠ 18 → z ≠ 19 → J 98 z = I 98 z) : gM J 0 (gF G, b, t, G.2.2.2) := by
  obtain ⟨h1, h2, h3, h4, h5, ⟨h6, h7⟩, h8, h9⟩ := h
  refine ⟨fun i hi => ?_, fun w hw => ?_, fun p hp => ?_, hm, ht, ⟨?_, fun k hk => ?_⟩, ?_, fun q hq => ?_⟩
  · rw [e _ (by omega) (by omega) (by omega)]; exact h1 i hi
  · rw [e _ (by omega) (by omega) (by omega)]; exact h2 w hw
  · simp only [Nat.zero_add]; exact hb p hp
  · rw [e _ (by omega) (by omega) (by omega)]; exact h6
  · rw [e _ (by omega) (by omega) (by omega), e _ (by omega) (by omega) (by omega)]; exact h7 k hk
  · rw [e _ (by omega) (by omega) (by omega)]; exact h8
  · rw [e _ (by omega) (by omega) (by omega)]; exact h9 q hq
theorem gX.rf {F : RT} (h : gX I 1 G) (hr : RR J 2 F) (s : sF (gF G) F) (e : ∀ a, a = 1 ∨ (6 ≤ a ∧ a ≤ 12) → J a = I a) : gX J 1 (F, G.2) := by
  obtain ⟨h1, h2, h3, ⟨h4, h5⟩, h6, h7⟩ := h
  refine ⟨hr, BR.same (BR.cong (s := 6) h2 (fun i hi => e _ (by omega))) s, ?_, ⟨?_, fun k hk => ?_⟩, ?_, fun q hq => ?_⟩
  · rw [e 1 (by omega)]; exact h3
  · rw [e 1 (by omega)]; exact h4
  · rw [e (1 + 9) (by omega), e (1 + 10) (by omega)]; exact h5 k hk
  · rw [e 1 (by omega)]; exact h6
  · rw [e (1 + 11) (by omega)]; exact h7 q hq
theorem gM.rf {F : RT} (h : gM I 0 G) (hn : rN (gF G) ≤ 6) (s : sF (gF G) F) (hs : ∀ i, i < 32 → bt (J 98 12) i = rS F i) (ho : ∀ w, w < 5 → J 98 (13 + w) = nI (rOd F w)) (e : ∀ z, z < 12 ∨ 18 ≤ z → J 98 z = I 98 z) : gM J 0 (F, G.2) := by
  obtain ⟨h1, h2, h3, h4, h5, ⟨h6, h7⟩, h8, h9⟩ := h
  refine ⟨hs, fun w hw => ?_, fun p hp => ?_, ?_, ?_, ⟨?_, fun k hk => ?_⟩, ?_, fun q hq => ?_⟩
  · simp only [Nat.zero_add]; exact ho w hw
  · have hp : p < rN (gF G) := by rw [← s.2.2.1]; exact hp
    rw [e _ (by omega), e _ (by omega)]; exact h3 p hp
  · rw [e _ (by omega)]; exact h4
  · rw [e _ (by omega)]; exact h5
  · rw [e _ (by omega)]; exact h6
  · rw [e _ (by omega), e _ (by omega)]; exact h7 k hk
  · rw [e _ (by omega)]; exact h8
  · rw [e _ (by omega)]; exact h9 q hq
theorem JJ_h {ft' tr' : Int32} (hW : JW G kp Gi) (hX : JX I G kp Gi L tb ln sz cl ft tr) (hM : JM J1 G kp Gi L tb ln sz cl ft tr) (w : gW G') (s : sF (gF G) (gF G')) (gx : gX J1 1 G') (fX : ∀ a, (13 ≤ a ∧ a ≤ 16) ∨ (61 ≤ a ∧ a ≤ 68) ∨ (73 ≤ a ∧ a < 97) → J1 a = I a) (f0 : J1 0 9 = ft' ∧ J1 0 10 = tr') (gm : gM J2 0 G') (fM : ∀ a, a < 97 ∨ (99 ≤ a ∧ a ≤ 101) ∨ a = 105 ∨ (115 ≤ a ∧ a ≤ 117) → J2 a = J1 a) (f97 : ∀ z, z < 20 → J2 97 z = J1 97 z) (f7 : J2 97 21 = ft' ∧ J2 97 41 = tr') (f98 : ∀ z, 41 ≤ z → J2 98 z = J1 98 z) : JJ J2 := by
  refine ⟨G', kp, Gi, L, tb, ln, sz, cl, ft', tr', ⟨w, fun k hk hp => ⟨(hW.2 k hk hp).1, s.symm.trans (hW.2 k hk hp).2⟩⟩, ?_, ?_⟩
  · obtain ⟨-, h2, ⟨h3, h4, h5⟩, h6, h7, h8⟩ := hX
    have e : ∀ a, (13 ≤ a ∧ a ≤ 16) ∨ (61 ≤ a ∧ a ≤ 68) ∨ (73 ≤ a ∧ a < 97) → J2 a = I a := fun a ha => (fM a (by omega)).trans (fX a ha)
    exact ⟨gx.cong (fun a h1 h2 => fM a (by omega)), fun k hk => ⟨by rw [e 14 (by omega)]; exact (h2 k hk).1, fun hp => ((h2 k hk).2 hp).cong (fun a h1 h2 => e a (by omega))⟩, ⟨by rw [e 15 (by omega)]; exact h3, h4, fun i hi => by rw [e 16 (by omega)]; exact h5 i hi⟩, h6.cong (fun i h1 h2 => e i (by omega)), by rw [fM 0 (by omega)]; exact f0.1, by rw [fM 0 (by omega)]; exact f0.2⟩
  · obtain ⟨h1, -, h3, ⟨h4, h5, h6⟩, h7, h8, h9⟩ := hM
    refine ⟨(h1.same s).cong (f97 2 (by omega)) (f97 3 (by omega)) (f97 4 (by omega)) (fM 100 (by omega)) (fM 101 (by omega)), gm, fun k hk => ⟨by rw [fM 99 (by omega)]; exact (h3 k hk).1, fun hp => ((h3 k hk).2 hp).cong (hW.2 k hk hp).1 (fun j _ => f98 _ (by omega))⟩, ⟨by rw [f97 16 (by omega)]; exact h4, h5, fun i hi => by rw [fM 105 (by omega)]; exact h6 i hi⟩, fun k hk => ?_, f7.1, f7.2⟩
    obtain ⟨a1, a2, a3, a4, a5⟩ := h7 k hk
    exact ⟨by rw [fM 115 (by omega)]; exact a1, by rw [fM 116 (by omega)]; exact a2, a3, a4, fun i hi => by rw [fM 117 (by omega)]; exact a5 i hi⟩
theorem JJ_g (hW : JW G kp Gi) (hX : JX I G kp Gi L tb ln sz cl ft tr) (hM : JM J1 G kp Gi L tb ln sz cl ft tr) (w : gW G') (s : sF (gF G) (gF G')) (gx : gX J1 1 G') (fX : ∀ a, a = 0 ∨ (13 ≤ a ∧ a ≤ 16) ∨ (61 ≤ a ∧ a ≤ 68) ∨ (73 ≤ a ∧ a < 97) → J1 a = I a) (gm : gM J2 0 G') (fM : ∀ a, a < 97 ∨ (99 ≤ a ∧ a ≤ 101) ∨ a = 105 ∨ (115 ≤ a ∧ a ≤ 117) → J2 a = J1 a) (f97 : ∀ z, z < 25 ∨ 37 < z → J2 97 z = J1 97 z) (f98 : ∀ z, 41 ≤ z → J2 98 z = J1 98 z) : JJ J2 :=
  JJ_h hW hX hM w s gx (fun a ha => fX a (by omega)) ⟨by rw [fX 0 (by omega)]; exact hX.2.2.2.2.1, by rw [fX 0 (by omega)]; exact hX.2.2.2.2.2⟩ gm fM (fun z hz => f97 z (by omega)) ⟨(f97 21 (by omega)).trans hM.2.2.2.2.2.1, (f97 41 (by omega)).trans hM.2.2.2.2.2.2⟩ f98
theorem L1_setP {F : RT} {b : BT} {p q : Nat} (h : L1 F b) : L1 F (setP b p (some q)) := by
  intro x y hx hy kx ky ex ey
  have ex : (if x = p then some q else bP b x) = none := ex
  have ey : (if y = p then some q else bP b y) = none := ey
  by_cases e1 : x = p
  · rw [if_pos e1] at ex; cases ex
  by_cases e2 : y = p
  · rw [if_pos e2] at ey; cases ey
  rw [if_neg e1] at ex
  rw [if_neg e2] at ey
  exact h x y hx hy kx ky ex ey
theorem PW_setP {F : RT} {b : BT} {p q : Nat} (h : PW F b) (hq : q < rW F * rH F) : PW F (setP b p (some q)) := by
  intro x i hx ex
  have ex : (if x = p then some q else bP b x) = some i := ex
  by_cases e1 : x = p
  · rw [if_pos e1] at ex; cases ex; exact hq
  rw [if_neg e1] at ex
  exact h x i hx ex
theorem smP_cg {f g : Nat → Nat} : ∀ {n : Nat}, (∀ i, i < n → f i = g i) → smP f n = smP g n
  | 0, _ => rfl
  | n + 1, h => by
    show smP f n + f n = smP g n + g n
    rw [smP_cg (fun i hi => h i (by omega)), h n (by omega)]
theorem smP_st {f : Nat → Nat} {w q : Nat} : ∀ {n : Nat}, w < n → smP (fun i => if i = w then q else f i) n + f w = smP f n + q
  | 0, h => absurd h (Nat.not_lt_zero w)
  | n + 1, h => by
    show smP (fun i => if i = w then q else f i) n + (if n = w then q else f n) + f w = smP f n + f n + q
    by_cases e : n = w
    · subst e
      rw [if_pos rfl]
      have : smP (fun i => if i = n then q else f i) n = smP f n := smP_cg (fun i hi => if_neg (by omega))
      omega
    · rw [if_neg e]
      have := smP_st (f := f) (q := q) (n := n) (w := w) (by omega)
      omega
theorem rdS_L {F : RT} {ws ms : Nat → Int32} (hf : RW F) : ∀ {k i t : Nat} {b : BT} {r : Option Nat} {bb : BT} {tt : Nat}, L1 F b → PW F b → rdS F ws ms k i b t = (r, bb, tt) → L1 F bb ∧ PW F bb
  | 0, i, t, b, r, bb, tt, hl, hp, h => by rw [rdS] at h; cases h; exact ⟨hl, hp⟩
  | k + 1, i, t, b, r, bb, tt, hl, hp, h => by
    rw [rdS] at h
    cases e : goF F b t (ws i) (ms i) with
    | none => rw [e] at h; cases h; exact ⟨hl, hp⟩
    | some q =>
      obtain ⟨b', t'⟩ := q
      rw [e] at h
      obtain ⟨h1, h2⟩ := goF_L hf hl hp e
      exact rdS_L hf h1 h2 h
theorem wb_of {w : GT} {F : RT} {b : BT} {t : Nat} (h : gW w) (e : gF w = F) (hb : BW F b) (hl : L1 F b) (hp : PW F b) (ht : t ≤ 999) : gW (F, b, t, w.2.2.2) := by
  subst e
  exact ⟨h.1, hb, ⟨h.2.2.1.1, hl, hp, h.2.2.1.2.2.2.1, h.2.2.1.2.2.2.2⟩, ht, h.2.2.2.2⟩
theorem ix_le {x : Int32} {m : Nat} (hm : m + 1 < 2 ^ 31) (h : 0 ≤ x ∧ x ≤ nI m) : ∃ q, q ≤ m ∧ x = nI q := by
  rcases pk_ix x (n := m + 1) hm with h1 | h1 | ⟨q, h1, h2⟩
  · exact absurd h1 (Int32.not_lt.mpr h.1)
  · have := (nI_leI (by omega) (by omega)).mp (Int32.le_trans h1 h.2)
    omega
  · exact ⟨q, by omega, h2⟩
theorem pr2g {α β : Type} {P A B : α → β → Prop} {C D : Prop} (h1 : (∃ a b, P a b ∧ A a b) ∨ (¬ (∃ a b, P a b) ∧ C)) (h2 : (∃ a b, P a b ∧ B a b) ∨ (¬ (∃ a b, P a b) ∧ D)) (hu : ∀ a b c d, P a b → P c d → a = c ∧ b = d) : (∃ a b, P a b ∧ A a b ∧ B a b) ∨ (¬ (∃ a b, P a b) ∧ C ∧ D) := by
  rcases h1 with ⟨a, b, p, x⟩ | ⟨n, x⟩
  · rcases h2 with ⟨c, d, q, y⟩ | ⟨n, y⟩
    · obtain ⟨e1, e2⟩ := hu a b c d p q; subst e1; subst e2; exact Or.inl ⟨a, b, p, x, y⟩
    · exact absurd ⟨a, b, p⟩ n
  · rcases h2 with ⟨c, d, q, y⟩ | ⟨n', y⟩
    · exact absurd ⟨c, d, q⟩ n
    · exact Or.inr ⟨n, x, y⟩
theorem gX.cp {g o : Nat} (h : gX I o G) (hw : gW G) (c : CpG I J g o) : gX J g G := by
  obtain ⟨⟨c1, c2, c3, c4⟩, ⟨c5, c6, c7, c8⟩, ⟨c9, c10, c11, c12, c13, c14⟩, -⟩ := c
  obtain ⟨⟨r1, r2, r3, r4, r5, r6⟩, hb, h3, ⟨h4, h5⟩, h6, h7⟩ := h
  obtain ⟨w1, -, -, -, ⟨w5, -⟩, w6, -⟩ := hw
  have hn := w1.2.2.2.2.1
  refine ⟨⟨(c4 3 (by omega) (by omega)).trans r1, (c4 4 (by omega) (by omega)).trans r2, (c4 6 (by omega) (by omega)).trans r3, fun i hi => by rw [c4 5 (by omega) (by omega)]; exact r4 i hi, fun p hp => ⟨(c1 p (by omega)).trans (r5 p hp).1, (c2 p (by omega)).trans (r5 p hp).2⟩, fun w hw => (c3 w (by omega)).trans (r6 w hw)⟩, hb.copy w1 (fun k hk => c5 k hk) (fun k hk => c6 k hk) (fun k hk => c7 k hk) c8, c12.trans h3, ⟨c13.trans h4, fun k hk => ⟨(c9 k (by omega)).trans (h5 k hk).1, (c10 k (by omega)).trans (h5 k hk).2⟩⟩, c14.trans h6, fun q hq => (c11 q (by omega)).trans (h7 q hq)⟩
end JC
