/-! ===== both sides at once ===== -/
abbrev GT : Type := RT × BT × Nat × (Nat × (Nat → Nat) × (Nat → Option Nat)) × (Nat × (Nat → Nat))
def gF (G : GT) : RT := G.1
def gB (G : GT) : BT := G.2.1
def gT (G : GT) : Nat := G.2.2.1
def gSn (G : GT) : Nat := G.2.2.2.1.1
def gSq (G : GT) : Nat → Nat := G.2.2.2.1.2.1
def gSd (G : GT) : Nat → Option Nat := G.2.2.2.1.2.2
def gTn (G : GT) : Nat := G.2.2.2.2.1
def gTl (G : GT) : Nat → Nat := G.2.2.2.2.2
def mkG (F : RT) (b : BT) (t sn : Nat) (sq : Nat → Nat) (sd : Nat → Option Nat) (tn : Nat) (tl : Nat → Nat) : GT := (F, b, t, (sn, sq, sd), (tn, tl))
def gW (G : GT) : Prop := RW (gF G) ∧ BW (gF G) (gB G) ∧ gK (gF G) (gB G) ∧ gT G ≤ 999 ∧ (gSn G ≤ 8 ∧ ∀ k, k < gSn G → gSq G k < 25 ∧ ∀ z, gSd G k = some z → z < 2) ∧ gTn G ≤ 3 ∧ ∀ q, q < gTn G → gTl G q < 5
/-- a game in the class's heap, its object at g -/
def gX (I : Mem) (g : Nat) (G : GT) : Prop := RR I (g + 1) (gF G) ∧ BR I (g + 5) (gF G) (gB G) ∧ I g 5 = nI (gT G) ∧ (I g 6 = nI (gSn G) ∧ ∀ k, k < gSn G → I (g + 9) k = nI (gSq G k) ∧ I (g + 10) k = oI (gSd G k)) ∧ I g 7 = nI (gTn G) ∧ ∀ q, q < gTn G → I (g + 11) q = nI (gTl G q)
/-- a game in the reference's heap, from place o of its numbers -/
def gM (I : Mem) (o : Nat) (G : GT) : Prop := (∀ i, i < 32 → bt (I 98 (o + 12)) i = rS (gF G) i) ∧ (∀ w, w < 5 → I 98 (o + (13 + w)) = nI (rOd (gF G) w)) ∧ (∀ p, p < rN (gF G) → I 98 (o + p) = oI (bP (gB G) p) ∧ I 98 (o + (6 + p)) = nI (bO (gB G) p)) ∧ I 98 (o + 18) = nI (bM (gB G)) ∧ I 98 (o + 19) = nI (gT G) ∧ (I 98 (o + 20) = nI (gSn G) ∧ ∀ k, k < gSn G → I 98 (o + (21 + 2 * k)) = nI (gSq G k) ∧ I 98 (o + (22 + 2 * k)) = oI (gSd G k)) ∧ I 98 (o + 37) = nI (gTn G) ∧ ∀ q, q < gTn G → I 98 (o + (38 + q)) = nI (gTl G q)
def sF (F F' : RT) : Prop := rW F' = rW F ∧ rH F' = rH F ∧ rN F' = rN F ∧ rSd F' = rSd F ∧ rKd F' = rKd F
def JW (G : GT) (kp : Nat → Bool) (Gi : Nat → GT) : Prop := gW G ∧ ∀ k, k < 2 → kp k = true → gW (Gi k) ∧ sF (gF G) (gF (Gi k))
def JX (I : Mem) (G : GT) (kp : Nat → Bool) (Gi : Nat → GT) (L : Nat) (tb : Nat → Nat) (ln : Nat → Option Nat) (sz : Nat → Nat) (cl : Nat → Nat → Int32) (ft tr : Int32) : Prop :=
  gX I 1 G ∧ (∀ k, k < 2 → I 14 k = bI (kp k = true) ∧ (kp k = true → gX I (73 + 12 * k) (Gi k))) ∧ TbR I L tb ∧ ShR I 61 ln sz cl ∧ I 0 9 = ft ∧ I 0 10 = tr
def JM (I : Mem) (G : GT) (kp : Nat → Bool) (Gi : Nat → GT) (L : Nat) (tb : Nat → Nat) (ln : Nat → Option Nat) (sz : Nat → Nat) (cl : Nat → Nat → Int32) (ft tr : Int32) : Prop :=
  QF I (gF G) ∧ gM I 0 G ∧ (∀ k, k < 2 → I 99 k = bI (kp k = true) ∧ (kp k = true → gM I (41 * (k + 1)) (Gi k))) ∧ TbM I L tb ∧ ShM I ln sz cl ∧ I 97 21 = ft ∧ I 97 41 = tr
def JJ (I : Mem) : Prop := ∃ G kp Gi L tb ln sz cl ft tr, JW G kp Gi ∧ JX I G kp Gi L tb ln sz cl ft tr ∧ JM I G kp Gi L tb ln sz cl ft tr
theorem gX.cong {I I1 : Mem} {g : Nat} {G : GT} (h : gX I g G) (e : ∀ a, g ≤ a → a ≤ g + 11 → I1 a = I a) : gX I1 g G := by
  obtain ⟨h1, h2, h3, ⟨h4, h5⟩, h6, h7⟩ := h
  refine ⟨h1.cong (fun i hi => e _ (by omega) (by omega)), h2.cong (fun i hi => e _ (by omega) (by omega)), ?_, ⟨?_, fun k hk => ?_⟩, ?_, fun q hq => ?_⟩
  · rw [e g (by omega) (by omega)]; exact h3
  · rw [e g (by omega) (by omega)]; exact h4
  · rw [e (g + 9) (by omega) (by omega), e (g + 10) (by omega) (by omega)]; exact h5 k hk
  · rw [e g (by omega) (by omega)]; exact h6
  · rw [e (g + 11) (by omega) (by omega)]; exact h7 q hq
theorem gM.cong {I I1 : Mem} {o o' : Nat} {G : GT} (h : gM I o G) (hw : gW G) (e : ∀ j, j < 41 → I1 98 (o' + j) = I 98 (o + j)) : gM I1 o' G := by
  obtain ⟨h1, h2, h3, h4, h5, ⟨h6, h7⟩, h8, h9⟩ := h
  obtain ⟨w1, -, -, -, ⟨w5, -⟩, w6, -⟩ := hw
  have hn := w1.2.2.2.2.1
  refine ⟨fun i hi => ?_, fun w hw => ?_, fun p hp => ⟨?_, ?_⟩, ?_, ?_, ⟨?_, fun k hk => ⟨?_, ?_⟩⟩, ?_, fun q hq => ?_⟩
  · rw [e 12 (by omega)]; exact h1 i hi
  · rw [e _ (by omega)]; exact h2 w hw
  · rw [e _ (by omega)]; exact (h3 p hp).1
  · rw [e _ (by omega)]; exact (h3 p hp).2
  · rw [e 18 (by omega)]; exact h4
  · rw [e 19 (by omega)]; exact h5
  · rw [e 20 (by omega)]; exact h6
  · rw [e _ (by omega)]; exact (h7 k hk).1
  · rw [e _ (by omega)]; exact (h7 k hk).2
  · rw [e 37 (by omega)]; exact h8
  · rw [e _ (by omega)]; exact h9 q hq
theorem QF.cgg {I I1 : Mem} {F : RT} (h : QF I F) (e2 : I1 97 2 = I 97 2) (e3 : I1 97 3 = I 97 3) (e4 : I1 97 4 = I 97 4) (e5 : I1 100 = I 100) (e6 : I1 101 = I 101) : QF I1 F := by
  obtain ⟨h1, h2, h3, h4⟩ := h
  exact ⟨by rw [e2]; exact h1, by rw [e3]; exact h2, by rw [e4]; exact h3, fun p hp => by rw [e5, e6]; exact h4 p hp⟩
theorem QF.same {I : Mem} {F F' : RT} (h : QF I F) (s : sF F F') : QF I F' := by
  obtain ⟨h1, h2, h3, h4⟩ := h
  obtain ⟨s1, s2, s3, s4, s5⟩ := s
  exact ⟨by rw [s1]; exact h1, by rw [s2]; exact h2, by rw [s3]; exact h3, fun p hp => by rw [s4, s5]; rw [s3] at hp; exact h4 p hp⟩
theorem sF.symm {F F' : RT} (h : sF F F') : sF F' F := ⟨h.1.symm, h.2.1.symm, h.2.2.1.symm, h.2.2.2.1.symm, h.2.2.2.2.symm⟩
theorem sF.trans {F F' F2 : RT} (h : sF F F') (k : sF F' F2) : sF F F2 := ⟨k.1.trans h.1, k.2.1.trans h.2.1, k.2.2.1.trans h.2.2.1, k.2.2.2.1.trans h.2.2.2.1, k.2.2.2.2.trans h.2.2.2.2⟩
theorem sF.rfl' {F : RT} : sF F F := ⟨rfl, rfl, rfl, rfl, rfl⟩
theorem BR.same {I : Mem} {s : Nat} {F F' : RT} {b : BT} (h : BR I s F b) (k : sF F F') : BR I s F' b := by
  obtain ⟨h1, h2, h3⟩ := h
  obtain ⟨-, -, s3, s4, -⟩ := k
  refine ⟨h1, fun p hp => h2 p (by rw [← s3]; exact hp), fun sd hs i hi => ?_⟩
  rw [h3 sd hs i hi]
  unfold helB
  rw [s3, s4]
theorem BW.same {F F' : RT} {b : BT} (h : BW F b) (k : sF F F') : BW F' b := by
  obtain ⟨h1, h2, h3⟩ := h
  obtain ⟨-, -, s3, -, -⟩ := k
  exact ⟨h1, fun p hp => h2 p (by rw [← s3]; exact hp), fun p q i hp hq => h3 p q i (by rw [← s3]; exact hp) (by rw [← s3]; exact hq)⟩
theorem L1.same {F F' : RT} {b : BT} (h : L1 F b) (k : sF F F') : L1 F' b := by
  obtain ⟨-, -, s3, -, s5⟩ := k
  intro p q hp hq
  rw [s5]
  rw [s3] at hp hq
  exact h p q hp hq
theorem PW.same {F F' : RT} {b : BT} (h : PW F b) (k : sF F F') : PW F' b := by
  obtain ⟨s1, s2, s3, -, -⟩ := k
  intro p q hp e
  rw [s1, s2]
  exact h p q (by rw [← s3]; exact hp) e
theorem KW.same {F F' : RT} (h : KW F) (k : sF F F') : KW F' := by
  obtain ⟨s1, s2, s3, s4, s5⟩ := k
  unfold KW kingB at h ⊢
  rw [s3, s4, s5]
  exact h
theorem JX.cong {I I1 : Mem} {G : GT} {kp : Nat → Bool} {Gi : Nat → GT} {L : Nat} {tb : Nat → Nat} {ln : Nat → Option Nat} {sz : Nat → Nat} {cl : Nat → Nat → Int32} {ft tr : Int32} (h : JX I G kp Gi L tb ln sz cl ft tr) (e : ∀ a, a ≤ 16 ∨ (61 ≤ a ∧ a ≤ 68) ∨ (73 ≤ a ∧ a < 97) → I1 a = I a) : JX I1 G kp Gi L tb ln sz cl ft tr := by
  obtain ⟨h1, h2, ⟨h3, h4, h5⟩, h6, h7, h8⟩ := h
  refine ⟨h1.cong (fun a h1 h2 => e a (by omega)), fun k hk => ⟨by rw [e 14 (by omega)]; exact (h2 k hk).1, fun hp => ((h2 k hk).2 hp).cong (fun a h1 h2 => e a (by omega))⟩, ⟨by rw [e 15 (by omega)]; exact h3, h4, fun i hi => by rw [e 16 (by omega)]; exact h5 i hi⟩, h6.cong (fun i h1 h2 => e i (by omega)), by rw [e 0 (by omega)]; exact h7, by rw [e 0 (by omega)]; exact h8⟩
theorem JM.cong {I I1 : Mem} {G : GT} {kp : Nat → Bool} {Gi : Nat → GT} {L : Nat} {tb : Nat → Nat} {ln : Nat → Option Nat} {sz : Nat → Nat} {cl : Nat → Nat → Int32} {ft tr : Int32} (h : JM I G kp Gi L tb ln sz cl ft tr) (hw : JW G kp Gi) (e7 : ∀ z, z < 25 ∨ 37 < z → I1 97 z = I 97 z) (e : ∀ a, (98 ≤ a ∧ a ≤ 101) ∨ a = 105 ∨ (115 ≤ a ∧ a ≤ 117) → I1 a = I a) : JM I1 G kp Gi L tb ln sz cl ft tr := by
  obtain ⟨h1, h2, h3, ⟨h4, h5, h6⟩, h7, h8, h9⟩ := h
  refine ⟨h1.cgg (e7 2 (by omega)) (e7 3 (by omega)) (e7 4 (by omega)) (e 100 (by omega)) (e 101 (by omega)), h2.cong hw.1 (fun j _ => by rw [e 98 (by omega)]), fun k hk => ⟨by rw [e 99 (by omega)]; exact (h3 k hk).1, fun hp => ((h3 k hk).2 hp).cong (hw.2 k hk hp).1 (fun j _ => by rw [e 98 (by omega)])⟩, ⟨by rw [e7 16 (by omega)]; exact h4, h5, fun i hi => by rw [e 105 (by omega)]; exact h6 i hi⟩, fun k hk => ?_, by rw [e7 21 (by omega)]; exact h8, by rw [e7 41 (by omega)]; exact h9⟩
  obtain ⟨a1, a2, a3, a4, a5⟩ := h7 k hk
  exact ⟨by rw [e 115 (by omega)]; exact a1, by rw [e 116 (by omega)]; exact a2, a3, a4, fun i hi => by rw [e 117 (by omega)]; exact a5 i hi⟩
/-- what the class's rows ask, out of the state -/
theorem gX.sn {I : Mem} {g : Nat} {G : GT} (h : gX I g G) (hw : gW G) : SnP I g (gSn G) (gSq G) (gSd G) := ⟨h.2.2.2.1.1, hw.2.2.2.2.1.1, fun k hk => ⟨(h.2.2.2.1.2 k hk).1, (hw.2.2.2.2.1.2 k hk).1, (h.2.2.2.1.2 k hk).2, (hw.2.2.2.2.1.2 k hk).2⟩⟩
theorem gX.tl {I : Mem} {g : Nat} {G : GT} (h : gX I g G) (hw : gW G) : ∀ q, q < gTn G → I (g + 11) q = nI (gTl G q) ∧ gTl G q < 5 := fun q hq => ⟨h.2.2.2.2.2 q hq, hw.2.2.2.2.2.2 q hq⟩
theorem gM.qn {I : Mem} {G : GT} (h : gM I 0 G) (hq : QF I (gF G)) : QN I (gF G) (gB G) := by
  obtain ⟨h1, h2, h3, h4, h5, ⟨h6, h7⟩, h8, h9⟩ := h
  simp only [Nat.zero_add] at h1 h2 h3 h4
  exact ⟨hq, ⟨h1, h2⟩, h3, h4⟩
theorem gM.t {I : Mem} {G : GT} (h : gM I 0 G) : I 98 19 = nI (gT G) := h.2.2.2.2.1
theorem gM.snn {I : Mem} {G : GT} (h : gM I 0 G) : I 98 20 = nI (gSn G) := h.2.2.2.2.2.1.1
theorem gM.tn {I : Mem} {G : GT} (h : gM I 0 G) : I 98 37 = nI (gTn G) := h.2.2.2.2.2.2.1
theorem gM.sn {I : Mem} {G : GT} (h : gM I 0 G) (hw : gW G) : SnM I (gSn G) (gSq G) (gSd G) := by
  obtain ⟨h1, h2, h3, h4, h5, ⟨h6, h7⟩, h8, h9⟩ := h
  simp only [Nat.zero_add] at h6 h7
  exact ⟨h6, hw.2.2.2.2.1.1, fun k hk => ⟨(h7 k hk).1, (hw.2.2.2.2.1.2 k hk).1, (h7 k hk).2, (hw.2.2.2.2.1.2 k hk).2⟩⟩
theorem gM.tl {I : Mem} {G : GT} (h : gM I 0 G) (hw : gW G) : ∀ q, q < gTn G → I 98 (38 + q) = nI (gTl G q) ∧ gTl G q < 5 := by
  obtain ⟨h1, h2, h3, h4, h5, ⟨h6, h7⟩, h8, h9⟩ := h
  simp only [Nat.zero_add] at h9
  exact fun q hq => ⟨h9 q hq, hw.2.2.2.2.2.2 q hq⟩
theorem nI_u {x : Int32} {a b : Nat} (h1 : x = nI a) (h2 : x = nI b) (ha : a < 2 ^ 31) (hb : b < 2 ^ 31) : a = b := (nI_eq ha hb).mp (h1.symm.trans h2)
theorem pr1 {P A B : Nat → Prop} {C D : Prop} (h1 : (∃ a, P a ∧ A a) ∨ (¬ (∃ a, P a) ∧ C)) (h2 : (∃ a, P a ∧ B a) ∨ (¬ (∃ a, P a) ∧ D)) (hu : ∀ a c, P a → P c → a = c) : (∃ a, P a ∧ A a ∧ B a) ∨ (¬ (∃ a, P a) ∧ C ∧ D) := by
  rcases h1 with ⟨a, p, x⟩ | ⟨n, x⟩
  · rcases h2 with ⟨c, q, y⟩ | ⟨n, y⟩
    · have := hu a c p q; subst this; exact Or.inl ⟨a, p, x, y⟩
    · exact absurd ⟨a, p⟩ n
  · rcases h2 with ⟨c, q, y⟩ | ⟨n', y⟩
    · exact absurd ⟨c, q⟩ n
    · exact Or.inr ⟨n, x, y⟩
theorem pr2 {P A B : Nat → Nat → Prop} {C D : Prop} (h1 : (∃ a b, P a b ∧ A a b) ∨ (¬ (∃ a b, P a b) ∧ C)) (h2 : (∃ a b, P a b ∧ B a b) ∨ (¬ (∃ a b, P a b) ∧ D)) (hu : ∀ a b c d, P a b → P c d → a = c ∧ b = d) : (∃ a b, P a b ∧ A a b ∧ B a b) ∨ (¬ (∃ a b, P a b) ∧ C ∧ D) := by
  rcases h1 with ⟨a, b, p, x⟩ | ⟨n, x⟩
  · rcases h2 with ⟨c, d, q, y⟩ | ⟨n, y⟩
    · obtain ⟨e1, e2⟩ := hu a b c d p q; subst e1; subst e2; exact Or.inl ⟨a, b, p, x, y⟩
    · exact absurd ⟨a, b, p⟩ n
  · rcases h2 with ⟨c, d, q, y⟩ | ⟨n', y⟩
    · exact absurd ⟨c, d, q⟩ n
    · exact Or.inr ⟨n, x, y⟩
theorem pr3 {P A B : Nat → Nat → Nat → Prop} {C D : Prop} (h1 : (∃ a b c, P a b c ∧ A a b c) ∨ (¬ (∃ a b c, P a b c) ∧ C)) (h2 : (∃ a b c, P a b c ∧ B a b c) ∨ (¬ (∃ a b c, P a b c) ∧ D)) (hu : ∀ a b c a' b' c', P a b c → P a' b' c' → a = a' ∧ b = b' ∧ c = c') : (∃ a b c, P a b c ∧ A a b c ∧ B a b c) ∨ (¬ (∃ a b c, P a b c) ∧ C ∧ D) := by
  rcases h1 with ⟨a, b, c, p, x⟩ | ⟨n, x⟩
  · rcases h2 with ⟨a', b', c', q, y⟩ | ⟨n, y⟩
    · obtain ⟨e1, e2, e3⟩ := hu a b c a' b' c' p q; subst e1; subst e2; subst e3; exact Or.inl ⟨a, b, c, p, x, y⟩
    · exact absurd ⟨a, b, c, p⟩ n
  · rcases h2 with ⟨a', b', c', q, y⟩ | ⟨n', y⟩
    · exact absurd ⟨a', b', c', q⟩ n
    · exact Or.inr ⟨n, x, y⟩
