section JS3
variable {I J J1 J2 : Mem} {G G' : GT} {kp : Nat → Bool} {Gi : Nat → GT} {L L' : Nat} {tb tb' : Nat → Nat} {ln ln' : Nat → Option Nat} {sz sz' : Nat → Nat} {cl cl' : Nat → Nat → Int32} {ft tr : Int32}
/-- the tape alone -/
theorem JX.tape (hX : JX I G kp Gi L tb ln sz cl ft tr) (ht : TbR J L' tb') (e : ∀ a, a ≠ 15 → a ≠ 16 → a < 97 → J a = I a) : JX J G kp Gi L' tb' ln sz cl ft tr := by
  obtain ⟨x1, x2, -, h6, h7, h8⟩ := hX
  exact ⟨x1.cong (fun a h1 h2 => e a (by omega) (by omega) (by omega)), fun k hk => ⟨by rw [e 14 (by omega) (by omega) (by omega)]; exact (x2 k hk).1, fun hp => ((x2 k hk).2 hp).cong (fun a h1 h2 => e a (by omega) (by omega) (by omega))⟩, ht, h6.cong (fun i h1 h2 => e i (by omega) (by omega) (by omega)), by rw [e 0 (by omega) (by omega) (by omega)]; exact h7, by rw [e 0 (by omega) (by omega) (by omega)]; exact h8⟩
theorem JM.tape (hM : JM I G kp Gi L tb ln sz cl ft tr) (hW : JW G kp Gi) (ht : TbM J L' tb') (e7 : ∀ z, z ≠ 16 → J 97 z = I 97 z) (e : ∀ a, 98 ≤ a → a ≠ 105 → J a = I a) : JM J G kp Gi L' tb' ln sz cl ft tr := by
  obtain ⟨h1, h2, h3, -, h7, h8, h9⟩ := hM
  refine ⟨h1.cong (e7 2 (by omega)) (e7 3 (by omega)) (e7 4 (by omega)) (e 100 (by omega) (by omega)) (e 101 (by omega) (by omega)), h2.cong hW.1 (fun j _ => by rw [e 98 (by omega) (by omega)]), fun k hk => ⟨by rw [e 99 (by omega) (by omega)]; exact (h3 k hk).1, fun hp => ((h3 k hk).2 hp).cong (hW.2 k hk hp).1 (fun j _ => by rw [e 98 (by omega) (by omega)])⟩, ht, fun k hk => ?_, by rw [e7 21 (by omega)]; exact h8, by rw [e7 41 (by omega)]; exact h9⟩
  obtain ⟨a1, a2, a3, a4, a5⟩ := h7 k hk
  exact ⟨by rw [e 115 (by omega) (by omega)]; exact a1, by rw [e 116 (by omega) (by omega)]; exact a2, a3, a4, fun i hi => by rw [e 117 (by omega) (by omega)]; exact a5 i hi⟩
/-- the sheets alone -/
theorem JX.shs (hX : JX I G kp Gi L tb ln sz cl ft tr) (hs : ShR J 61 ln' sz' cl') (e : ∀ a, ¬ (61 ≤ a ∧ a ≤ 68) → a < 97 → J a = I a) : JX J G kp Gi L tb ln' sz' cl' ft tr := by
  obtain ⟨x1, x2, ⟨h3, h4, h5⟩, -, h7, h8⟩ := hX
  exact ⟨x1.cong (fun a h1 h2 => e a (by omega) (by omega)), fun k hk => ⟨by rw [e 14 (by omega) (by omega)]; exact (x2 k hk).1, fun hp => ((x2 k hk).2 hp).cong (fun a h1 h2 => e a (by omega) (by omega))⟩, ⟨by rw [e 15 (by omega) (by omega)]; exact h3, h4, fun i hi => by rw [e 16 (by omega) (by omega)]; exact h5 i hi⟩, hs, by rw [e 0 (by omega) (by omega)]; exact h7, by rw [e 0 (by omega) (by omega)]; exact h8⟩
theorem JM.shs (hM : JM I G kp Gi L tb ln sz cl ft tr) (hW : JW G kp Gi) (hs : ShM J ln' sz' cl') (e : ∀ a, ¬ (115 ≤ a ∧ a ≤ 117) → J a = I a) : JM J G kp Gi L tb ln' sz' cl' ft tr := by
  obtain ⟨h1, h2, h3, h4, -, h8, h9⟩ := hM
  exact ⟨h1.cong (by rw [e 97 (by omega)]) (by rw [e 97 (by omega)]) (by rw [e 97 (by omega)]) (e 100 (by omega)) (e 101 (by omega)), h2.cong hW.1 (fun j _ => by rw [e 98 (by omega)]), fun k hk => ⟨by rw [e 99 (by omega)]; exact (h3 k hk).1, fun hp => ((h3 k hk).2 hp).cong (hW.2 k hk hp).1 (fun j _ => by rw [e 98 (by omega)])⟩, h4.cg (by rw [e 97 (by omega)]) (e 105 (by omega)), hs, by rw [e 97 (by omega)]; exact h8, by rw [e 97 (by omega)]; exact h9⟩
/-- a game at its first -/
def g0 (F : RT) (b : BT) : GT := (F, b, 0, (0, fun _ => 0, fun _ => none), (0, fun _ => 0))
theorem g0_W {F : RT} {b : BT} (h1 : RW F) (h2 : BW F b) (h3 : gK F b) : gW (g0 F b) := ⟨h1, h2, h3, Nat.zero_le _, ⟨Nat.zero_le _, fun k hk => absurd hk (Nat.not_lt_zero k)⟩, Nat.zero_le _, fun k hk => absurd hk (Nat.not_lt_zero k)⟩
theorem g0_X {F : RT} {b : BT} (h1 : RR I 2 F) (h2 : BR I 6 F b) (h5 : I 1 5 = 0) (h6 : I 1 6 = 0) (h7 : I 1 7 = 0) : gX I 1 (g0 F b) := ⟨h1, h2, h5, ⟨h6, fun k hk => absurd hk (Nat.not_lt_zero k)⟩, h7, fun k hk => absurd hk (Nat.not_lt_zero k)⟩
theorem g0_M {F : RT} {b : BT} (h : QN I F b) (h5 : I 98 19 = 0) (h6 : I 98 20 = 0) (h7 : I 98 37 = 0) : gM I 0 (g0 F b) := ⟨h.2.1.1, fun w hw => by simp only [Nat.zero_add]; exact h.2.1.2 w hw, fun p hp => by simp only [Nat.zero_add]; exact h.2.2.1 p hp, h.2.2.2, h5, ⟨h6, fun k hk => absurd hk (Nat.not_lt_zero k)⟩, h7, fun k hk => absurd hk (Nat.not_lt_zero k)⟩
end JS3
def PX_feed (I : Mem) (L : Nat) (x : Int64) (v : Int32) (I1 : Mem) : Prop := (L + 8 ≤ 320 ∧ v = nI (L + 8) ∧ I1 15 2 = nI (L + 8) ∧ (∀ i, i < 8 → I1 16 (L + i) = (nI (byt x i)).toInt8.toInt32) ∧ (∀ i, i < L → I1 16 i = I 16 i) ∧ (∀ z, z ≠ 2 → I1 15 z = I 15 z) ∧ ∀ i, i ≠ 15 → i ≠ 16 → I1 i = I i) ∨ (320 < L + 8 ∧ v = -3 ∧ I = I1)
def PM_feed (I : Mem) (L : Nat) (x : Int64) (v : Int32) (I1 : Mem) : Prop := (L + 8 ≤ 320 ∧ v = nI (L + 8) ∧ I1 97 16 = nI (L + 8) ∧ (∀ i, i < 8 → I1 105 (L + i) = nI (byt x i)) ∧ (∀ i, i < L → I1 105 i = I 105 i) ∧ (∀ z, z ≠ 16 → I1 97 z = I 97 z) ∧ ∀ i, i ≠ 97 → i ≠ 105 → I1 i = I i) ∨ (320 < L + 8 ∧ v = -3 ∧ I = I1)
theorem st_feed {I J1 J2 : Mem} {G : GT} {kp : Nat → Bool} {Gi : Nat → GT} {L : Nat} {tb : Nat → Nat} {ln : Nat → Option Nat} {sz : Nat → Nat} {cl : Nat → Nat → Int32} {ft tr : Int32} {x : Int64} {v1 v2 : Int32} (hW : JW G kp Gi) (hX : JX I G kp Gi L tb ln sz cl ft tr) (hM : JM J1 G kp Gi L tb ln sz cl ft tr) (h1 : PX_feed I L x v1 J1) (h2 : PM_feed J1 L x v2 J2) : v1 = v2 ∧ JJ J2 := by
  rcases h1 with ⟨a1, e1, t1, b1, o1, z1, f1⟩ | ⟨a1, e1, rfl⟩ <;> rcases h2 with ⟨a2, e2, t2, b2, o2, z2, f2⟩ | ⟨a2, e2, rfl⟩
  · obtain ⟨tb2, hb2⟩ : ∃ tb2 : Nat → Nat, ∀ i, tb2 i = if i < L then tb i else byt x (i - L) := ⟨_, fun _ => rfl⟩
    refine ⟨e1.trans e2.symm, G, kp, Gi, L + 8, tb2, ln, sz, cl, ft, tr, hW, hX.tape ⟨?_, by omega, fun i hi => ?_⟩ (fun a h1 h2 h3 => by rw [f2 a (by omega) (by omega)]; exact f1 a h1 h2), hM.tape hW ⟨t2, by omega, fun i hi => ?_⟩ z2 (fun a h1 h2 => f2 a (by omega) h2)⟩
    · rw [f2 15 (by decide) (by decide)]; exact t1
    · rw [f2 16 (by decide) (by decide)]
      by_cases e : i < L
      · rw [hb2, if_pos e, o1 i e]; exact hX.2.2.1.2.2 i e
      · obtain ⟨j, rfl⟩ : ∃ j, i = L + j := ⟨i - L, by omega⟩
        rw [hb2, if_neg e, b1 j (by omega), show L + j - L = j by omega]
        exact ⟨rfl, byt_lt x j⟩
    · by_cases e : i < L
      · rw [hb2, if_pos e, o2 i e]; exact hM.2.2.2.1.2.2 i e
      · obtain ⟨j, rfl⟩ : ∃ j, i = L + j := ⟨i - L, by omega⟩
        rw [hb2, if_neg e, b2 j (by omega), show L + j - L = j by omega]
        exact ⟨rfl, byt_lt x j⟩
  · omega
  · omega
  · exact ⟨e1.trans e2.symm, JJ_q hW hX hM (fun _ _ => rfl) kp_rfl⟩
theorem fx_feed {I J1 : Mem} {G : GT} {kp : Nat → Bool} {Gi : Nat → GT} {L : Nat} {tb : Nat → Nat} {ln : Nat → Option Nat} {sz : Nat → Nat} {cl : Nat → Nat → Int32} {ft tr : Int32} {x : Int64} {v1 : Int32} (h1 : PX_feed I L x v1 J1) : ∀ a, 97 ≤ a → J1 a = I a := by
  rcases h1 with ⟨-, -, -, -, -, -, f1⟩ | ⟨-, -, rfl⟩
  · exact fun a ha => f1 a (by omega) (by omega)
  · exact fun _ _ => rfl
def PX_end (I : Mem) (L : Nat) (x : Int32) (v : Int32) (I1 : Mem) : Prop := (∃ q, (q ≤ L ∧ x = nI q) ∧ v = nI L ∧ wr I 15 2 x = I1) ∨ (¬ (∃ q, (q ≤ L ∧ x = nI q)) ∧ v = -1 ∧ I = I1)
def PM_end (I : Mem) (m : Nat) (x : Int32) (v : Int32) (I1 : Mem) : Prop := (∃ q, (q ≤ m ∧ x = nI q) ∧ v = nI m ∧ wr I 97 16 x = I1) ∨ (¬ (∃ q, (q ≤ m ∧ x = nI q)) ∧ v = -1 ∧ I = I1)
theorem st_end {I J1 J2 : Mem} {G : GT} {kp : Nat → Bool} {Gi : Nat → GT} {L : Nat} {tb : Nat → Nat} {ln : Nat → Option Nat} {sz : Nat → Nat} {cl : Nat → Nat → Int32} {ft tr : Int32} {x : Int32} {v1 v2 : Int32} (hW : JW G kp Gi) (hX : JX I G kp Gi L tb ln sz cl ft tr) (hM : JM J1 G kp Gi L tb ln sz cl ft tr) (h1 : PX_end I L x v1 J1) (h2 : PM_end J1 L x v2 J2) : v1 = v2 ∧ JJ J2 := by
  have hL3 := hX.2.2.1.2.1
  rcases pr1 h1 h2 (fun a c h h' => nI_u h.2 h'.2 (by omega) (by omega)) with ⟨q, ⟨c1, rfl⟩, ⟨e1, f1⟩, e2, f2⟩ | ⟨-, ⟨e1, rfl⟩, e2, rfl⟩
  · refine ⟨e1.trans e2.symm, G, kp, Gi, q, tb, ln, sz, cl, ft, tr, hW, hX.tape ⟨?_, by omega, fun i hi => ?_⟩ (fun a h1 h2 h3 => by rw [← f2, wr_n (by omega), ← f1, wr_n h1]), hM.tape hW ⟨?_, by omega, fun i hi => ?_⟩ (fun z hz => by rw [← f2, wr_sn hz]) (fun a h1 h2 => by rw [← f2, wr_n (by omega)])⟩
    · rw [← f2, wr_n (by omega), ← f1, wr_ss]
    · rw [← f2, wr_n (by omega), ← f1, wr_n (by omega)]; exact hX.2.2.1.2.2 i (by omega)
    · rw [← f2, wr_ss]
    · rw [← f2, wr_n (by omega)]; exact hM.2.2.2.1.2.2 i (by omega)
  · exact ⟨e1.trans e2.symm, JJ_q hW hX hM (fun _ _ => rfl) kp_rfl⟩
theorem fx_end {I J1 : Mem} {G : GT} {kp : Nat → Bool} {Gi : Nat → GT} {L : Nat} {tb : Nat → Nat} {ln : Nat → Option Nat} {sz : Nat → Nat} {cl : Nat → Nat → Int32} {ft tr : Int32} {x : Int32} {v1 : Int32} (h1 : PX_end I L x v1 J1) : ∀ a, 97 ≤ a → J1 a = I a := by
  rcases h1 with ⟨q, -, -, rfl⟩ | ⟨-, -, rfl⟩
  · exact fun a ha => wr_n (by omega)
  · exact fun _ _ => rfl
def PX_text (I : Mem) (L : Nat) (tb : Nat → Nat) (v : Int32) (I1 : Mem) : Prop := (∃ e, txR tb L = .inl e ∧ v = -10 - nI e.2 ∧ I1 0 9 = nI e.1 ∧ I1 15 2 = 0 ∧ (∀ i, i ≠ 0 → i ≠ 15 → ¬ (17 ≤ i ∧ i ≤ 25) → I1 i = I i) ∧ ∀ z, z ≠ 9 → I1 0 z = I 0 z) ∨ (∃ q, txR tb L = .inr q ∧ v = nI q.1 ∧ I1 0 9 = 0 ∧ I1 15 2 = 0 ∧ RR I1 2 q.2.1 ∧ RW q.2.1 ∧ BR I1 6 q.2.1 q.2.2 ∧ BW q.2.1 q.2.2 ∧ I1 1 5 = 0 ∧ I1 1 6 = 0 ∧ I1 1 7 = 0 ∧ (∀ k, k < 2 → I1 14 k = 0) ∧ (∀ i, ¬ (i ≤ 12) → i ≠ 14 → i ≠ 15 → ¬ (17 ≤ i ∧ i ≤ 25) → I1 i = I i) ∧ ∀ z, z ≠ 9 → I1 0 z = I 0 z)
def PM_text (I : Mem) (L : Nat) (tb : Nat → Nat) (v : Int32) (I1 : Mem) : Prop := (∃ e, txR tb L = .inl e ∧ v = -10 - nI e.2 ∧ I1 97 21 = nI e.1 ∧ I1 97 16 = 0 ∧ (∀ i, i ≠ 97 → i ≠ 102 → i ≠ 103 → i ≠ 104 → I1 i = I i) ∧ ∀ z, z < 8 ∨ 22 < z → I1 97 z = I 97 z) ∨ (∃ q, txR tb L = .inr q ∧ v = nI q.1 ∧ I1 97 21 = 0 ∧ I1 97 16 = 0 ∧ QN I1 q.2.1 q.2.2 ∧ RW q.2.1 ∧ BW q.2.1 q.2.2 ∧ I1 98 19 = 0 ∧ I1 98 20 = 0 ∧ I1 98 37 = 0 ∧ (∀ k, k < 2 → I1 99 k = 0) ∧ (∀ i, i < 97 ∨ 104 < i → I1 i = I i) ∧ ∀ z, 22 < z → I1 97 z = I 97 z)
theorem st_text {I J1 J2 : Mem} {G : GT} {kp : Nat → Bool} {Gi : Nat → GT} {L : Nat} {tb : Nat → Nat} {ln : Nat → Option Nat} {sz : Nat → Nat} {cl : Nat → Nat → Int32} {ft tr : Int32}  {v1 v2 : Int32} (hW : JW G kp Gi) (hX : JX I G kp Gi L tb ln sz cl ft tr) (hM : JM J1 G kp Gi L tb ln sz cl ft tr) (h1 : PX_text I L tb v1 J1) (h2 : PM_text J1 L tb v2 J2) : v1 = v2 ∧ JJ J2 := by
  have tz : ∀ {J : Mem}, J 15 2 = 0 → TbR J 0 tb := fun h => ⟨h, Nat.zero_le _, fun i hi => absurd hi (Nat.not_lt_zero i)⟩
  have tm : ∀ {J : Mem}, J 97 16 = 0 → TbM J 0 tb := fun h => ⟨h, Nat.zero_le _, fun i hi => absurd hi (Nat.not_lt_zero i)⟩
  rcases h1 with ⟨e, t1, e1, a1, b1, f1, z1⟩ | ⟨q, t1, e1, a1, b1, rr, rw1, br, bw1, c5, c6, c7, k14, f1, z1⟩ <;> rcases h2 with ⟨e', t2, e2, a2, b2, f2, z2⟩ | ⟨q', t2, e2, a2, b2, qn, rw2, bw2, d5, d6, d7, k99, f2, z2⟩
  · have : e = e' := Sum.inl.inj (t1.symm.trans t2)
    subst this
    refine ⟨e1.trans e2.symm, G, kp, Gi, 0, tb, ln, sz, cl, nI e.1, tr, hW, ?_, ?_⟩
    · obtain ⟨x1, x2, -, h6, h7, h8⟩ := hX
      have e0 : ∀ a, a ≠ 0 → a ≠ 15 → ¬ (17 ≤ a ∧ a ≤ 25) → a < 97 → J2 a = I a := fun a q1 q2 q3 q4 => by rw [f2 a (by omega) (by omega) (by omega) (by omega)]; exact f1 a q1 q2 q3
      refine ⟨x1.cong (fun a q1 q2 => e0 a (by omega) (by omega) (by omega) (by omega)), fun k hk => ⟨by rw [e0 14 (by omega) (by omega) (by omega) (by omega)]; exact (x2 k hk).1, fun hp => ((x2 k hk).2 hp).cong (fun a q1 q2 => e0 a (by omega) (by omega) (by omega) (by omega))⟩, tz (by rw [f2 15 (by omega) (by omega) (by omega) (by omega)]; exact b1), h6.cong (fun i q1 q2 => e0 i (by omega) (by omega) (by omega) (by omega)), by rw [f2 0 (by omega) (by omega) (by omega) (by omega)]; exact a1, by rw [f2 0 (by omega) (by omega) (by omega) (by omega), z1 10 (by decide)]; exact h8⟩
    · obtain ⟨y1, y2, y3, -, y5, y6, y7⟩ := hM
      refine ⟨y1.cong (z2 2 (by omega)) (z2 3 (by omega)) (z2 4 (by omega)) (f2 100 (by omega) (by omega) (by omega) (by omega)) (f2 101 (by omega) (by omega) (by omega) (by omega)), y2.cong hW.1 (fun j _ => by rw [f2 98 (by omega) (by omega) (by omega) (by omega)]), fun k hk => ⟨by rw [f2 99 (by omega) (by omega) (by omega) (by omega)]; exact (y3 k hk).1, fun hp => ((y3 k hk).2 hp).cong (hW.2 k hk hp).1 (fun j _ => by rw [f2 98 (by omega) (by omega) (by omega) (by omega)])⟩, tm b2, fun k hk => ?_, a2, by rw [z2 41 (by omega)]; exact y7⟩
      obtain ⟨p1, p2, p3, p4, p5⟩ := y5 k hk
      exact ⟨by rw [f2 115 (by omega) (by omega) (by omega) (by omega)]; exact p1, by rw [f2 116 (by omega) (by omega) (by omega) (by omega)]; exact p2, p3, p4, fun i hi => by rw [f2 117 (by omega) (by omega) (by omega) (by omega)]; exact p5 i hi⟩
  · rw [t1] at t2; cases t2
  · rw [t1] at t2; cases t2
  · have : q = q' := Sum.inr.inj (t1.symm.trans t2)
    subst this
    refine ⟨e1.trans e2.symm, g0 q.2.1 q.2.2, (fun _ => false), Gi, 0, tb, ln, sz, cl, 0, tr, ⟨g0_W rw1 bw1 (txR_K t1 rw1 bw1), fun k _ hp => by cases hp⟩, ?_, ?_⟩
    · obtain ⟨x1, x2, -, h6, h7, h8⟩ := hX
      have e0 : ∀ a, ¬ (a ≤ 12) → a ≠ 14 → a ≠ 15 → ¬ (17 ≤ a ∧ a ≤ 25) → a < 97 → J2 a = I a := fun a q1 q2 q3 q4 q5 => by rw [f2 a (by omega)]; exact f1 a q1 q2 q3 q4
      refine ⟨(g0_X rr br c5 c6 c7).cong (fun a q1 q2 => f2 a (by omega)), fun k hk => ⟨by rw [f2 14 (by omega)]; exact k14 k hk, fun hp => by cases hp⟩, tz (by rw [f2 15 (by omega)]; exact b1), h6.cong (fun i q1 q2 => e0 i (by omega) (by omega) (by omega) (by omega) (by omega)), by rw [f2 0 (by omega)]; exact a1, by rw [f2 0 (by omega), z1 10 (by decide)]; exact h8⟩
    · obtain ⟨y1, y2, y3, -, y5, y6, y7⟩ := hM
      refine ⟨qn.1, g0_M qn d5 d6 d7, fun k hk => ⟨k99 k hk, fun hp => by cases hp⟩, tm b2, fun k hk => ?_, a2, by rw [z2 41 (by omega)]; exact y7⟩
      obtain ⟨p1, p2, p3, p4, p5⟩ := y5 k hk
      exact ⟨by rw [f2 115 (by omega)]; exact p1, by rw [f2 116 (by omega)]; exact p2, p3, p4, fun i hi => by rw [f2 117 (by omega)]; exact p5 i hi⟩
theorem fx_text {I J1 : Mem} {G : GT} {kp : Nat → Bool} {Gi : Nat → GT} {L : Nat} {tb : Nat → Nat} {ln : Nat → Option Nat} {sz : Nat → Nat} {cl : Nat → Nat → Int32} {ft tr : Int32}  {v1 : Int32} (h1 : PX_text I L tb v1 J1) : ∀ a, 97 ≤ a → J1 a = I a := by
  rcases h1 with ⟨e, t1, e1, a1, b1, f1, z1⟩ | ⟨q, t1, e1, a1, b1, rr, rw1, br, bw1, c5, c6, c7, k14, f1, z1⟩
  · exact fun a ha => f1 a (by omega) (by omega) (by omega)
  · exact fun a ha => f1 a (by omega) (by omega) (by omega) (by omega)
def PX_sheet (I : Mem) (x y9 z : Int32) (v : Int32) (I1 : Mem) : Prop := (∃ k l, (k < 4 ∧ l < 3 ∧ x = nI k ∧ y9 = nI l ∧ z ≤ 40) ∧ ((z < 0 ∧ v = -14 ∧ I = I1) ∨ (0 ≤ z ∧ v = 1 ∧ (∀ i, i < 40 → I1 (65 + k) i = 0) ∧ I1 62 = upd (I 62) k y9 ∧ I1 63 = upd (I 63) k z ∧ ∀ i, i ≠ 62 → i ≠ 63 → i ≠ 65 + k → I1 i = I i))) ∨ (¬ (∃ k l, (k < 4 ∧ l < 3 ∧ x = nI k ∧ y9 = nI l ∧ z ≤ 40)) ∧ v = -1 ∧ I = I1)
def PM_sheet (I : Mem) (x y9 z : Int32) (v : Int32) (I1 : Mem) : Prop := (∃ k l, (k < 4 ∧ l < 3 ∧ x = nI k ∧ y9 = nI l ∧ z ≤ 40) ∧ ((z < 0 ∧ v = -14 ∧ I = I1) ∨ (0 ≤ z ∧ v = 1 ∧ (∀ i, i < 40 → I1 117 (40 * k + i) = 0) ∧ (∀ i, i < 40 * k ∨ 40 * k + 40 ≤ i → I1 117 i = I 117 i) ∧ I1 115 = upd (I 115) k y9 ∧ I1 116 = upd (I 116) k z ∧ ∀ i, i ≠ 115 → i ≠ 116 → i ≠ 117 → I1 i = I i))) ∨ (¬ (∃ k l, (k < 4 ∧ l < 3 ∧ x = nI k ∧ y9 = nI l ∧ z ≤ 40)) ∧ v = -1 ∧ I = I1)
theorem st_sheet {I J1 J2 : Mem} {G : GT} {kp : Nat → Bool} {Gi : Nat → GT} {L : Nat} {tb : Nat → Nat} {ln : Nat → Option Nat} {sz : Nat → Nat} {cl : Nat → Nat → Int32} {ft tr : Int32} {x : Int32} {y9 : Int32} {z : Int32} {v1 v2 : Int32} (hW : JW G kp Gi) (hX : JX I G kp Gi L tb ln sz cl ft tr) (hM : JM J1 G kp Gi L tb ln sz cl ft tr) (h1 : PX_sheet I x y9 z v1 J1) (h2 : PM_sheet J1 x y9 z v2 J2) : v1 = v2 ∧ JJ J2 := by
  rcases pr2 h1 h2 (fun a b c d h h' => ⟨nI_u h.2.2.1 h'.2.2.1 (by omega) (by omega), nI_u h.2.2.2.1 h'.2.2.2.1 (by omega) (by omega)⟩) with ⟨k, l, ⟨c1, c2, rfl, rfl, c3⟩, B1, B2⟩ | ⟨-, ⟨e1, rfl⟩, e2, rfl⟩
  · rcases B1 with ⟨a1, e1, rfl⟩ | ⟨a1, e1, g1, g2, g3, f1⟩ <;> rcases B2 with ⟨a2, e2, rfl⟩ | ⟨a2, e2, m1, m2, m3, m4, f2⟩
    · exact ⟨e1.trans e2.symm, JJ_q hW hX hM (fun _ _ => rfl) kp_rfl⟩
    · exact absurd a1 (Int32.not_lt.mpr a2)
    · exact absurd a2 (Int32.not_lt.mpr a1)
    · obtain ⟨n, hn, rfl⟩ := ix_le (m := 40) (by decide) ⟨a1, c3⟩
      have sX := hX.2.2.2.1
      have sM := hM.2.2.2.2.1
      obtain ⟨ln2, hl2⟩ : ∃ ln2 : Nat → Option Nat, ∀ j, ln2 j = if j = k then some l else ln j := ⟨_, fun _ => rfl⟩
      obtain ⟨sz2, hs2⟩ : ∃ sz2 : Nat → Nat, ∀ j, sz2 j = if j = k then n else sz j := ⟨_, fun _ => rfl⟩
      obtain ⟨cl2, hc2⟩ : ∃ cl2 : Nat → Nat → Int32, ∀ j, cl2 j = if j = k then (fun _ => 0) else cl j := ⟨_, fun _ => rfl⟩
      refine ⟨e1.trans e2.symm, G, kp, Gi, L, tb, ln2, sz2, cl2, ft, tr, hW, hX.shs (fun j hj => ?_) (fun a h1 h2 => by rw [f2 a (by omega) (by omega) (by omega)]; exact f1 a (by omega) (by omega) (by omega)), hM.shs hW (fun j hj => ?_) (fun a h1 => f2 a (by omega) (by omega) (by omega))⟩
      · rw [f2 (61 + 1) (by omega) (by omega) (by omega), f2 (61 + 2) (by omega) (by omega) (by omega), f2 (61 + 4 + j) (by omega) (by omega) (by omega), show J1 (61 + 1) = upd (I 62) k (nI l) from g2, show J1 (61 + 2) = upd (I 63) k (nI n) from g3]
        by_cases e : j = k
        · subst e
          rw [hl2, hs2, hc2, if_pos rfl, if_pos rfl, if_pos rfl, upd_s, upd_s]
          exact ⟨rfl, rfl, hn, fun x hx => by cases hx; exact c2, fun i hi => g1 i (by omega)⟩
        · rw [hl2, hs2, hc2, if_neg e, if_neg e, if_neg e, upd_n e, upd_n e]
          obtain ⟨p1, p2, p3, p4, p5⟩ := sX j hj
          exact ⟨p1, p2, p3, p4, fun i hi => by rw [f1 (61 + 4 + j) (by omega) (by omega) (by omega)]; exact p5 i hi⟩
      · rw [m3, m4]
        by_cases e : j = k
        · subst e
          rw [hl2, hs2, hc2, if_pos rfl, if_pos rfl, if_pos rfl, upd_s, upd_s]
          exact ⟨rfl, rfl, hn, fun x hx => by cases hx; exact c2, fun i hi => m1 i (by omega)⟩
        · rw [hl2, hs2, hc2, if_neg e, if_neg e, if_neg e, upd_n e, upd_n e]
          obtain ⟨p1, p2, p3, p4, p5⟩ := sM j hj
          exact ⟨p1, p2, p3, p4, fun i hi => by rw [m2 _ (by omega)]; exact p5 i hi⟩
  · exact ⟨e1.trans e2.symm, JJ_q hW hX hM (fun _ _ => rfl) kp_rfl⟩
theorem fx_sheet {I J1 : Mem} {G : GT} {kp : Nat → Bool} {Gi : Nat → GT} {L : Nat} {tb : Nat → Nat} {ln : Nat → Option Nat} {sz : Nat → Nat} {cl : Nat → Nat → Int32} {ft tr : Int32} {x : Int32} {y9 : Int32} {z : Int32} {v1 : Int32} (h1 : PX_sheet I x y9 z v1 J1) : ∀ a, 97 ≤ a → J1 a = I a := by
  rcases h1 with ⟨k, l, ⟨c1, -⟩, ⟨-, -, rfl⟩ | ⟨-, -, -, -, -, f⟩⟩ | ⟨-, -, rfl⟩
  · exact fun _ _ => rfl
  · exact fun a ha => f a (by omega) (by omega) (by omega)
  · exact fun _ _ => rfl
def PX_lay (I : Mem) (ln : Nat → Option Nat) (sz : Nat → Nat) (cl : Nat → Nat → Int32) (x z w : Int32) (v : Int32) (I1 : Mem) : Prop := (∃ k, (k < 4 ∧ x = nI k) ∧ ((ln k = none ∧ v = -11 ∧ I = I1) ∨ (∃ l, ln k = some l ∧ ((¬ (0 ≤ z ∧ z < nI (sz k)) ∧ v = -12 ∧ I = I1) ∨ (∃ i, i < sz k ∧ z = nI i ∧ v = 1 ∧ wr I (65 + k) i (cutL l w) = I1))))) ∨ (¬ (∃ k, (k < 4 ∧ x = nI k)) ∧ v = -1 ∧ I = I1)
def PM_lay (I : Mem) (ln : Nat → Option Nat) (sz : Nat → Nat) (cl : Nat → Nat → Int32) (x z w : Int32) (v : Int32) (I1 : Mem) : Prop := (∃ k, (k < 4 ∧ x = nI k) ∧ ((ln k = none ∧ v = -11 ∧ I = I1) ∨ (∃ l, ln k = some l ∧ ((¬ (0 ≤ z ∧ z < nI (sz k)) ∧ v = -12 ∧ I = I1) ∨ (∃ i, i < sz k ∧ z = nI i ∧ v = 1 ∧ wr I 117 (40 * k + i) (cutL l w) = I1))))) ∨ (¬ (∃ k, (k < 4 ∧ x = nI k)) ∧ v = -1 ∧ I = I1)
theorem st_lay {I J1 J2 : Mem} {G : GT} {kp : Nat → Bool} {Gi : Nat → GT} {L : Nat} {tb : Nat → Nat} {ln : Nat → Option Nat} {sz : Nat → Nat} {cl : Nat → Nat → Int32} {ft tr : Int32} {x : Int32} {z : Int32} {w : Int32} {v1 v2 : Int32} (hW : JW G kp Gi) (hX : JX I G kp Gi L tb ln sz cl ft tr) (hM : JM J1 G kp Gi L tb ln sz cl ft tr) (h1 : PX_lay I ln sz cl x z w v1 J1) (h2 : PM_lay J1 ln sz cl x z w v2 J2) : v1 = v2 ∧ JJ J2 := by
  rcases pr1 h1 h2 (fun a c h h' => nI_u h.2 h'.2 (by omega) (by omega)) with ⟨k, ⟨c1, rfl⟩, B1, B2⟩ | ⟨-, ⟨e1, rfl⟩, e2, rfl⟩
  · have sX := hX.2.2.2.1
    have sM := hM.2.2.2.2.1
    have hs := (sX k c1).2.2.1
    rcases B1 with ⟨a1, e1, rfl⟩ | ⟨l, a1, B1⟩ <;> rcases B2 with ⟨a2, e2, rfl⟩ | ⟨l2, a2, B2⟩
    · exact ⟨e1.trans e2.symm, JJ_q hW hX hM (fun _ _ => rfl) kp_rfl⟩
    · rw [a1] at a2; cases a2
    · rw [a1] at a2; cases a2
    · have : l = l2 := Option.some.inj (a1.symm.trans a2)
      subst this
      rcases B1 with ⟨b1, e1, rfl⟩ | ⟨i, b1, d1, e1, f1⟩ <;> rcases B2 with ⟨b2, e2, rfl⟩ | ⟨i2, b2, d2, e2, f2⟩
      · exact ⟨e1.trans e2.symm, JJ_q hW hX hM (fun _ _ => rfl) kp_rfl⟩
      · exact absurd (by rw [d2]; exact ⟨nI_pos' (by omega), nI_lt b2 (by omega)⟩) b1
      · exact absurd (by rw [d1]; exact ⟨nI_pos' (by omega), nI_lt b1 (by omega)⟩) b2
      · have := nI_u d1 d2 (by omega) (by omega)
        subst this
        obtain ⟨cl2, hc2⟩ : ∃ cl2 : Nat → Nat → Int32, ∀ j y, cl2 j y = if j = k then (if y = i then cutL l w else cl k y) else cl j y := ⟨_, fun _ _ => rfl⟩
        refine ⟨e1.trans e2.symm, G, kp, Gi, L, tb, ln, sz, cl2, ft, tr, hW, hX.shs (fun j hj => ?_) (fun a h1 h2 => by rw [← f2, wr_n (by omega), ← f1, wr_n (by omega)]), hM.shs hW (fun j hj => ?_) (fun a h1 => by rw [← f2, wr_n (by omega)])⟩
        · obtain ⟨p1, p2, p3, p4, p5⟩ := sX j hj
          rw [← f2, wr_n (by omega), wr_n (by omega), wr_n (by omega), ← f1, wr_n (by omega), wr_n (by omega)]
          refine ⟨p1, p2, p3, p4, fun y hy => ?_⟩
          by_cases e : j = k
          · subst e
            rw [hc2, if_pos rfl]
            by_cases ey : y = i
            · subst ey; rw [if_pos rfl]; exact wr_ss
            · rw [if_neg ey]; exact (wr_sn ey).trans (p5 y hy)
          · rw [hc2, if_neg e]
            rw [wr_n (by omega)]; exact p5 y hy
        · obtain ⟨p1, p2, p3, p4, p5⟩ := sM j hj
          rw [← f2, wr_n (by omega), wr_n (by omega)]
          refine ⟨p1, p2, p3, p4, fun y hy => ?_⟩
          by_cases e : j = k
          · subst e
            rw [hc2, if_pos rfl]
            by_cases ey : y = i
            · subst ey; rw [if_pos rfl]; exact wr_ss
            · rw [if_neg ey, wr_sn (by omega)]; exact p5 y hy
          · rw [hc2, if_neg e]
            rw [wr_sn (by omega)]; exact p5 y hy
  · exact ⟨e1.trans e2.symm, JJ_q hW hX hM (fun _ _ => rfl) kp_rfl⟩
theorem fx_lay {I J1 : Mem} {G : GT} {kp : Nat → Bool} {Gi : Nat → GT} {L : Nat} {tb : Nat → Nat} {ln : Nat → Option Nat} {sz : Nat → Nat} {cl : Nat → Nat → Int32} {ft tr : Int32} {x : Int32} {z : Int32} {w : Int32} {v1 : Int32} (h1 : PX_lay I ln sz cl x z w v1 J1) : ∀ a, 97 ≤ a → J1 a = I a := by
  rcases h1 with ⟨k, ⟨c1, -⟩, ⟨-, -, rfl⟩ | ⟨l, -, ⟨-, -, rfl⟩ | ⟨i, -, -, -, rfl⟩⟩⟩ | ⟨-, -, rfl⟩
  · exact fun _ _ => rfl
  · exact fun _ _ => rfl
  · exact fun a ha => wr_n (by omega)
  · exact fun _ _ => rfl
def PX_read (I : Mem) (F : RT) (b : BT) (ln : Nat → Option Nat) (sz : Nat → Nat) (cl : Nat → Nat → Int32) (t : Nat) (x y9 z u : Int32) (v : Int32) (I1 : Mem) : Prop := ((∃ k l m, (k < 4 ∧ l < 3 ∧ m ≤ 13 ∧ x = nI k ∧ y9 = nI l ∧ u = nI m) ∧ ((∃ bb tt, rdS F (fun i => cl k (z.toNatClampNeg + 2 * i)) (fun i => cl k (z.toNatClampNeg + 2 * i + 1)) (rdW (ln k) (sz k) l z m).1 0 b t = (none, bb, tt) ∧ v = nI (rdW (ln k) (sz k) l z m).1 ∧ BR I1 (1 + 5) F bb ∧ I1 1 5 = nI tt ∧ I1 0 10 = nI (rdW (ln k) (sz k) l z m).2) ∨ (∃ i bb tt, rdS F (fun i => cl k (z.toNatClampNeg + 2 * i)) (fun i => cl k (z.toNatClampNeg + 2 * i + 1)) (rdW (ln k) (sz k) l z m).1 0 b t = (some i, bb, tt) ∧ i < 13 ∧ v = -20 - nI i ∧ BR I1 (1 + 5) F b ∧ I1 1 5 = nI t ∧ I1 0 10 = I 0 10))) ∨ (¬ (∃ k l m, (k < 4 ∧ l < 3 ∧ m ≤ 13 ∧ x = nI k ∧ y9 = nI l ∧ u = nI m)) ∧ v = -1 ∧ I1 1 5 = nI t ∧ BR I1 (1 + 5) F b ∧ I1 0 10 = I 0 10)) ∧ (∀ i, i ≠ 0 → i ≠ 1 → i ≠ 52 → ¬ (6 ≤ i ∧ i ≤ 9) → ¬ (69 ≤ i ∧ i ≤ 72) → I1 i = I i) ∧ (∀ z, z ≠ 5 → I1 1 z = I 1 z) ∧ ∀ z, z ≠ 10 → I1 0 z = I 0 z
def PM_read (I : Mem) (F : RT) (b : BT) (ln : Nat → Option Nat) (sz : Nat → Nat) (cl : Nat → Nat → Int32) (t : Nat) (x y9 z u : Int32) (v : Int32) (I1 : Mem) : Prop := ((∃ k l m, (k < 4 ∧ l < 3 ∧ m ≤ 13 ∧ x = nI k ∧ y9 = nI l ∧ u = nI m) ∧ ((∃ bb tt, rdS F (fun i => cl k (z.toNatClampNeg + 2 * i)) (fun i => cl k (z.toNatClampNeg + 2 * i + 1)) (rdW (ln k) (sz k) l z m).1 0 b t = (none, bb, tt) ∧ v = nI (rdW (ln k) (sz k) l z m).1 ∧ QN I1 F bb ∧ I1 98 19 = nI tt ∧ I1 97 41 = nI (rdW (ln k) (sz k) l z m).2) ∨ (∃ i bb tt, rdS F (fun i => cl k (z.toNatClampNeg + 2 * i)) (fun i => cl k (z.toNatClampNeg + 2 * i + 1)) (rdW (ln k) (sz k) l z m).1 0 b t = (some i, bb, tt) ∧ i < 13 ∧ v = -20 - nI i ∧ QN I1 F b ∧ I1 98 19 = nI t ∧ I1 97 41 = I 97 41))) ∨ (¬ (∃ k l m, (k < 4 ∧ l < 3 ∧ m ≤ 13 ∧ x = nI k ∧ y9 = nI l ∧ u = nI m)) ∧ v = -1 ∧ I = I1)) ∧ (∀ z, (z < 25 ∨ 37 < z) → z ≠ 41 → I1 97 z = I 97 z) ∧ (∀ i, i < 97 ∨ (98 < i ∧ i < 106) ∨ (114 < i ∧ i ≠ 118) → I1 i = I i) ∧ ∀ z, 12 ≤ z → z ≠ 18 → z ≠ 19 → I1 98 z = I 98 z
theorem st_read {I J1 J2 : Mem} {G : GT} {kp : Nat → Bool} {Gi : Nat → GT} {L : Nat} {tb : Nat → Nat} {ln : Nat → Option Nat} {sz : Nat → Nat} {cl : Nat → Nat → Int32} {ft tr : Int32} {x : Int32} {y9 : Int32} {z : Int32} {u : Int32} {v1 v2 : Int32} (hW : JW G kp Gi) (hX : JX I G kp Gi L tb ln sz cl ft tr) (hM : JM J1 G kp Gi L tb ln sz cl ft tr) (h1 : PX_read I (gF G) (gB G) ln sz cl (gT G) x y9 z u v1 J1) (h2 : PM_read J1 (gF G) (gB G) ln sz cl (gT G) x y9 z u v2 J2) : v1 = v2 ∧ JJ J2 := by
  obtain ⟨B1, f1, g1, k1⟩ := h1
  obtain ⟨B2, z2, f2, q2⟩ := h2
  have hn := hW.1.1.2.2.2.2.1
  have fin : ∀ (bb : BT) (tt : Nat) (tr' : Int32), BR J1 (1 + 5) (gF G) bb → J1 1 5 = nI tt → J1 0 10 = tr' → QN J2 (gF G) bb → J2 98 19 = nI tt → J2 97 41 = tr' → BW (gF G) bb → L1 (gF G) bb → PW (gF G) bb → tt ≤ 999 → JJ J2 := by
    intro bb tt tr' r1 r2 r3 s1 s2 s3 w1 w2 w3 w4
    exact JJ_h hW hX hM (wb_of hW.1 rfl w1 w2 w3 w4) sF.rfl' (hX.1.bd r1 r2 (g1 6 (by decide)) (g1 7 (by decide)) (fun a ha => f1 a (by omega) (by omega) (by omega) (by omega) (by omega))) (fun a ha => f1 a (by omega) (by omega) (by omega) (by omega) (by omega)) (ft' := ft) ⟨(k1 9 (by decide)).trans hX.2.2.2.2.1, r3⟩ (hM.2.1.bd hW.1 s1.2.2.1 s1.2.2.2 s2 q2) (fun a ha => f2 a (by omega)) (fun z hz => z2 z (by omega) (by omega)) ⟨(z2 21 (by omega) (by omega)).trans hM.2.2.2.2.2.1, s3⟩ (fun z hz => q2 z (by omega) (by omega) (by omega))
  have tr1 : I 0 10 = tr := hX.2.2.2.2.2
  have tr2 : J1 97 41 = tr := hM.2.2.2.2.2.2
  rcases B1 with ⟨k, l, m, c1, B1⟩ | ⟨n1, e1, t1, r1, y1⟩ <;> rcases B2 with ⟨k', l', m', c2, B2⟩ | ⟨n2, e2, rfl⟩
  · obtain ⟨a1, a2, a3, rfl, rfl, rfl⟩ := c1
    obtain ⟨d1, d2, d3, x1, x2, x3⟩ := c2
    have i1 := (nI_eq (by omega) (by omega)).mp x1
    have i2 := (nI_eq (by omega) (by omega)).mp x2
    have i3 := (nI_eq (by omega) (by omega)).mp x3
    subst i1; subst i2; subst i3
    rcases B1 with ⟨bb, tt, s1, e1, r1, t1, y1⟩ | ⟨i, bb, tt, s1, hi, e1, r1, t1, y1⟩ <;> rcases B2 with ⟨bb2, tt2, s2, e2, r2, t2, y2⟩ | ⟨i2, bb2, tt2, s2, hi2, e2, r2, t2, y2⟩
    · have h9 := s1.symm.trans s2
      have j1 : bb = bb2 := congrArg (fun q => q.2.1) h9
      have j2 : tt = tt2 := congrArg (fun q => q.2.2) h9
      subst j1; subst j2
      obtain ⟨v1, v2⟩ := rdS_W hW.1.2.1 hW.1.2.2.2.1 s1
      obtain ⟨v3, v4⟩ := rdS_L hW.1.1 hW.1.2.2.1.2.1 hW.1.2.2.1.2.2.1 s1
      exact ⟨e1.trans e2.symm, fin bb tt _ r1 t1 y1 r2 t2 y2 v1 v3 v4 v2⟩
    · have h9 := congrArg (fun q => q.1) (s1.symm.trans s2)
      cases h9
    · have h9 := congrArg (fun q => q.1) (s1.symm.trans s2)
      cases h9
    · have h9 : i = i2 := Option.some.inj (congrArg (fun q => q.1) (s1.symm.trans s2))
      subst h9
      exact ⟨e1.trans e2.symm, fin (gB G) (gT G) tr r1 t1 (y1.trans tr1) r2 t2 (y2.trans tr2) hW.1.2.1 hW.1.2.2.1.2.1 hW.1.2.2.1.2.2.1 hW.1.2.2.2.1⟩
  · exact absurd ⟨k, l, m, c1⟩ n2
  · exact absurd ⟨k', l', m', c2⟩ n1
  · exact ⟨e1.trans e2.symm, fin (gB G) (gT G) tr r1 t1 (y1.trans tr1) (hM.2.1.qn hM.1) hM.2.1.t tr2 hW.1.2.1 hW.1.2.2.1.2.1 hW.1.2.2.1.2.2.1 hW.1.2.2.2.1⟩
theorem fx_read {I J1 : Mem} {G : GT} {kp : Nat → Bool} {Gi : Nat → GT} {L : Nat} {tb : Nat → Nat} {ln : Nat → Option Nat} {sz : Nat → Nat} {cl : Nat → Nat → Int32} {ft tr : Int32} {x : Int32} {y9 : Int32} {z : Int32} {u : Int32} {v1 : Int32} (h1 : PX_read I (gF G) (gB G) ln sz cl (gT G) x y9 z u v1 J1) : ∀ a, 97 ≤ a → J1 a = I a := by
  obtain ⟨-, f1, -, -⟩ := h1
  exact fun a ha => f1 a (by omega) (by omega) (by omega) (by omega) (by omega)
