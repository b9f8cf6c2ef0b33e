section JS2
variable {I J J1 J2 : Mem} {G G' : GT} {kp : Nat → Bool} {Gi : Nat → GT} {L : Nat} {tb : Nat → Nat} {ln : Nat → Option Nat} {sz : Nat → Nat} {cl : Nat → Nat → Int32} {ft tr : Int32}
/-- what is seen, told: other numbers, the rest as it was -/
theorem gX.st {sn tn : Nat} {sq : Nat → Nat} {sd : Nat → Option Nat} {tl : Nat → Nat} (h : gX I 1 G) (e : ∀ a, 2 ≤ a ∧ a ≤ 9 → J a = I a) (e5 : J 1 5 = I 1 5) (h6 : J 1 6 = nI sn) (hs : ∀ k, k < sn → J 10 k = nI (sq k) ∧ J 11 k = oI (sd k)) (h7 : J 1 7 = nI tn) (ht : ∀ q, q < tn → J 12 q = nI (tl q)) : gX J 1 (gF G, gB G, gT G, (sn, sq, sd), (tn, tl)) :=
  ⟨RR.cong (r := 2) h.1 (fun i hi => e _ (by omega)), BR.cong (s := 6) h.2.1 (fun i hi => e _ (by omega)), e5.trans h.2.2.1, ⟨h6, hs⟩, h7, ht⟩
theorem gM.st {sn tn : Nat} {sq : Nat → Nat} {sd : Nat → Option Nat} {tl : Nat → Nat} (h : gM I 0 G) (hn : rN (gF G) ≤ 6) (e : ∀ z, z < 20 → J 98 z = I 98 z) (h6 : J 98 20 = nI sn) (hs : ∀ k, k < sn → J 98 (21 + 2 * k) = nI (sq k) ∧ J 98 (22 + 2 * k) = oI (sd k)) (h7 : J 98 37 = nI tn) (ht : ∀ q, q < tn → J 98 (38 + q) = nI (tl q)) : gM J 0 (gF G, gB G, gT G, (sn, sq, sd), (tn, tl)) := by
  obtain ⟨h1, h2, h3, h4, h5, -⟩ := h
  refine ⟨fun i hi => ?_, fun w hw => ?_, fun p hp => ?_, ?_, ?_, ⟨h6, fun k hk => ?_⟩, h7, fun q hq => ?_⟩
  · rw [e _ (by omega)]; exact h1 i hi
  · rw [e _ (by omega)]; exact h2 w hw
  · have hp : p < rN (gF G) := hp
    rw [e _ (by omega), e _ (by omega)]; exact h3 p hp
  · rw [e _ (by omega)]; exact h4
  · rw [e _ (by omega)]; exact h5
  · simp only [Nat.zero_add]; exact hs k hk
  · simp only [Nat.zero_add]; exact ht q hq
theorem gM.sqs (h : gM I 0 G) : (∀ k, k < gSn G → I 98 (21 + 2 * k) = nI (gSq G k) ∧ I 98 (22 + 2 * k) = oI (gSd G k)) ∧ ∀ q, q < gTn G → I 98 (38 + q) = nI (gTl G q) := by
  obtain ⟨h1, h2, h3, h4, h5, ⟨h6, h7⟩, h8, h9⟩ := h
  simp only [Nat.zero_add] at h7 h9
  exact ⟨h7, h9⟩
theorem JJ_s {sn tn : Nat} {sq : Nat → Nat} {sd : Nat → Option Nat} {tl : Nat → Nat} (hW : JW G kp Gi) (hX : JX I G kp Gi L tb ln sz cl ft tr) (hM : JM J1 G kp Gi L tb ln sz cl ft tr) (w : sn ≤ 8 ∧ (∀ k, k < sn → sq k < 25 ∧ ∀ z, sd k = some z → z < 2) ∧ tn ≤ 3 ∧ ∀ q, q < tn → tl q < 5)
    (eX : ∀ a, ¬ (a = 1 ∨ (10 ≤ a ∧ a ≤ 12)) → J1 a = I a) (e5 : J1 1 5 = I 1 5) (h6 : J1 1 6 = nI sn) (hs : ∀ k, k < sn → J1 10 k = nI (sq k) ∧ J1 11 k = oI (sd k)) (h7 : J1 1 7 = nI tn) (ht : ∀ q, q < tn → J1 12 q = nI (tl q))
    (eM : ∀ a, a ≠ 98 → J2 a = J1 a) (e98 : ∀ z, z < 20 ∨ 41 ≤ z → J2 98 z = J1 98 z) (m6 : J2 98 20 = nI sn) (ms : ∀ k, k < sn → J2 98 (21 + 2 * k) = nI (sq k) ∧ J2 98 (22 + 2 * k) = oI (sd k)) (m7 : J2 98 37 = nI tn) (mt : ∀ q, q < tn → J2 98 (38 + q) = nI (tl q)) : JJ J2 :=
  JJ_g hW hX hM (G' := (gF G, gB G, gT G, (sn, sq, sd), (tn, tl))) ⟨hW.1.1, hW.1.2.1, hW.1.2.2.1, hW.1.2.2.2.1, ⟨w.1, w.2.1⟩, w.2.2⟩ sF.rfl' (hX.1.st (fun a ha => eX a (by omega)) e5 h6 hs h7 ht) (fun a ha => eX a (by omega)) (hM.2.1.st hW.1.1.2.2.2.2.1 (fun z hz => e98 z (by omega)) m6 ms m7 mt) (fun a ha => eM a (by omega)) (fun z _ => by rw [eM 97 (by decide)]) (fun z hz => e98 z (by omega))
end JS2
def PX_forget (I : Mem) (x : Int32) (v : Int32) (I1 : Mem) : Prop := ((0 ≤ x ∧ x ≤ I 1 6) ∧ v = I 1 6 ∧ wr I 1 6 x = I1) ∨ (¬ (0 ≤ x ∧ x ≤ I 1 6) ∧ v = -1 ∧ I = I1)
def PM_forget (I : Mem) (m : Nat) (x : Int32) (v : Int32) (I1 : Mem) : Prop := (∃ q, (q ≤ m ∧ x = nI q) ∧ v = nI m ∧ wr I 98 20 x = I1) ∨ (¬ (∃ q, (q ≤ m ∧ x = nI q)) ∧ v = -1 ∧ I = I1)
theorem st_forget {I J1 J2 : Mem} {G : GT} {kp : Nat → Bool} {Gi : Nat → GT} {L : Nat} {tb : Nat → Nat} {ln : Nat → Option Nat} {sz : Nat → Nat} {cl : Nat → Nat → Int32} {ft tr : Int32} {x : Int32} {v1 v2 : Int32} (hW : JW G kp Gi) (hX : JX I G kp Gi L tb ln sz cl ft tr) (hM : JM J1 G kp Gi L tb ln sz cl ft tr) (h1 : PX_forget I x v1 J1) (h2 : PM_forget J1 (gSn G) x v2 J2) : v1 = v2 ∧ JJ J2 := by
  have x6 := hX.1.2.2.2.1.1
  have w5 := hW.1.2.2.2.2.1.1
  have mm := hM.2.1.sqs
  rcases h1 with ⟨c1, e1, f1⟩ | ⟨n1, e1, rfl⟩ <;> rcases h2 with ⟨q, ⟨c2, rfl⟩, e2, f2⟩ | ⟨n2, e2, rfl⟩
  · refine ⟨e1.trans (x6.trans e2.symm), ?_⟩
    refine JJ_s (sn := q) (tn := gTn G) (sq := gSq G) (sd := gSd G) (tl := gTl G) hW hX hM ⟨by omega, fun k hk => hW.1.2.2.2.2.1.2 k (by omega), hW.1.2.2.2.2.2⟩ (fun a ha => by rw [← f1, wr_n (by omega)]) (by rw [← f1, wr_sn (by decide)]) (by rw [← f1, wr_ss]) (fun k hk => by rw [← f1, wr_n (by decide), wr_n (by decide)]; exact hX.1.2.2.2.1.2 k (by omega)) (by rw [← f1, wr_sn (by decide)]; exact hX.1.2.2.2.2.1) (fun k hk => by rw [← f1, wr_n (by decide)]; exact hX.1.2.2.2.2.2 k hk) (fun a ha => by rw [← f2, wr_n ha]) (fun z hz => by rw [← f2, wr_sn (by omega)]) (by rw [← f2, wr_ss]) (fun k hk => by rw [← f2, wr_sn (by omega), wr_sn (by omega)]; exact mm.1 k (by omega)) (by rw [← f2, wr_sn (by decide)]; exact hM.2.1.tn) (fun k hk => by rw [← f2, wr_sn (by omega)]; exact mm.2 k hk)
  · rw [x6] at c1
    obtain ⟨q, h3, h4⟩ := ix_le (m := gSn G) (by omega) c1
    exact absurd ⟨q, h3, h4⟩ n2
  · rw [x6] at n1
    exact absurd ⟨nI_pos' (by omega), (nI_leI (by omega) (by omega)).mpr c2⟩ n1
  · exact ⟨e1.trans e2.symm, JJ_q hW hX hM (fun _ _ => rfl) kp_rfl⟩
theorem fx_forget {I J1 : Mem} {G : GT} {kp : Nat → Bool} {Gi : Nat → GT} {L : Nat} {tb : Nat → Nat} {ln : Nat → Option Nat} {sz : Nat → Nat} {cl : Nat → Nat → Int32} {ft tr : Int32} {x : Int32} {v1 : Int32} (h1 : PX_forget I x v1 J1) : ∀ a, 97 ≤ a → J1 a = I a := by
  rcases h1 with ⟨-, -, rfl⟩ | ⟨-, -, rfl⟩
  · exact fun a ha => wr_n (by omega)
  · exact fun _ _ => rfl
def PX_drop (I : Mem) (x : Int32) (v : Int32) (I1 : Mem) : Prop := ((0 ≤ x ∧ x ≤ I 1 7) ∧ v = I 1 7 ∧ wr I 1 7 x = I1) ∨ (¬ (0 ≤ x ∧ x ≤ I 1 7) ∧ v = -1 ∧ I = I1)
def PM_drop (I : Mem) (m : Nat) (x : Int32) (v : Int32) (I1 : Mem) : Prop := (∃ q, (q ≤ m ∧ x = nI q) ∧ v = nI m ∧ wr I 98 37 x = I1) ∨ (¬ (∃ q, (q ≤ m ∧ x = nI q)) ∧ v = -1 ∧ I = I1)
theorem st_drop {I J1 J2 : Mem} {G : GT} {kp : Nat → Bool} {Gi : Nat → GT} {L : Nat} {tb : Nat → Nat} {ln : Nat → Option Nat} {sz : Nat → Nat} {cl : Nat → Nat → Int32} {ft tr : Int32} {x : Int32} {v1 v2 : Int32} (hW : JW G kp Gi) (hX : JX I G kp Gi L tb ln sz cl ft tr) (hM : JM J1 G kp Gi L tb ln sz cl ft tr) (h1 : PX_drop I x v1 J1) (h2 : PM_drop J1 (gTn G) x v2 J2) : v1 = v2 ∧ JJ J2 := by
  have x6 := hX.1.2.2.2.2.1
  have w5 := hW.1.2.2.2.2.2.1
  have mm := hM.2.1.sqs
  rcases h1 with ⟨c1, e1, f1⟩ | ⟨n1, e1, rfl⟩ <;> rcases h2 with ⟨q, ⟨c2, rfl⟩, e2, f2⟩ | ⟨n2, e2, rfl⟩
  · refine ⟨e1.trans (x6.trans e2.symm), ?_⟩
    have w8 := hW.1.2.2.2.2.1.1
    refine JJ_s (sn := gSn G) (tn := q) (sq := gSq G) (sd := gSd G) (tl := gTl G) hW hX hM ⟨hW.1.2.2.2.2.1.1, hW.1.2.2.2.2.1.2, by omega, fun k hk => hW.1.2.2.2.2.2.2 k (by omega)⟩ (fun a ha => by rw [← f1, wr_n (by omega)]) (by rw [← f1, wr_sn (by decide)]) (by rw [← f1, wr_sn (by decide)]; exact hX.1.2.2.2.1.1) (fun k hk => by rw [← f1, wr_n (by decide), wr_n (by decide)]; exact hX.1.2.2.2.1.2 k hk) (by rw [← f1, wr_ss]) (fun k hk => by rw [← f1, wr_n (by decide)]; exact hX.1.2.2.2.2.2 k (by omega)) (fun a ha => by rw [← f2, wr_n ha]) (fun z hz => by rw [← f2, wr_sn (by omega)]) (by rw [← f2, wr_sn (by decide)]; exact hM.2.1.snn) (fun k hk => by rw [← f2, wr_sn (by omega), wr_sn (by omega)]; exact mm.1 k hk) (by rw [← f2, wr_ss]) (fun k hk => by rw [← f2, wr_sn (by omega)]; exact mm.2 k (by omega))
  · rw [x6] at c1
    obtain ⟨q, h3, h4⟩ := ix_le (m := gTn G) (by omega) c1
    exact absurd ⟨q, h3, h4⟩ n2
  · rw [x6] at n1
    exact absurd ⟨nI_pos' (by omega), (nI_leI (by omega) (by omega)).mpr c2⟩ n1
  · exact ⟨e1.trans e2.symm, JJ_q hW hX hM (fun _ _ => rfl) kp_rfl⟩
theorem fx_drop {I J1 : Mem} {G : GT} {kp : Nat → Bool} {Gi : Nat → GT} {L : Nat} {tb : Nat → Nat} {ln : Nat → Option Nat} {sz : Nat → Nat} {cl : Nat → Nat → Int32} {ft tr : Int32} {x : Int32} {v1 : Int32} (h1 : PX_drop I x v1 J1) : ∀ a, 97 ≤ a → J1 a = I a := by
  rcases h1 with ⟨-, -, rfl⟩ | ⟨-, -, rfl⟩
  · exact fun a ha => wr_n (by omega)
  · exact fun _ _ => rfl
def PX_see (I : Mem) (F : RT) (b : BT) (sn : Nat) (sq : Nat → Nat) (sd : Nat → Option Nat) (x z : Int32) (v : Int32) (I1 : Mem) : Prop := (∃ q s9, (q < rW F * rH F ∧ x = nI q ∧ z = oI s9 ∧ ∀ s, s9 = some s → s < 2) ∧ ((sn < 8 ∧ v = nI (sn + 1) ∧ wr (wr (wr I 10 sn x) 11 sn z) 1 6 (nI (sn + 1)) = I1) ∨ (8 ≤ sn ∧ v = -3 ∧ I = I1))) ∨ (¬ (∃ q s9, (q < rW F * rH F ∧ x = nI q ∧ z = oI s9 ∧ ∀ s, s9 = some s → s < 2)) ∧ v = -1 ∧ I = I1)
def PM_see (I : Mem) (F : RT) (b : BT) (sn : Nat) (x z : Int32) (v : Int32) (I1 : Mem) : Prop := (∃ q s9, (q < rW F * rH F ∧ x = nI q ∧ z = oI s9 ∧ ∀ s, s9 = some s → s < 2) ∧ ((sn < 8 ∧ v = nI (sn + 1) ∧ wr (wr (wr I 98 (21 + 2 * sn) x) 98 (22 + 2 * sn) z) 98 20 (nI (sn + 1)) = I1) ∨ (8 ≤ sn ∧ v = -3 ∧ I = I1))) ∨ (¬ (∃ q s9, (q < rW F * rH F ∧ x = nI q ∧ z = oI s9 ∧ ∀ s, s9 = some s → s < 2)) ∧ v = -1 ∧ I = I1)
theorem st_see {I J1 J2 : Mem} {G : GT} {kp : Nat → Bool} {Gi : Nat → GT} {L : Nat} {tb : Nat → Nat} {ln : Nat → Option Nat} {sz : Nat → Nat} {cl : Nat → Nat → Int32} {ft tr : Int32} {x : Int32} {z : Int32} {v1 v2 : Int32} (hW : JW G kp Gi) (hX : JX I G kp Gi L tb ln sz cl ft tr) (hM : JM J1 G kp Gi L tb ln sz cl ft tr) (h1 : PX_see I (gF G) (gB G) (gSn G) (gSq G) (gSd G) x z v1 J1) (h2 : PM_see J1 (gF G) (gB G) (gSn G) x z v2 J2) : v1 = v2 ∧ JJ J2 := by
  have hq := Nat.mul_le_mul hW.1.1.2.1 hW.1.1.2.2.2.1
  have mm := hM.2.1.sqs
  have w5 := hW.1.2.2.2.2.1.1
  have w6 := hW.1.2.2.2.2.2.1
  rcases pr2g h1 h2 (fun a b c d h h' => ⟨nI_u h.2.1 h'.2.1 (by omega) (by omega), oI_inj (fun q hq => by have := h.2.2.2 q hq; omega) (fun q hq => by have := h'.2.2.2 q hq; omega) (h.2.2.1.symm.trans h'.2.2.1)⟩) with ⟨q, s9, ⟨c1, rfl, rfl, c2⟩, B1, B2⟩ | ⟨-, ⟨e1, rfl⟩, e2, rfl⟩
  · rcases B1 with ⟨a1, e1, f1⟩ | ⟨a1, e1, rfl⟩ <;> rcases B2 with ⟨a2, e2, f2⟩ | ⟨a2, e2, rfl⟩
    · refine ⟨e1.trans e2.symm, ?_⟩
      refine JJ_s (sn := gSn G + 1) (tn := gTn G) (sq := fun k => if k = gSn G then q else gSq G k) (sd := fun k => if k = gSn G then s9 else gSd G k) (tl := gTl G) hW hX hM ⟨by omega, fun k hk => ?_, hW.1.2.2.2.2.2⟩ (fun a ha => by rw [← f1, wr_n (by omega), wr_n (by omega), wr_n (by omega)]) (by rw [← f1, wr_sn (by decide), wr_n (by decide), wr_n (by decide)]) (by rw [← f1, wr_ss]) (fun k hk => ?_) (by rw [← f1, wr_sn (by decide), wr_n (by decide), wr_n (by decide)]; exact hX.1.2.2.2.2.1) (fun k hk => by rw [← f1, wr_n (by decide), wr_n (by decide), wr_n (by decide)]; exact hX.1.2.2.2.2.2 k hk) (fun a ha => by rw [← f2, wr_n ha, wr_n ha, wr_n ha]) (fun z hz => by rw [← f2, wr_sn (by omega), wr_sn (by omega), wr_sn (by omega)]) (by rw [← f2, wr_ss]) (fun k hk => ?_) (by rw [← f2, wr_sn (by omega), wr_sn (by omega), wr_sn (by omega)]; exact hM.2.1.tn) (fun k hk => by rw [← f2, wr_sn (by omega), wr_sn (by omega), wr_sn (by omega)]; exact mm.2 k hk)
      · try dsimp only
        by_cases e : k = gSn G
        · rw [if_pos e, if_pos e]; exact ⟨by omega, c2⟩
        · rw [if_neg e, if_neg e]; exact hW.1.2.2.2.2.1.2 k (by omega)
      · try dsimp only
        by_cases e : k = gSn G
        · rw [if_pos e, if_pos e, e]
          refine ⟨?_, ?_⟩
          · rw [← f1, wr_n (by decide), wr_n (by decide)]; exact wr_ss
          · rw [← f1, wr_n (by decide)]; exact wr_ss
        · rw [if_neg e, if_neg e]
          obtain ⟨z1, z2⟩ := hX.1.2.2.2.1.2 k (by omega)
          refine ⟨?_, ?_⟩
          · rw [← f1, wr_n (by decide), wr_n (by decide), wr_sn e]; exact z1
          · rw [← f1, wr_n (by decide), wr_sn e, wr_n (by decide)]; exact z2
      · try dsimp only
        by_cases e : k = gSn G
        · rw [if_pos e, if_pos e, e]
          refine ⟨?_, ?_⟩
          · rw [← f2, wr_sn (by omega), wr_sn (by omega)]; exact wr_ss
          · rw [← f2, wr_sn (by omega)]; exact wr_ss
        · rw [if_neg e, if_neg e]
          obtain ⟨z1, z2⟩ := mm.1 k (by omega)
          refine ⟨?_, ?_⟩
          · rw [← f2, wr_sn (by omega), wr_sn (by omega), wr_sn (by omega)]; exact z1
          · rw [← f2, wr_sn (by omega), wr_sn (by omega), wr_sn (by omega)]; exact z2
    · omega
    · omega
    · exact ⟨e1.trans e2.symm, JJ_q hW hX hM (fun _ _ => rfl) kp_rfl⟩
  · exact ⟨e1.trans e2.symm, JJ_q hW hX hM (fun _ _ => rfl) kp_rfl⟩
theorem fx_see {I J1 : Mem} {G : GT} {kp : Nat → Bool} {Gi : Nat → GT} {L : Nat} {tb : Nat → Nat} {ln : Nat → Option Nat} {sz : Nat → Nat} {cl : Nat → Nat → Int32} {ft tr : Int32} {x : Int32} {z : Int32} {v1 : Int32} (h1 : PX_see I (gF G) (gB G) (gSn G) (gSq G) (gSd G) x z v1 J1) : ∀ a, 97 ≤ a → J1 a = I a := by
  rcases h1 with ⟨q, s9, -, ⟨-, -, rfl⟩ | ⟨-, -, rfl⟩⟩ | ⟨-, -, rfl⟩
  · exact fun a ha => by rw [wr_n (by omega), wr_n (by omega), wr_n (by omega)]
  · exact fun _ _ => rfl
  · exact fun _ _ => rfl
def PX_tell (I : Mem) (tn : Nat) (x : Int32) (v : Int32) (I1 : Mem) : Prop := (∃ w, (w < 5 ∧ x = nI w) ∧ ((tn < 3 ∧ v = nI (tn + 1) ∧ wr (wr I 12 tn x) 1 7 (nI (tn + 1)) = I1) ∨ (3 ≤ tn ∧ v = -3 ∧ I = I1))) ∨ (¬ (∃ w, (w < 5 ∧ x = nI w)) ∧ v = -1 ∧ I = I1)
def PM_tell (I : Mem) (m : Nat) (x : Int32) (v : Int32) (I1 : Mem) : Prop := (∃ w, (w < 5 ∧ x = nI w) ∧ ((m < 3 ∧ v = nI (m + 1) ∧ wr (wr I 98 (38 + m) x) 98 37 (nI (m + 1)) = I1) ∨ (3 ≤ m ∧ v = -3 ∧ I = I1))) ∨ (¬ (∃ w, (w < 5 ∧ x = nI w)) ∧ v = -1 ∧ I = I1)
theorem st_tell {I J1 J2 : Mem} {G : GT} {kp : Nat → Bool} {Gi : Nat → GT} {L : Nat} {tb : Nat → Nat} {ln : Nat → Option Nat} {sz : Nat → Nat} {cl : Nat → Nat → Int32} {ft tr : Int32} {x : Int32} {v1 v2 : Int32} (hW : JW G kp Gi) (hX : JX I G kp Gi L tb ln sz cl ft tr) (hM : JM J1 G kp Gi L tb ln sz cl ft tr) (h1 : PX_tell I (gTn G) x v1 J1) (h2 : PM_tell J1 (gTn G) x v2 J2) : v1 = v2 ∧ JJ J2 := by
  have mm := hM.2.1.sqs
  have w5 := hW.1.2.2.2.2.1.1
  have w6 := hW.1.2.2.2.2.2.1
  rcases pr1 h1 h2 (fun a c h h' => nI_u h.2 h'.2 (by omega) (by omega)) with ⟨q, ⟨c1, rfl⟩, B1, B2⟩ | ⟨-, ⟨e1, rfl⟩, e2, rfl⟩
  · rcases B1 with ⟨a1, e1, f1⟩ | ⟨a1, e1, rfl⟩ <;> rcases B2 with ⟨a2, e2, f2⟩ | ⟨a2, e2, rfl⟩
    · refine ⟨e1.trans e2.symm, ?_⟩
      refine JJ_s (sn := gSn G) (tn := gTn G + 1) (sq := gSq G) (sd := gSd G) (tl := fun k => if k = gTn G then q else gTl G k) hW hX hM ⟨w5, hW.1.2.2.2.2.1.2, by omega, fun k hk => ?_⟩ (fun a ha => by rw [← f1, wr_n (by omega), wr_n (by omega)]) (by rw [← f1, wr_sn (by decide), wr_n (by decide)]) (by rw [← f1, wr_sn (by decide), wr_n (by decide)]; exact hX.1.2.2.2.1.1) (fun k hk => by rw [← f1, wr_n (by decide), wr_n (by decide), wr_n (by decide), wr_n (by decide)]; exact hX.1.2.2.2.1.2 k hk) (by rw [← f1, wr_ss]) (fun k hk => ?_) (fun a ha => by rw [← f2, wr_n ha, wr_n ha]) (fun z hz => by rw [← f2, wr_sn (by omega), wr_sn (by omega)]) (by rw [← f2, wr_sn (by omega), wr_sn (by omega)]; exact hM.2.1.snn) (fun k hk => by rw [← f2, wr_sn (by omega), wr_sn (by omega), wr_sn (by omega), wr_sn (by omega)]; exact mm.1 k hk) (by rw [← f2, wr_ss]) (fun k hk => ?_)
      · try dsimp only
        by_cases e : k = gTn G
        · rw [if_pos e]; exact c1
        · rw [if_neg e]; exact hW.1.2.2.2.2.2.2 k (by omega)
      · try dsimp only
        by_cases e : k = gTn G
        · rw [if_pos e, ← f1, wr_n (by decide), e]; exact wr_ss
        · rw [if_neg e, ← f1, wr_n (by decide), wr_sn e]
          exact hX.1.2.2.2.2.2 k (by omega)
      · try dsimp only
        by_cases e : k = gTn G
        · rw [if_pos e, ← f2, wr_sn (by omega), e]; exact wr_ss
        · rw [if_neg e, ← f2, wr_sn (by omega), wr_sn (by omega)]
          exact mm.2 k (by omega)
    · omega
    · omega
    · exact ⟨e1.trans e2.symm, JJ_q hW hX hM (fun _ _ => rfl) kp_rfl⟩
  · exact ⟨e1.trans e2.symm, JJ_q hW hX hM (fun _ _ => rfl) kp_rfl⟩
theorem fx_tell {I J1 : Mem} {G : GT} {kp : Nat → Bool} {Gi : Nat → GT} {L : Nat} {tb : Nat → Nat} {ln : Nat → Option Nat} {sz : Nat → Nat} {cl : Nat → Nat → Int32} {ft tr : Int32} {x : Int32} {v1 : Int32} (h1 : PX_tell I (gTn G) x v1 J1) : ∀ a, 97 ≤ a → J1 a = I a := by
  rcases h1 with ⟨w, -, ⟨-, -, rfl⟩ | ⟨-, -, rfl⟩⟩ | ⟨-, -, rfl⟩
  · exact fun a ha => by rw [wr_n (by omega), wr_n (by omega)]
  · exact fun _ _ => rfl
  · exact fun _ _ => rfl
def PX_keep (I : Mem) (kp : Nat → Bool) (x : Int32) (v : Int32) (I1 : Mem) : Prop := (∃ k, (k < 2 ∧ x = nI k) ∧ v = bI (kp k = true) ∧ ∃ J, CpG I J (73 + 12 * k) 1 ∧ wr J 14 k 1 = I1) ∨ (¬ (∃ k, (k < 2 ∧ x = nI k)) ∧ v = -1 ∧ I = I1)
def PM_keep (I : Mem) (kp : Nat → Bool) (x : Int32) (v : Int32) (I1 : Mem) : Prop := (∃ k, (k < 2 ∧ x = nI k) ∧ v = bI (kp k = true) ∧ I1 99 = upd (I 99) k 1 ∧ (∀ j, j < 41 → I1 98 (41 * (k + 1) + j) = I 98 j) ∧ (∀ z, z < 41 * (k + 1) ∨ 41 * (k + 1) + 41 ≤ z → I1 98 z = I 98 z) ∧ ∀ i, i ≠ 98 → i ≠ 99 → I1 i = I i) ∨ (¬ (∃ k, (k < 2 ∧ x = nI k)) ∧ v = -1 ∧ I = I1)
theorem st_keep {I J1 J2 : Mem} {G : GT} {kp : Nat → Bool} {Gi : Nat → GT} {L : Nat} {tb : Nat → Nat} {ln : Nat → Option Nat} {sz : Nat → Nat} {cl : Nat → Nat → Int32} {ft tr : Int32} {x : Int32} {v1 v2 : Int32} (hW : JW G kp Gi) (hX : JX I G kp Gi L tb ln sz cl ft tr) (hM : JM J1 G kp Gi L tb ln sz cl ft tr) (h1 : PX_keep I kp x v1 J1) (h2 : PM_keep J1 kp x v2 J2) : v1 = v2 ∧ JJ J2 := by
  rcases pr1 h1 h2 (fun a c h h' => nI_u h.2 h'.2 (by omega) (by omega)) with ⟨k, ⟨c1, rfl⟩, ⟨e1, J, cp, f1⟩, e2, g99, m1, m2, m3⟩ | ⟨-, ⟨e1, rfl⟩, e2, rfl⟩
  · refine ⟨e1.trans e2.symm, ?_⟩
    have cpo := cp.2.2.2
    obtain ⟨kp2, hk2⟩ : ∃ kp2 : Nat → Bool, ∀ j, kp2 j = if j = k then true else kp j := ⟨_, fun _ => rfl⟩
    obtain ⟨Gi2, hG2⟩ : ∃ Gi2 : Nat → GT, ∀ j, Gi2 j = if j = k then G else Gi j := ⟨_, fun _ => rfl⟩
    refine ⟨G, kp2, Gi2, L, tb, ln, sz, cl, ft, tr, ⟨hW.1, fun j hj hp => ?_⟩, ?_, ?_⟩
    · rw [hG2]
      rw [hk2] at hp
      by_cases e : j = k
      · rw [if_pos e]; exact ⟨hW.1, sF.rfl'⟩
      · rw [if_neg e] at hp ⊢; exact hW.2 j hj hp
    · have e0 : ∀ a, a ≠ 14 → ¬ (73 + 12 * k ≤ a ∧ a ≤ 73 + 12 * k + 11) → a < 97 → J2 a = I a := fun a h1 h2 h3 => by rw [m3 a (by omega) (by omega), ← f1, wr_n h1]; exact cpo a h2
      obtain ⟨x1, x2, ⟨h3, h4, h5⟩, h6, h7, h8⟩ := hX
      refine ⟨x1.cong (fun a h1 h2 => e0 a (by omega) (by omega) (by omega)), fun j hj => ?_, ⟨by rw [e0 15 (by omega) (by omega) (by omega)]; exact h3, h4, fun i hi => by rw [e0 16 (by omega) (by omega) (by omega)]; exact h5 i hi⟩, h6.cong (fun i h1 h2 => e0 i (by omega) (by omega) (by omega)), by rw [e0 0 (by omega) (by omega) (by omega)]; exact h7, by rw [e0 0 (by omega) (by omega) (by omega)]; exact h8⟩
      by_cases e : j = k
      · rw [hG2, if_pos e, bI_t (show kp2 j = true by rw [hk2, if_pos e]), e]
        refine ⟨?_, fun _ => ?_⟩
        · rw [m3 14 (by omega) (by omega), ← f1, wr_ss]
        · exact (x1.cp hW.1 cp).cong (fun a h1 h2 => by rw [m3 a (by omega) (by omega), ← f1, wr_n (by omega)])
      · rw [hG2, if_neg e, show kp2 j = kp j by rw [hk2, if_neg e]]
        refine ⟨?_, fun hp => ((x2 j hj).2 hp).cong (fun a h1 h2 => e0 a (by omega) (by omega) (by omega))⟩
        rw [m3 14 (by omega) (by omega), ← f1, wr_sn e, cpo 14 (by omega)]
        exact (x2 j hj).1
    · obtain ⟨y1, y2, y3, y4, y5, y6, y7⟩ := hM
      refine ⟨y1.cong (by rw [m3 97 (by omega) (by omega)]) (by rw [m3 97 (by omega) (by omega)]) (by rw [m3 97 (by omega) (by omega)]) (m3 100 (by omega) (by omega)) (m3 101 (by omega) (by omega)), y2.cong hW.1 (fun j hj => m2 _ (by omega)), fun j hj => ?_, y4.cg (by rw [m3 97 (by omega) (by omega)]) (m3 105 (by omega) (by omega)), fun q hq => ?_, by rw [m3 97 (by omega) (by omega)]; exact y6, by rw [m3 97 (by omega) (by omega)]; exact y7⟩
      · by_cases e : j = k
        · rw [hG2, if_pos e, bI_t (show kp2 j = true by rw [hk2, if_pos e]), e]
          refine ⟨?_, fun _ => y2.cong hW.1 (fun i hi => ?_)⟩
          · rw [g99, upd_s]
          · rw [m1 i hi, Nat.zero_add]
        · rw [hG2, if_neg e, show kp2 j = kp j by rw [hk2, if_neg e]]
          refine ⟨?_, fun hp => ((y3 j hj).2 hp).cong (hW.2 j hj hp).1 (fun i hi => m2 _ (by omega))⟩
          rw [g99, upd_n e]; exact (y3 j hj).1
      · obtain ⟨a1, a2, a3, a4, a5⟩ := y5 q hq
        exact ⟨by rw [m3 115 (by omega) (by omega)]; exact a1, by rw [m3 116 (by omega) (by omega)]; exact a2, a3, a4, fun i hi => by rw [m3 117 (by omega) (by omega)]; exact a5 i hi⟩
  · exact ⟨e1.trans e2.symm, JJ_q hW hX hM (fun _ _ => rfl) kp_rfl⟩
theorem fx_keep {I J1 : Mem} {G : GT} {kp : Nat → Bool} {Gi : Nat → GT} {L : Nat} {tb : Nat → Nat} {ln : Nat → Option Nat} {sz : Nat → Nat} {cl : Nat → Nat → Int32} {ft tr : Int32} {x : Int32} {v1 : Int32} (h1 : PX_keep I kp x v1 J1) : ∀ a, 97 ≤ a → J1 a = I a := by
  rcases h1 with ⟨k, ⟨c, -⟩, -, J, cp, rfl⟩ | ⟨-, -, rfl⟩
  · exact fun a ha => by rw [wr_n (by omega)]; exact cp.2.2.2 a (by omega)
  · exact fun _ _ => rfl
def PX_back (I : Mem) (kp : Nat → Bool) (x : Int32) (v : Int32) (I1 : Mem) : Prop := (∃ k, (k < 2 ∧ x = nI k) ∧ ((kp k = false ∧ v = -2 ∧ I = I1) ∨ (kp k = true ∧ v = I (73 + 12 * k) 5 ∧ CpG I I1 1 (73 + 12 * k)))) ∨ (¬ (∃ k, (k < 2 ∧ x = nI k)) ∧ v = -1 ∧ I = I1)
def PM_back (I : Mem) (kp : Nat → Bool) (x : Int32) (v : Int32) (I1 : Mem) : Prop := (∃ k, (k < 2 ∧ x = nI k) ∧ ((kp k = false ∧ v = -2 ∧ I = I1) ∨ (kp k = true ∧ v = I 98 (41 * (k + 1) + 19) ∧ (∀ j, j < 41 → I1 98 j = I 98 (41 * (k + 1) + j)) ∧ (∀ z, 41 ≤ z → I1 98 z = I 98 z) ∧ ∀ i, i ≠ 98 → I1 i = I i))) ∨ (¬ (∃ k, (k < 2 ∧ x = nI k)) ∧ v = -1 ∧ I = I1)
theorem st_back {I J1 J2 : Mem} {G : GT} {kp : Nat → Bool} {Gi : Nat → GT} {L : Nat} {tb : Nat → Nat} {ln : Nat → Option Nat} {sz : Nat → Nat} {cl : Nat → Nat → Int32} {ft tr : Int32} {x : Int32} {v1 v2 : Int32} (hW : JW G kp Gi) (hX : JX I G kp Gi L tb ln sz cl ft tr) (hM : JM J1 G kp Gi L tb ln sz cl ft tr) (h1 : PX_back I kp x v1 J1) (h2 : PM_back J1 kp x v2 J2) : v1 = v2 ∧ JJ J2 := by
  rcases pr1 h1 h2 (fun a c h h' => nI_u h.2 h'.2 (by omega) (by omega)) with ⟨k, ⟨c1, rfl⟩, B1, B2⟩ | ⟨-, ⟨e1, rfl⟩, e2, rfl⟩
  · rcases B1 with ⟨a1, e1, rfl⟩ | ⟨a1, e1, cp⟩ <;> rcases B2 with ⟨a2, e2, rfl⟩ | ⟨a2, e2, m1, m2, m3⟩
    · exact ⟨e1.trans e2.symm, JJ_q hW hX hM (fun _ _ => rfl) kp_rfl⟩
    · rw [a1] at a2; cases a2
    · rw [a1] at a2; cases a2
    · have xi := (hX.2.1 k c1).2 a1
      have mi := (hM.2.2.1 k c1).2 a1
      have wi := hW.2 k c1 a1
      refine ⟨e1.trans (xi.2.2.1.trans (mi.2.2.2.2.1.symm.trans e2.symm)), ?_⟩
      exact JJ_g hW hX hM wi.1 wi.2 (xi.cp wi.1 cp) (fun a ha => cp.2.2.2 a (by omega)) (mi.cong wi.1 (fun j hj => by rw [Nat.zero_add]; exact m1 j hj)) (fun a ha => m3 a (by omega)) (fun z _ => by rw [m3 97 (by decide)]) m2
  · exact ⟨e1.trans e2.symm, JJ_q hW hX hM (fun _ _ => rfl) kp_rfl⟩
theorem fx_back {I J1 : Mem} {G : GT} {kp : Nat → Bool} {Gi : Nat → GT} {L : Nat} {tb : Nat → Nat} {ln : Nat → Option Nat} {sz : Nat → Nat} {cl : Nat → Nat → Int32} {ft tr : Int32} {x : Int32} {v1 : Int32} (h1 : PX_back I kp x v1 J1) : ∀ a, 97 ≤ a → J1 a = I a := by
  rcases h1 with ⟨k, -, ⟨-, -, rfl⟩ | ⟨-, -, cp⟩⟩ | ⟨-, -, rfl⟩
  · exact fun _ _ => rfl
  · exact fun a ha => cp.2.2.2 a (by omega)
  · exact fun _ _ => rfl
