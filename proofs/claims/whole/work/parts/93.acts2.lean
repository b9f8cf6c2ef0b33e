def PX_oil (I : Mem) (F : RT) (b : BT) (x z : Int32) (v : Int32) (I1 : Mem) : Prop := (∃ p q, (p < rN F ∧ q ≤ 9 ∧ x = nI p ∧ z = nI q) ∧ v = nI (bO b p) ∧ wr I 8 p z = I1) ∨ (¬ (∃ p q, (p < rN F ∧ q ≤ 9 ∧ x = nI p ∧ z = nI q)) ∧ v = -1 ∧ I = I1)
def PM_oil (I : Mem) (F : RT) (b : BT) (x z : Int32) (v : Int32) (I1 : Mem) : Prop := (∃ p q, (p < rN F ∧ q ≤ 9 ∧ x = nI p ∧ z = nI q) ∧ v = nI (bO b p) ∧ wr I 98 (6 + p) z = I1) ∨ (¬ (∃ p q, (p < rN F ∧ q ≤ 9 ∧ x = nI p ∧ z = nI q)) ∧ v = -1 ∧ I = I1)
theorem st_oil {I J1 J2 : Mem} {G : GT} {kp : Nat → Bool} {Gi : Nat → GT} {L : Nat} {tb : Nat → Nat} {ln : Nat → Option Nat} {sz : Nat → Nat} {cl : Nat → Nat → Int32} {ft tr : Int32} {x : Int32} {z : Int32} {v1 v2 : Int32} (hW : JW G kp Gi) (hX : JX I G kp Gi L tb ln sz cl ft tr) (hM : JM J1 G kp Gi L tb ln sz cl ft tr) (h1 : PX_oil I (gF G) (gB G) x z v1 J1) (h2 : PM_oil J1 (gF G) (gB G) x z v2 J2) : v1 = v2 ∧ JJ J2 := by
  rcases pr2 h1 h2 (fun a b c d h h' => ⟨nI_u h.2.2.1 h'.2.2.1 (by have := hW.1.1.2.2.2.2.1; omega) (by have := hW.1.1.2.2.2.2.1; omega), nI_u h.2.2.2 h'.2.2.2 (by omega) (by omega)⟩) with ⟨p, q, ⟨c1, c2, rfl, rfl⟩, ⟨e1, f1⟩, e2, f2⟩ | ⟨-, ⟨e1, rfl⟩, e2, rfl⟩
  · refine ⟨e1.trans e2.symm, ?_⟩
    obtain ⟨b', hb'⟩ : ∃ b' : BT, b' = (bP (gB G), (fun y => if y = p then q else bO (gB G) y), bM (gB G)) := ⟨_, rfl⟩
    have hP : ∀ y, bP b' y = bP (gB G) y := fun y => by rw [hb']; rfl
    have hO : ∀ y, bO b' y = if y = p then q else bO (gB G) y := fun y => by rw [hb']; rfl
    have hMm : bM b' = bM (gB G) := by rw [hb']; rfl
    have hn := hW.1.1.2.2.2.2.1
    obtain ⟨r1, r2, r3⟩ := hX.1.2.1
    obtain ⟨w1, w2, w3⟩ := hW.1.2.1
    have hbw : BW (gF G) b' := ⟨by rw [hMm]; exact w1, fun y hy => by rw [hP, hO]; exact ⟨(w2 y hy).1, by split; exact c2; exact (w2 y hy).2⟩, fun y y' i hy hy' a b => by rw [hP] at a b; exact w3 y y' i hy hy' a b⟩
    have hbr : BR J1 6 (gF G) b' := by
      refine ⟨?_, fun y hy => ⟨?_, ?_⟩, fun sd hs i hi => ?_⟩
      · rw [← f1, wr_n (by decide), hMm]; exact r1
      · rw [← f1, wr_n (by decide), hP]; exact (r2 y hy).1
      · rw [← f1, hO]
        by_cases e : y = p
        · subst e; rw [if_pos rfl]; exact wr_ss
        · rw [if_neg e]; exact (wr_sn e).trans (r2 y hy).2
      · rw [← f1, wr_n (by decide)]
        refine (r3 sd hs i hi).trans ?_
        unfold helB
        rw [hb']; rfl
    have gm := hM.2.1.qn hM.1
    refine JJ_g hW hX hM (wb_of hW.1 rfl hbw (fun x y hx hy kx ky ex ey => hW.1.2.2.1.2.1 x y hx hy kx ky (by rw [← hP]; exact ex) (by rw [← hP]; exact ey)) (fun x i hx ex => hW.1.2.2.1.2.2.1 x i hx (by rw [← hP]; exact ex)) hW.1.2.2.2.1) sF.rfl' (hX.1.bd hbr (by rw [← f1, wr_n (by decide)]; exact hX.1.2.2.1) (by rw [← f1, wr_n (by decide)]) (by rw [← f1, wr_n (by decide)]) (fun a ha => by rw [← f1, wr_n (by omega)])) (fun a ha => by rw [← f1, wr_n (by omega)]) (hM.2.1.bd hW.1 (fun y hy => ⟨?_, ?_⟩) ?_ ?_ (fun z h1 h2 h3 => by rw [← f2, wr_sn (by omega)])) (fun a ha => by rw [← f2, wr_n (by omega)]) (fun z hz => by rw [← f2, wr_n (by decide)]) (fun z hz => by rw [← f2, wr_sn (by omega)])
    · rw [← f2, wr_sn (by omega), hP]; exact (gm.2.2.1 y hy).1
    · rw [← f2, hO]
      by_cases e : y = p
      · subst e; rw [if_pos rfl]; exact wr_ss
      · rw [if_neg e, wr_sn (by omega)]; exact (gm.2.2.1 y hy).2
    · rw [← f2, wr_sn (by omega), hMm]; exact gm.2.2.2
    · rw [← f2, wr_sn (by omega)]; exact hM.2.1.t
  · exact ⟨e1.trans e2.symm, JJ_q hW hX hM (fun _ _ => rfl) kp_rfl⟩
theorem fx_oil {I J1 : Mem} {G : GT} {kp : Nat → Bool} {Gi : Nat → GT} {L : Nat} {tb : Nat → Nat} {ln : Nat → Option Nat} {sz : Nat → Nat} {cl : Nat → Nat → Int32} {ft tr : Int32} {x : Int32} {z : Int32} {v1 : Int32} (h1 : PX_oil I (gF G) (gB G) x z v1 J1) : ∀ a, 97 ≤ a → J1 a = I a := by
  rcases h1 with ⟨p, q, -, -, rfl⟩ | ⟨-, -, rfl⟩
  · exact fun a ha => wr_n (by omega)
  · exact fun _ _ => rfl
def PX_put (I : Mem) (F : RT) (b : BT) (x z : Int32) (v : Int32) (I1 : Mem) : Prop := (∃ p q, (p < rN F ∧ q < rW F * rH F ∧ x = nI p ∧ z = nI q ∧ rS F q = false ∧ (pon F b q = none ∨ pon F b q = some p)) ∧ v = oI (bP b p) ∧ BR I1 (1 + 5) F (setP b p (some q)) ∧ ∀ i, i ≠ 7 → i ≠ 9 → I1 i = I i) ∨ (¬ (∃ p q, (p < rN F ∧ q < rW F * rH F ∧ x = nI p ∧ z = nI q ∧ rS F q = false ∧ (pon F b q = none ∨ pon F b q = some p))) ∧ v = -1 ∧ I = I1)
def PM_put (I : Mem) (F : RT) (b : BT) (x z : Int32) (v : Int32) (I1 : Mem) : Prop := (∃ p q, (p < rN F ∧ q < rW F * rH F ∧ x = nI p ∧ z = nI q ∧ rS F q = false ∧ (pon F b q = none ∨ pon F b q = some p)) ∧ v = oI (bP b p) ∧ ∃ J, Kp I J ∧ wr J 98 p z = I1) ∨ (¬ (∃ p q, (p < rN F ∧ q < rW F * rH F ∧ x = nI p ∧ z = nI q ∧ rS F q = false ∧ (pon F b q = none ∨ pon F b q = some p))) ∧ v = -1 ∧ Kp I I1)
theorem st_put {I J1 J2 : Mem} {G : GT} {kp : Nat → Bool} {Gi : Nat → GT} {L : Nat} {tb : Nat → Nat} {ln : Nat → Option Nat} {sz : Nat → Nat} {cl : Nat → Nat → Int32} {ft tr : Int32} {x : Int32} {z : Int32} {v1 v2 : Int32} (hW : JW G kp Gi) (hX : JX I G kp Gi L tb ln sz cl ft tr) (hM : JM J1 G kp Gi L tb ln sz cl ft tr) (h1 : PX_put I (gF G) (gB G) x z v1 J1) (h2 : PM_put J1 (gF G) (gB G) x z v2 J2) : v1 = v2 ∧ JJ J2 := by
  rcases pr2 h1 h2 (fun a b c d h h' => ⟨nI_u h.2.2.1 h'.2.2.1 (by have := hW.1.1.2.2.2.2.1; omega) (by have := hW.1.1.2.2.2.2.1; omega), nI_u h.2.2.2.1 h'.2.2.2.1 (by have := Nat.mul_le_mul hW.1.1.2.1 hW.1.1.2.2.2.1; omega) (by have := Nat.mul_le_mul hW.1.1.2.1 hW.1.1.2.2.2.1; omega)⟩) with ⟨p, q, ⟨c1, c2, rfl, rfl, c3, c4⟩, ⟨e1, hbr, f1⟩, e2, J, k, f2⟩ | ⟨-, ⟨e1, rfl⟩, e2, k⟩
  · refine ⟨e1.trans e2.symm, ?_⟩
    have hn := hW.1.1.2.2.2.2.1
    have hq := Nat.mul_le_mul hW.1.1.2.1 hW.1.1.2.2.2.1
    have hbw : BW (gF G) (setP (gB G) p (some q)) := hW.1.2.1.setS (by omega) (fun x hx hxp e => by
      rcases c4 with h | h
      · have := findP_none' h x hx
        rw [e] at this
        simp at this
      · obtain ⟨h1, h2, -⟩ := findP_spec h
        exact hxp (hW.1.2.1.2.2 x p q hx h1 e (eq_of_beq h2)))
    have gm := hM.2.1.qn hM.1
    have e98 : ∀ z, z ≠ p → J2 98 z = J1 98 z := fun z hz => by rw [← f2, wr_sn hz, k.2 98 (by omega)]
    refine JJ_g hW hX hM (wb_of hW.1 rfl hbw (L1_setP hW.1.2.2.1.2.1) (PW_setP hW.1.2.2.1.2.2.1 c2) hW.1.2.2.2.1) sF.rfl' (hX.1.bd hbr (by rw [f1 1 (by decide) (by decide)]; exact hX.1.2.2.1) (by rw [f1 1 (by decide) (by decide)]) (by rw [f1 1 (by decide) (by decide)]) (fun a ha => f1 a (by omega) (by omega))) (fun a ha => f1 a (by omega) (by omega)) (hM.2.1.bd hW.1 (fun y hy => ⟨?_, ?_⟩) ?_ ?_ (fun z h1 h2 h3 => e98 z (by omega))) (fun a ha => by rw [← f2, wr_n (by omega)]; exact k.2 a (by omega)) (fun z hz => by rw [← f2, wr_n (by decide)]; exact k.1 z hz) (fun z hz => e98 z (by omega))
    · show J2 98 y = oI (if y = p then some q else bP (gB G) y)
      by_cases e : y = p
      · subst e; rw [if_pos rfl, ← f2]; exact wr_ss
      · rw [if_neg e, e98 y e]; exact (gm.2.2.1 y hy).1
    · rw [e98 _ (by omega)]; exact (gm.2.2.1 y hy).2
    · rw [e98 _ (by omega)]; exact gm.2.2.2
    · rw [e98 _ (by omega)]; exact hM.2.1.t
  · exact ⟨e1.trans e2.symm, JJ_q hW hX hM (fun _ _ => rfl) k⟩
theorem fx_put {I J1 : Mem} {G : GT} {kp : Nat → Bool} {Gi : Nat → GT} {L : Nat} {tb : Nat → Nat} {ln : Nat → Option Nat} {sz : Nat → Nat} {cl : Nat → Nat → Int32} {ft tr : Int32} {x : Int32} {z : Int32} {v1 : Int32} (h1 : PX_put I (gF G) (gB G) x z v1 J1) : ∀ a, 97 ≤ a → J1 a = I a := by
  rcases h1 with ⟨p, q, -, -, -, f⟩ | ⟨-, -, rfl⟩
  · exact fun a ha => f a (by omega) (by omega)
  · exact fun _ _ => rfl
def PX_steeple (I : Mem) (F : RT) (b : BT) (x z : Int32) (v : Int32) (I1 : Mem) : Prop := (∃ q, (q < rW F * rH F ∧ x = nI q ∧ pon F b q = none) ∧ v = bI (rS F q = true) ∧ wr I 2 5 (if z = 0 then I 2 5 &&& (bitO x ^^^ (-1)) else I 2 5 ||| bitO x) = I1) ∨ (¬ (∃ q, (q < rW F * rH F ∧ x = nI q ∧ pon F b q = none)) ∧ v = -1 ∧ I = I1)
def PM_steeple (I : Mem) (F : RT) (b : BT) (x z : Int32) (v : Int32) (I1 : Mem) : Prop := (∃ q, (q < rW F * rH F ∧ x = nI q ∧ pon F b q = none) ∧ v = bI (rS F q = true) ∧ ∃ J y, Kp I J ∧ wr J 98 12 y = I1 ∧ ∀ i, i < 32 → bt y i = (if z = 0 then (rS F i && !(some q == some i)) else (rS F i || (some q == some i)))) ∨ (¬ (∃ q, (q < rW F * rH F ∧ x = nI q ∧ pon F b q = none)) ∧ v = -1 ∧ Kp I I1)
theorem st_steeple {I J1 J2 : Mem} {G : GT} {kp : Nat → Bool} {Gi : Nat → GT} {L : Nat} {tb : Nat → Nat} {ln : Nat → Option Nat} {sz : Nat → Nat} {cl : Nat → Nat → Int32} {ft tr : Int32} {x : Int32} {z : Int32} {v1 v2 : Int32} (hW : JW G kp Gi) (hX : JX I G kp Gi L tb ln sz cl ft tr) (hM : JM J1 G kp Gi L tb ln sz cl ft tr) (h1 : PX_steeple I (gF G) (gB G) x z v1 J1) (h2 : PM_steeple J1 (gF G) (gB G) x z v2 J2) : v1 = v2 ∧ JJ J2 := by
  have hq := Nat.mul_le_mul hW.1.1.2.1 hW.1.1.2.2.2.1
  rcases pr1 h1 h2 (fun a c h h' => nI_u h.2.1 h'.2.1 (by omega) (by omega)) with ⟨q, ⟨c1, rfl, c2⟩, ⟨e1, f1⟩, e2, J, y, k, f2, hy⟩ | ⟨-, ⟨e1, rfl⟩, e2, k⟩
  · refine ⟨e1.trans e2.symm, ?_⟩
    have hn := hW.1.1.2.2.2.2.1
    obtain ⟨F', hF'⟩ : ∃ F' : RT, F' = stS (gF G) (fun i => if z = 0 then (rS (gF G) i && !(some q == some i)) else (rS (gF G) i || (some q == some i))) := ⟨_, rfl⟩
    have s : sF (gF G) F' := by rw [hF']; exact ⟨rfl, rfl, rfl, rfl, rfl⟩
    have hS : ∀ i, rS F' i = if z = 0 then (rS (gF G) i && !(some q == some i)) else (rS (gF G) i || (some q == some i)) := fun i => by rw [hF']; rfl
    have hO : rOd F' = rOd (gF G) := by rw [hF']; rfl
    obtain ⟨r1, r2, r3, r4, r5, r6⟩ := hX.1.1
    obtain ⟨w1, w2, w3, w4, w5, w6, w7, w8⟩ := hW.1.1
    have hbit : ∀ i, i < 32 → bt (bitO (nI q)) i = (some q == some i) := fun i hi => bitO_at (a := some q) (fun x hx => by cases hx; omega) hi
    have hrw : RW F' := by
      refine ⟨by rw [s.1]; exact w1, by rw [s.1]; exact w2, by rw [s.2.1]; exact w3, by rw [s.2.1]; exact w4, by rw [s.2.2.1]; exact w5, fun p hp => by rw [s.2.2.2.1, s.2.2.2.2]; exact w6 p (by rw [← s.2.2.1]; exact hp), fun w hw => by rw [hO]; exact w7 w hw, fun i hi => ?_⟩
      rw [hS] at hi
      split at hi
      · rw [Bool.and_eq_true] at hi; exact w8 i hi.1
      · rw [Bool.or_eq_true] at hi
        rcases hi with h | h
        · exact w8 i h
        · have : some q = some i := eq_of_beq h
          cases this; omega
    have hbits : ∀ i, i < 32 → bt (if z = 0 then I 2 5 &&& (bitO (nI q) ^^^ (-1)) else I 2 5 ||| bitO (nI q)) i = rS F' i := by
      intro i hi
      rw [hS]
      by_cases e : z = 0
      · rw [if_pos e, if_pos e, b_and, b_xor, b_m1 i hi, hbit i hi, show bt (I 2 5) i = rS (gF G) i from r4 i hi, Bool.xor_true]
      · rw [if_neg e, if_neg e, b_or, hbit i hi, show bt (I 2 5) i = rS (gF G) i from r4 i hi]
    have hrr : RR J1 2 F' := by
      refine ⟨?_, ?_, ?_, fun i hi => ?_, fun p hp => ?_, fun w hw => ?_⟩
      · rw [← f1, wr_sn (by decide), s.1]; exact r1
      · rw [← f1, wr_sn (by decide), s.2.1]; exact r2
      · rw [← f1, wr_sn (by decide), s.2.2.1]; exact r3
      · rw [← f1, wr_ss]; exact hbits i hi
      · rw [← f1, wr_n (by decide), wr_n (by decide), s.2.2.2.1, s.2.2.2.2]; exact r5 p (by rw [← s.2.2.1]; exact hp)
      · rw [← f1, wr_n (by decide), hO]; exact r6 w hw
    have gw : gW (F', G.2) := ⟨hrw, hW.1.2.1.same s, ⟨hW.1.2.2.1.1.same s, hW.1.2.2.1.2.1.same s, hW.1.2.2.1.2.2.1.same s, by show 0 < allO F'; unfold allO; rw [hO]; exact hW.1.2.2.1.2.2.2.1, by show 1 ≤ rN F'; rw [s.2.2.1]; exact hW.1.2.2.1.2.2.2.2⟩, hW.1.2.2.2⟩
    have e98 : ∀ z, z ≠ 12 → J2 98 z = J1 98 z := fun z hz => by rw [← f2, wr_sn hz, k.2 98 (by omega)]
    refine JJ_g hW hX hM gw s (hX.1.rf hrr s (fun a ha => by rw [← f1, wr_n (by omega)])) (fun a ha => by rw [← f1, wr_n (by omega)]) (hM.2.1.rf hn s (fun i hi => ?_) (fun w hw => ?_) (fun z hz => e98 z (by omega))) (fun a ha => by rw [← f2, wr_n (by omega)]; exact k.2 a (by omega)) (fun z hz => by rw [← f2, wr_n (by decide)]; exact k.1 z hz) (fun z hz => e98 z (by omega))
    · rw [← f2, wr_ss, hS]; exact hy i hi
    · rw [e98 _ (by omega), hO]; exact (hM.2.1.qn hM.1).2.1.2 w hw
  · exact ⟨e1.trans e2.symm, JJ_q hW hX hM (fun _ _ => rfl) k⟩
theorem fx_steeple {I J1 : Mem} {G : GT} {kp : Nat → Bool} {Gi : Nat → GT} {L : Nat} {tb : Nat → Nat} {ln : Nat → Option Nat} {sz : Nat → Nat} {cl : Nat → Nat → Int32} {ft tr : Int32} {x : Int32} {z : Int32} {v1 : Int32} (h1 : PX_steeple I (gF G) (gB G) x z v1 J1) : ∀ a, 97 ≤ a → J1 a = I a := by
  rcases h1 with ⟨q, -, -, rfl⟩ | ⟨-, -, rfl⟩
  · exact fun a ha => wr_n (by omega)
  · exact fun _ _ => rfl
def PX_weigh (I : Mem) (F : RT) (b : BT) (x z : Int32) (v : Int32) (I1 : Mem) : Prop := (∃ w q, (w < 5 ∧ q ≤ 9 ∧ x = nI w ∧ z = nI q ∧ allO F - rOd F w + q ≠ 0) ∧ v = nI (rOd F w) ∧ wr I 5 w z = I1) ∨ (¬ (∃ w q, (w < 5 ∧ q ≤ 9 ∧ x = nI w ∧ z = nI q ∧ allO F - rOd F w + q ≠ 0)) ∧ v = -1 ∧ I = I1)
def PM_weigh (I : Mem) (F : RT) (b : BT) (x z : Int32) (v : Int32) (I1 : Mem) : Prop := (∃ w q, (w < 5 ∧ q ≤ 9 ∧ x = nI w ∧ z = nI q ∧ allO F - rOd F w + q ≠ 0) ∧ v = nI (rOd F w) ∧ wr I 98 (13 + w) z = I1) ∨ (¬ (∃ w q, (w < 5 ∧ q ≤ 9 ∧ x = nI w ∧ z = nI q ∧ allO F - rOd F w + q ≠ 0)) ∧ v = -1 ∧ I = I1)
theorem st_weigh {I J1 J2 : Mem} {G : GT} {kp : Nat → Bool} {Gi : Nat → GT} {L : Nat} {tb : Nat → Nat} {ln : Nat → Option Nat} {sz : Nat → Nat} {cl : Nat → Nat → Int32} {ft tr : Int32} {x : Int32} {z : Int32} {v1 v2 : Int32} (hW : JW G kp Gi) (hX : JX I G kp Gi L tb ln sz cl ft tr) (hM : JM J1 G kp Gi L tb ln sz cl ft tr) (h1 : PX_weigh I (gF G) (gB G) x z v1 J1) (h2 : PM_weigh J1 (gF G) (gB G) x z v2 J2) : v1 = v2 ∧ JJ J2 := by
  rcases pr2 h1 h2 (fun a b c d h h' => ⟨nI_u h.2.2.1 h'.2.2.1 (by omega) (by omega), nI_u h.2.2.2.1 h'.2.2.2.1 (by omega) (by omega)⟩) with ⟨w9, q, ⟨c1, c2, rfl, rfl, c3⟩, ⟨e1, f1⟩, e2, f2⟩ | ⟨-, ⟨e1, rfl⟩, e2, rfl⟩
  · refine ⟨e1.trans e2.symm, ?_⟩
    have hn := hW.1.1.2.2.2.2.1
    obtain ⟨F', hF'⟩ : ∃ F' : RT, F' = stO (gF G) (fun y => if y = w9 then q else rOd (gF G) y) := ⟨_, rfl⟩
    have s : sF (gF G) F' := by rw [hF']; exact ⟨rfl, rfl, rfl, rfl, rfl⟩
    have hS : rS F' = rS (gF G) := by rw [hF']; rfl
    have hO : ∀ y, rOd F' y = if y = w9 then q else rOd (gF G) y := fun y => by rw [hF']; rfl
    have hA : 0 < allO F' := by
      have h3 : allO F' + rOd (gF G) w9 = allO (gF G) + q := by rw [hF']; exact smP_st c1
      have h4 : rOd (gF G) w9 ≤ allO (gF G) := smP_at c1
      omega
    obtain ⟨r1, r2, r3, r4, r5, r6⟩ := hX.1.1
    obtain ⟨w1, w2, w3, w4, w5, w6, w7, w8⟩ := hW.1.1
    have hrw : RW F' := ⟨by rw [s.1]; exact w1, by rw [s.1]; exact w2, by rw [s.2.1]; exact w3, by rw [s.2.1]; exact w4, by rw [s.2.2.1]; exact w5, fun p hp => by rw [s.2.2.2.1, s.2.2.2.2]; exact w6 p (by rw [← s.2.2.1]; exact hp), fun w hw => by rw [hO]; split; exact c2; exact w7 w hw, fun i hi => by rw [hS] at hi; exact w8 i hi⟩
    have hrr : RR J1 2 F' := by
      refine ⟨?_, ?_, ?_, fun i hi => ?_, fun p hp => ?_, fun w hw => ?_⟩
      · rw [← f1, wr_n (by decide), s.1]; exact r1
      · rw [← f1, wr_n (by decide), s.2.1]; exact r2
      · rw [← f1, wr_n (by decide), s.2.2.1]; exact r3
      · rw [← f1, wr_n (by decide), hS]; exact r4 i hi
      · rw [← f1, wr_n (by decide), wr_n (by decide), s.2.2.2.1, s.2.2.2.2]; exact r5 p (by rw [← s.2.2.1]; exact hp)
      · rw [← f1, hO]
        by_cases e : w = w9
        · subst e; rw [if_pos rfl]; exact wr_ss
        · rw [if_neg e]; exact (wr_sn e).trans (r6 w hw)
    have gw : gW (F', G.2) := ⟨hrw, hW.1.2.1.same s, ⟨hW.1.2.2.1.1.same s, hW.1.2.2.1.2.1.same s, hW.1.2.2.1.2.2.1.same s, hA, by show 1 ≤ rN F'; rw [s.2.2.1]; exact hW.1.2.2.1.2.2.2.2⟩, hW.1.2.2.2⟩
    refine JJ_g hW hX hM gw s (hX.1.rf hrr s (fun a ha => by rw [← f1, wr_n (by omega)])) (fun a ha => by rw [← f1, wr_n (by omega)]) (hM.2.1.rf hn s (fun i hi => ?_) (fun w hw => ?_) (fun z hz => by rw [← f2, wr_sn (by omega)])) (fun a ha => by rw [← f2, wr_n (by omega)]) (fun z hz => by rw [← f2, wr_n (by decide)]) (fun z hz => by rw [← f2, wr_sn (by omega)])
    · rw [← f2, wr_sn (by omega), hS]; exact (hM.2.1.qn hM.1).2.1.1 i hi
    · rw [← f2, hO]
      by_cases e : w = w9
      · subst e; rw [if_pos rfl]; exact wr_ss
      · rw [if_neg e, wr_sn (by omega)]; exact (hM.2.1.qn hM.1).2.1.2 w hw
  · exact ⟨e1.trans e2.symm, JJ_q hW hX hM (fun _ _ => rfl) kp_rfl⟩
theorem fx_weigh {I J1 : Mem} {G : GT} {kp : Nat → Bool} {Gi : Nat → GT} {L : Nat} {tb : Nat → Nat} {ln : Nat → Option Nat} {sz : Nat → Nat} {cl : Nat → Nat → Int32} {ft tr : Int32} {x : Int32} {z : Int32} {v1 : Int32} (h1 : PX_weigh I (gF G) (gB G) x z v1 J1) : ∀ a, 97 ≤ a → J1 a = I a := by
  rcases h1 with ⟨p, q, -, -, rfl⟩ | ⟨-, -, rfl⟩
  · exact fun a ha => wr_n (by omega)
  · exact fun _ _ => rfl
def PX_turn (I : Mem) (x : Int32) (v : Int32) (I1 : Mem) : Prop := ((0 ≤ x ∧ x < 2) ∧ v = I (1 + 5) 3 ∧ wr I (1 + 5) 3 x = I1) ∨ (¬ (0 ≤ x ∧ x < 2) ∧ v = -1 ∧ I = I1)
def PM_turn (I : Mem) (x : Int32) (v : Int32) (I1 : Mem) : Prop := ((0 ≤ x ∧ x < 2) ∧ v = I 98 18 ∧ wr I 98 18 x = I1) ∨ (¬ (0 ≤ x ∧ x < 2) ∧ v = -1 ∧ I = I1)
theorem st_turn {I J1 J2 : Mem} {G : GT} {kp : Nat → Bool} {Gi : Nat → GT} {L : Nat} {tb : Nat → Nat} {ln : Nat → Option Nat} {sz : Nat → Nat} {cl : Nat → Nat → Int32} {ft tr : Int32} {x : Int32} {v1 v2 : Int32} (hW : JW G kp Gi) (hX : JX I G kp Gi L tb ln sz cl ft tr) (hM : JM J1 G kp Gi L tb ln sz cl ft tr) (h1 : PX_turn I x v1 J1) (h2 : PM_turn J1 x v2 J2) : v1 = v2 ∧ JJ J2 := by
  rcases h1 with ⟨c, e1, f1⟩ | ⟨n1, e1, rfl⟩ <;> rcases h2 with ⟨c2, e2, f2⟩ | ⟨n2, e2, rfl⟩
  · have gm := hM.2.1.qn hM.1
    obtain ⟨m, hm, rfl⟩ := ix_of (n := 2) (by decide) c
    obtain ⟨r1, r2, r3⟩ := hX.1.2.1
    obtain ⟨w1, w2, w3⟩ := hW.1.2.1
    refine ⟨e1.trans (r1.trans (gm.2.2.2.symm.trans e2.symm)), ?_⟩
    have hbw : BW (gF G) (stM (gB G) m) := ⟨hm, w2, w3⟩
    have hbr : BR J1 6 (gF G) (stM (gB G) m) := by
      refine ⟨?_, fun y hy => ⟨?_, ?_⟩, fun sd hs i hi => ?_⟩
      · rw [← f1]; exact wr_ss
      · rw [← f1, wr_n (by decide)]; exact (r2 y hy).1
      · rw [← f1, wr_n (by decide)]; exact (r2 y hy).2
      · rw [← f1, wr_n (by decide)]; exact r3 sd hs i hi
    have e98 : ∀ z, z ≠ 18 → J2 98 z = J1 98 z := fun z hz => by rw [← f2, wr_sn hz]
    have hn := hW.1.1.2.2.2.2.1
    refine JJ_g hW hX hM (wb_of hW.1 rfl hbw hW.1.2.2.1.2.1 hW.1.2.2.1.2.2.1 hW.1.2.2.2.1) sF.rfl' (hX.1.bd hbr (by rw [← f1, wr_n (by decide)]; exact hX.1.2.2.1) (by rw [← f1, wr_n (by decide)]) (by rw [← f1, wr_n (by decide)]) (fun a ha => by rw [← f1, wr_n (by omega)])) (fun a ha => by rw [← f1, wr_n (by omega)]) (hM.2.1.bd hW.1 (fun y hy => ⟨?_, ?_⟩) ?_ ?_ (fun z h1 h2 h3 => e98 z h2)) (fun a ha => by rw [← f2, wr_n (by omega)]) (fun z hz => by rw [← f2, wr_n (by decide)]) (fun z hz => e98 z (by omega))
    · rw [e98 _ (by omega)]; exact (gm.2.2.1 y hy).1
    · rw [e98 _ (by omega)]; exact (gm.2.2.1 y hy).2
    · rw [← f2]; exact wr_ss
    · rw [e98 _ (by omega)]; exact hM.2.1.t
  · exact absurd c n2
  · exact absurd c2 n1
  · exact ⟨e1.trans e2.symm, JJ_q hW hX hM (fun _ _ => rfl) kp_rfl⟩
theorem fx_turn {I J1 : Mem} {G : GT} {kp : Nat → Bool} {Gi : Nat → GT} {L : Nat} {tb : Nat → Nat} {ln : Nat → Option Nat} {sz : Nat → Nat} {cl : Nat → Nat → Int32} {ft tr : Int32} {x : Int32} {v1 : Int32} (h1 : PX_turn I x v1 J1) : ∀ a, 97 ≤ a → J1 a = I a := by
  rcases h1 with ⟨-, -, rfl⟩ | ⟨-, -, rfl⟩
  · exact fun a ha => wr_n (by omega)
  · exact fun _ _ => rfl
def PX_go (I : Mem) (F : RT) (b : BT) (t : Nat) (x z : Int32) (v : Int32) (I1 : Mem) : Prop := (¬ (∃ w mv, (w < 5 ∧ x = nI w ∧ MvS F b w z mv)) ∧ v = -1 ∧ ∀ i, i ≠ 52 → I1 i = I i) ∨ (∃ w mv, (w < 5 ∧ x = nI w ∧ MvS F b w z mv) ∧ ((¬ lostB F b = none ∧ v = -2 ∧ ∀ i, i ≠ 52 → I1 i = I i) ∨ (lostB F b = none ∧ 999 ≤ t ∧ v = -3 ∧ ∀ i, i ≠ 52 → I1 i = I i) ∨ (lostB F b = none ∧ t < 999 ∧ v = oI (mv.bind (fun m => pon F b (m % 100))) ∧ BR I1 (1 + 5) F (playB F b w mv) ∧ I1 1 5 = nI (t + 1) ∧ (∀ z, z ≠ 5 → I1 1 z = I 1 z) ∧ ∀ i, i ≠ 1 → i ≠ 52 → i ≠ 6 → i ≠ 7 → i ≠ 8 → i ≠ 9 → I1 i = I i)))
def PM_go (I : Mem) (F : RT) (b : BT) (t : Nat) (x z : Int32) (v : Int32) (I1 : Mem) : Prop := (¬ (∃ w mv, (w < 5 ∧ x = nI w ∧ MvS F b w z mv)) ∧ v = -1 ∧ Kp I I1) ∨ (∃ w mv, (w < 5 ∧ x = nI w ∧ MvS F b w z mv) ∧ ((¬ lostB F b = none ∧ v = -2 ∧ Kp I I1) ∨ (lostB F b = none ∧ 999 ≤ t ∧ v = -3 ∧ Kp I I1) ∨ (lostB F b = none ∧ t < 999 ∧ v = oI (mv.bind (fun m => pon F b (m % 100))) ∧ QN I1 F (playB F b w mv) ∧ I1 98 19 = nI (t + 1) ∧ KpS I I1)))
theorem st_go {I J1 J2 : Mem} {G : GT} {kp : Nat → Bool} {Gi : Nat → GT} {L : Nat} {tb : Nat → Nat} {ln : Nat → Option Nat} {sz : Nat → Nat} {cl : Nat → Nat → Int32} {ft tr : Int32} {x : Int32} {z : Int32} {v1 v2 : Int32} (hW : JW G kp Gi) (hX : JX I G kp Gi L tb ln sz cl ft tr) (hM : JM J1 G kp Gi L tb ln sz cl ft tr) (h1 : PX_go I (gF G) (gB G) (gT G) x z v1 J1) (h2 : PM_go J1 (gF G) (gB G) (gT G) x z v2 J2) : v1 = v2 ∧ JJ J2 := by
  have hn := hW.1.1.2.2.2.2.1
  rcases h1 with ⟨n1, e1, f1⟩ | ⟨w, mv, c1, B1⟩ <;> rcases h2 with ⟨n2, e2, k⟩ | ⟨w2, mv2, c2, B2⟩
  · exact ⟨e1.trans e2.symm, JJ_q hW hX hM (fun a ha => f1 a (by omega)) k⟩
  · exact absurd ⟨w2, mv2, c2⟩ n1
  · exact absurd ⟨w, mv, c1⟩ n2
  · have q1 := nI_u c1.2.1 c2.2.1 (by omega) (by omega)
    subst q1
    have m1 := (selM_iff hn).mp c1.2.2
    have m2 := (selM_iff hn).mp c2.2.2
    have q2 : mv = mv2 := Option.some.inj (m1.symm.trans m2)
    subst q2
    rcases B1 with ⟨a1, e1, f1⟩ | ⟨a1, b1, e1, f1⟩ | ⟨a1, b1, e1, hbr, ht, g1, f1⟩ <;> rcases B2 with ⟨a2, e2, k⟩ | ⟨a2, b2, e2, k⟩ | ⟨a2, b2, e2, hqn, ht2, k1, k2, k3⟩
    · exact ⟨e1.trans e2.symm, JJ_q hW hX hM (fun a ha => f1 a (by omega)) k⟩
    · exact absurd a2 a1
    · exact absurd a2 a1
    · exact absurd a1 a2
    · exact ⟨e1.trans e2.symm, JJ_q hW hX hM (fun a ha => f1 a (by omega)) k⟩
    · omega
    · exact absurd a1 a2
    · omega
    · refine ⟨e1.trans e2.symm, ?_⟩
      obtain ⟨k9, hk9⟩ := selM_nth m1
      have hbw : BW (gF G) (playB (gF G) (gB G) w mv) := by rw [hk9]; exact (mvs_K hW.1.1).bw hW.1.1 hW.1.2.1
      have hl : L1 (gF G) (playB (gF G) (gB G) w mv) := by rw [hk9]; exact L1_play hW.1.2.2.1.2.1
      have hp : PW (gF G) (playB (gF G) (gB G) w mv) := by rw [hk9]; exact PW_play (mvs_K hW.1.1) hW.1.1 hW.1.2.2.1.2.2.1
      exact JJ_g hW hX hM (wb_of hW.1 rfl hbw hl hp (by omega)) sF.rfl' (hX.1.bd hbr ht (g1 6 (by decide)) (g1 7 (by decide)) (fun a ha => f1 a (by omega) (by omega) (by omega) (by omega) (by omega) (by omega))) (fun a ha => f1 a (by omega) (by omega) (by omega) (by omega) (by omega) (by omega)) (hM.2.1.bd hW.1 hqn.2.2.1 hqn.2.2.2 ht2 k3) (fun a ha => k2 a (by omega)) (fun z hz => k1 z hz) (fun z hz => k3 z (by omega) (by omega) (by omega))
theorem fx_go {I J1 : Mem} {G : GT} {kp : Nat → Bool} {Gi : Nat → GT} {L : Nat} {tb : Nat → Nat} {ln : Nat → Option Nat} {sz : Nat → Nat} {cl : Nat → Nat → Int32} {ft tr : Int32} {x : Int32} {z : Int32} {v1 : Int32} (h1 : PX_go I (gF G) (gB G) (gT G) x z v1 J1) : ∀ a, 97 ≤ a → J1 a = I a := by
  rcases h1 with ⟨-, -, f⟩ | ⟨w, mv, -, ⟨-, -, f⟩ | ⟨-, -, -, f⟩ | ⟨-, -, -, -, -, -, f⟩⟩
  · exact fun a ha => f a (by omega)
  · exact fun a ha => f a (by omega)
  · exact fun a ha => f a (by omega)
  · exact fun a ha => f a (by omega) (by omega) (by omega) (by omega) (by omega) (by omega)
