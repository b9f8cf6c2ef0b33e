theorem kp_rfl {I : Mem} : Kp I I := ⟨fun _ _ => rfl, fun _ _ => rfl⟩
section JQ
variable {I J1 J2 : Mem} {G : GT} {kp : Nat → Bool} {Gi : Nat → GT} {L : Nat} {tb : Nat → Nat} {ln : Nat → Option Nat} {sz : Nat → Nat} {cl : Nat → Nat → Int32} {ft tr : Int32}
theorem JJ_q (hW : JW G kp Gi) (hX : JX I G kp Gi L tb ln sz cl ft tr) (hM : JM J1 G kp Gi L tb ln sz cl ft tr) (fX : ∀ a, ¬ (29 ≤ a ∧ a ≤ 60) → J1 a = I a) (k : Kp J1 J2) : JJ J2 :=
  ⟨G, kp, Gi, L, tb, ln, sz, cl, ft, tr, hW, (hX.cong (fun a ha => fX a (by omega))).cong (fun a ha => k.2 a (by omega)), hM.cong hW k.1 (fun a ha => k.2 a (by omega))⟩
theorem fx_q (fX : ∀ a, ¬ (29 ≤ a ∧ a ≤ 60) → J1 a = I a) : ∀ a, 97 ≤ a → J1 a = I a := fun a ha => fX a (by omega)
/-- out of the class's frame: what the reference finds -/
theorem JM.up (hM : JM I G kp Gi L tb ln sz cl ft tr) (hW : JW G kp Gi) (f : ∀ a, 97 ≤ a → J1 a = I a) : JM J1 G kp Gi L tb ln sz cl ft tr := hM.cong hW (fun z _ => by rw [f 97 (by omega)]) (fun a ha => f a (by omega))
end JQ
theorem MS.rw {n i k : Nat} {ρ ρ' : Rho} {v : Option Nat} (h : MS n ρ) (e : ρ' = rwr ρ i k v) (hi : i ≠ 97) : MS n ρ' := by
  have o : ρ' 97 = ρ 97 := by rw [e]; funext b; exact rwr_n (fun q => hi q.1.symm)
  obtain ⟨h1, h2, h3, h4⟩ := h
  exact ⟨h1, by rw [o]; exact h2, by rw [o]; exact h3, by rw [o]; exact h4⟩
def PX_fault (I : Mem)  (v : Int32) (I1 : Mem) : Prop := v = I 0 9 ∧ I = I1
def PM_fault (I : Mem)  (v : Int32) (I1 : Mem) : Prop := v = I 97 21 ∧ I = I1
theorem st_fault {I J1 J2 : Mem} {G : GT} {kp : Nat → Bool} {Gi : Nat → GT} {L : Nat} {tb : Nat → Nat} {ln : Nat → Option Nat} {sz : Nat → Nat} {cl : Nat → Nat → Int32} {ft tr : Int32}  {v1 v2 : Int32} (hW : JW G kp Gi) (hX : JX I G kp Gi L tb ln sz cl ft tr) (hM : JM J1 G kp Gi L tb ln sz cl ft tr) (h1 : PX_fault I  v1 J1) (h2 : PM_fault J1  v2 J2) : v1 = v2 ∧ JJ J2 := by
  obtain ⟨e1, rfl⟩ := h1
  obtain ⟨e2, rfl⟩ := h2
  exact ⟨e1.trans ((hX.2.2.2.2.1.trans hM.2.2.2.2.2.1.symm).trans e2.symm), JJ_q hW hX hM (fun _ _ => rfl) kp_rfl⟩
theorem fx_fault {I J1 : Mem} {G : GT} {kp : Nat → Bool} {Gi : Nat → GT} {L : Nat} {tb : Nat → Nat} {ln : Nat → Option Nat} {sz : Nat → Nat} {cl : Nat → Nat → Int32} {ft tr : Int32}  {v1 : Int32} (h1 : PX_fault I  v1 J1) : ∀ a, 97 ≤ a → J1 a = I a := by
  obtain ⟨e1, rfl⟩ := h1
  exact fun _ _ => rfl
def PX_torn (I : Mem)  (v : Int32) (I1 : Mem) : Prop := v = I 0 10 ∧ I = I1
def PM_torn (I : Mem)  (v : Int32) (I1 : Mem) : Prop := v = I 97 41 ∧ I = I1
theorem st_torn {I J1 J2 : Mem} {G : GT} {kp : Nat → Bool} {Gi : Nat → GT} {L : Nat} {tb : Nat → Nat} {ln : Nat → Option Nat} {sz : Nat → Nat} {cl : Nat → Nat → Int32} {ft tr : Int32}  {v1 v2 : Int32} (hW : JW G kp Gi) (hX : JX I G kp Gi L tb ln sz cl ft tr) (hM : JM J1 G kp Gi L tb ln sz cl ft tr) (h1 : PX_torn I  v1 J1) (h2 : PM_torn J1  v2 J2) : v1 = v2 ∧ JJ J2 := by
  obtain ⟨e1, rfl⟩ := h1
  obtain ⟨e2, rfl⟩ := h2
  exact ⟨e1.trans ((hX.2.2.2.2.2.trans hM.2.2.2.2.2.2.symm).trans e2.symm), JJ_q hW hX hM (fun _ _ => rfl) kp_rfl⟩
theorem fx_torn {I J1 : Mem} {G : GT} {kp : Nat → Bool} {Gi : Nat → GT} {L : Nat} {tb : Nat → Nat} {ln : Nat → Option Nat} {sz : Nat → Nat} {cl : Nat → Nat → Int32} {ft tr : Int32}  {v1 : Int32} (h1 : PX_torn I  v1 J1) : ∀ a, 97 ≤ a → J1 a = I a := by
  obtain ⟨e1, rfl⟩ := h1
  exact fun _ _ => rfl
def PX_rule (I : Mem) (F : RT) (b : BT) (x : Int32) (v : Int32) (I1 : Mem) : Prop := v = (if x = 0 then nI (rW F) else if x = 1 then nI (rH F) else if x = 2 then nI (rN F) else if x = 3 then I (1 + 1) 5 else if x = 4 then nI (bM b) else if x = 5 then I 1 5 else if x = 6 then oI (lostB F b) else -1) ∧ I = I1
def PM_rule (I : Mem) (F : RT) (b : BT) (x : Int32) (v : Int32) (I1 : Mem) : Prop := v = (if x = 0 then nI (rW F) else if x = 1 then nI (rH F) else if x = 2 then nI (rN F) else if x = 3 then I 98 12 else if x = 4 then nI (bM b) else if x = 5 then I 98 19 else if x = 6 then oI (lostB F b) else -1) ∧ Kp I I1
theorem st_rule {I J1 J2 : Mem} {G : GT} {kp : Nat → Bool} {Gi : Nat → GT} {L : Nat} {tb : Nat → Nat} {ln : Nat → Option Nat} {sz : Nat → Nat} {cl : Nat → Nat → Int32} {ft tr : Int32} {x : Int32} {v1 v2 : Int32} (hW : JW G kp Gi) (hX : JX I G kp Gi L tb ln sz cl ft tr) (hM : JM J1 G kp Gi L tb ln sz cl ft tr) (h1 : PX_rule I (gF G) (gB G) x v1 J1) (h2 : PM_rule J1 (gF G) (gB G) x v2 J2) : v1 = v2 ∧ JJ J2 := by
  obtain ⟨e1, rfl⟩ := h1
  obtain ⟨e2, k⟩ := h2
  refine ⟨?_, JJ_q hW hX hM (fun _ _ => rfl) k⟩
  have hs : I (1 + 1) 5 = I 98 12 := b_ext (fun i hi => (hX.1.1.2.2.2.1 i hi).trans (hM.2.1.1 i hi).symm)
  have ht : I 1 5 = I 98 19 := hX.1.2.2.1.trans hM.2.1.t.symm
  rw [e1, e2, hs, ht]
theorem fx_rule {I J1 : Mem} {G : GT} {kp : Nat → Bool} {Gi : Nat → GT} {L : Nat} {tb : Nat → Nat} {ln : Nat → Option Nat} {sz : Nat → Nat} {cl : Nat → Nat → Int32} {ft tr : Int32} {x : Int32} {v1 : Int32} (h1 : PX_rule I (gF G) (gB G) x v1 J1) : ∀ a, 97 ≤ a → J1 a = I a := by
  obtain ⟨e1, rfl⟩ := h1
  exact fun _ _ => rfl
def PX_square (I : Mem) (F : RT) (b : BT) (x : Int32) (v : Int32) (I1 : Mem) : Prop := v = (if 0 ≤ x ∧ x < nI (rW F * rH F) then oI (pon F b x.toNatClampNeg) else -1) ∧ I = I1
def PM_square (I : Mem) (F : RT) (b : BT) (x : Int32) (v : Int32) (I1 : Mem) : Prop := v = (if 0 ≤ x ∧ x < nI (rW F * rH F) then oI (pon F b x.toNatClampNeg) else -1) ∧ Kp I I1
theorem st_square {I J1 J2 : Mem} {G : GT} {kp : Nat → Bool} {Gi : Nat → GT} {L : Nat} {tb : Nat → Nat} {ln : Nat → Option Nat} {sz : Nat → Nat} {cl : Nat → Nat → Int32} {ft tr : Int32} {x : Int32} {v1 v2 : Int32} (hW : JW G kp Gi) (hX : JX I G kp Gi L tb ln sz cl ft tr) (hM : JM J1 G kp Gi L tb ln sz cl ft tr) (h1 : PX_square I (gF G) (gB G) x v1 J1) (h2 : PM_square J1 (gF G) (gB G) x v2 J2) : v1 = v2 ∧ JJ J2 := by
  obtain ⟨e1, rfl⟩ := h1
  obtain ⟨e2, k⟩ := h2
  exact ⟨e1.trans e2.symm, JJ_q hW hX hM (fun _ _ => rfl) k⟩
theorem fx_square {I J1 : Mem} {G : GT} {kp : Nat → Bool} {Gi : Nat → GT} {L : Nat} {tb : Nat → Nat} {ln : Nat → Option Nat} {sz : Nat → Nat} {cl : Nat → Nat → Int32} {ft tr : Int32} {x : Int32} {v1 : Int32} (h1 : PX_square I (gF G) (gB G) x v1 J1) : ∀ a, 97 ≤ a → J1 a = I a := by
  obtain ⟨e1, rfl⟩ := h1
  exact fun _ _ => rfl
def PX_piece (I : Mem) (F : RT) (b : BT) (x z : Int32) (v : Int32) (I1 : Mem) : Prop := v = (if 0 ≤ x ∧ x < nI (rN F) then (if z = 0 then nI (rSd F x.toNatClampNeg) else if z = 1 then nI (rKd F x.toNatClampNeg) else if z = 2 then oI (bP b x.toNatClampNeg) else if z = 3 then nI (bO b x.toNatClampNeg) else -1) else -1) ∧ I = I1
def PM_piece (I : Mem) (F : RT) (b : BT) (x z : Int32) (v : Int32) (I1 : Mem) : Prop := v = (if 0 ≤ x ∧ x < nI (rN F) then (if z = 0 then nI (rSd F x.toNatClampNeg) else if z = 1 then nI (rKd F x.toNatClampNeg) else if z = 2 then oI (bP b x.toNatClampNeg) else if z = 3 then nI (bO b x.toNatClampNeg) else -1) else -1) ∧ I = I1
theorem st_piece {I J1 J2 : Mem} {G : GT} {kp : Nat → Bool} {Gi : Nat → GT} {L : Nat} {tb : Nat → Nat} {ln : Nat → Option Nat} {sz : Nat → Nat} {cl : Nat → Nat → Int32} {ft tr : Int32} {x : Int32} {z : Int32} {v1 v2 : Int32} (hW : JW G kp Gi) (hX : JX I G kp Gi L tb ln sz cl ft tr) (hM : JM J1 G kp Gi L tb ln sz cl ft tr) (h1 : PX_piece I (gF G) (gB G) x z v1 J1) (h2 : PM_piece J1 (gF G) (gB G) x z v2 J2) : v1 = v2 ∧ JJ J2 := by
  obtain ⟨e1, rfl⟩ := h1
  obtain ⟨e2, rfl⟩ := h2
  exact ⟨e1.trans e2.symm, JJ_q hW hX hM (fun _ _ => rfl) kp_rfl⟩
theorem fx_piece {I J1 : Mem} {G : GT} {kp : Nat → Bool} {Gi : Nat → GT} {L : Nat} {tb : Nat → Nat} {ln : Nat → Option Nat} {sz : Nat → Nat} {cl : Nat → Nat → Int32} {ft tr : Int32} {x : Int32} {z : Int32} {v1 : Int32} (h1 : PX_piece I (gF G) (gB G) x z v1 J1) : ∀ a, 97 ≤ a → J1 a = I a := by
  obtain ⟨e1, rfl⟩ := h1
  exact fun _ _ => rfl
def PX_odd (I : Mem) (x : Int32) (v : Int32) (I1 : Mem) : Prop := v = (if 0 ≤ x ∧ x < 5 then I (1 + 1 + 3) x.toNatClampNeg else -1) ∧ I = I1
def PM_odd (I : Mem) (F : RT) (x : Int32) (v : Int32) (I1 : Mem) : Prop := v = (if 0 ≤ x ∧ x < 5 then nI (rOd F x.toNatClampNeg) else -1) ∧ I = I1
theorem st_odd {I J1 J2 : Mem} {G : GT} {kp : Nat → Bool} {Gi : Nat → GT} {L : Nat} {tb : Nat → Nat} {ln : Nat → Option Nat} {sz : Nat → Nat} {cl : Nat → Nat → Int32} {ft tr : Int32} {x : Int32} {v1 v2 : Int32} (hW : JW G kp Gi) (hX : JX I G kp Gi L tb ln sz cl ft tr) (hM : JM J1 G kp Gi L tb ln sz cl ft tr) (h1 : PX_odd I x v1 J1) (h2 : PM_odd J1 (gF G) x v2 J2) : v1 = v2 ∧ JJ J2 := by
  obtain ⟨e1, rfl⟩ := h1
  obtain ⟨e2, rfl⟩ := h2
  refine ⟨?_, JJ_q hW hX hM (fun _ _ => rfl) kp_rfl⟩
  rw [e1, e2]
  by_cases c : 0 ≤ x ∧ x < 5
  · rw [if_pos c, if_pos c]
    obtain ⟨k, hk, rfl⟩ := ix_of (n := 5) (by decide) c
    rw [nI_clamp (by omega)]
    exact hX.1.1.2.2.2.2.2 k hk
  · rw [if_neg c, if_neg c]
theorem fx_odd {I J1 : Mem} {G : GT} {kp : Nat → Bool} {Gi : Nat → GT} {L : Nat} {tb : Nat → Nat} {ln : Nat → Option Nat} {sz : Nat → Nat} {cl : Nat → Nat → Int32} {ft tr : Int32} {x : Int32} {v1 : Int32} (h1 : PX_odd I x v1 J1) : ∀ a, 97 ≤ a → J1 a = I a := by
  obtain ⟨e1, rfl⟩ := h1
  exact fun _ _ => rfl
def PX_moves (I : Mem) (F : RT) (b : BT) (x : Int32) (v : Int32) (I1 : Mem) : Prop := ((∃ w, w < 5 ∧ x = nI w ∧ v = nI (mvs F b w).length) ∨ (¬ (∃ w, w < 5 ∧ x = nI w) ∧ v = -1)) ∧ ∀ i, i ≠ 52 → I1 i = I i
def PM_moves (I : Mem) (F : RT) (b : BT) (x : Int32) (v : Int32) (I1 : Mem) : Prop := ((∃ w, w < 5 ∧ x = nI w ∧ v = nI (mvs F b w).length) ∨ (¬ (∃ w, w < 5 ∧ x = nI w) ∧ v = -1)) ∧ Kp I I1
theorem st_moves {I J1 J2 : Mem} {G : GT} {kp : Nat → Bool} {Gi : Nat → GT} {L : Nat} {tb : Nat → Nat} {ln : Nat → Option Nat} {sz : Nat → Nat} {cl : Nat → Nat → Int32} {ft tr : Int32} {x : Int32} {v1 v2 : Int32} (hW : JW G kp Gi) (hX : JX I G kp Gi L tb ln sz cl ft tr) (hM : JM J1 G kp Gi L tb ln sz cl ft tr) (h1 : PX_moves I (gF G) (gB G) x v1 J1) (h2 : PM_moves J1 (gF G) (gB G) x v2 J2) : v1 = v2 ∧ JJ J2 := by
  obtain ⟨A1, f1⟩ := h1
  obtain ⟨A2, k⟩ := h2
  refine ⟨?_, JJ_q hW hX hM (fun a ha => f1 a (by omega)) k⟩
  rcases A1 with ⟨w, a1, b1, e1⟩ | ⟨n1, e1⟩ <;> rcases A2 with ⟨w2, a2, b2, e2⟩ | ⟨n2, e2⟩
  · have := nI_u b1 b2 (by omega) (by omega)
    subst this
    exact e1.trans e2.symm
  · exact absurd ⟨w, a1, b1⟩ n2
  · exact absurd ⟨w2, a2, b2⟩ n1
  · exact e1.trans e2.symm
theorem fx_moves {I J1 : Mem} {G : GT} {kp : Nat → Bool} {Gi : Nat → GT} {L : Nat} {tb : Nat → Nat} {ln : Nat → Option Nat} {sz : Nat → Nat} {cl : Nat → Nat → Int32} {ft tr : Int32} {x : Int32} {v1 : Int32} (h1 : PX_moves I (gF G) (gB G) x v1 J1) : ∀ a, 97 ≤ a → J1 a = I a := by
  exact fx_q (fun a ha => h1.2 a (by omega))
def PX_move (I : Mem) (F : RT) (b : BT) (x z : Int32) (v : Int32) (I1 : Mem) : Prop := ((∃ w k m, (w < 5 ∧ x = nI w ∧ z = nI k ∧ (mvs F b w)[k]? = some m) ∧ v = nI m) ∨ (¬ (∃ w k m, (w < 5 ∧ x = nI w ∧ z = nI k ∧ (mvs F b w)[k]? = some m)) ∧ v = -1)) ∧ ∀ i, i ≠ 52 → I1 i = I i
def PM_move (I : Mem) (F : RT) (b : BT) (x z : Int32) (v : Int32) (I1 : Mem) : Prop := ((∃ w k m, (w < 5 ∧ x = nI w ∧ z = nI k ∧ (mvs F b w)[k]? = some m) ∧ v = nI m) ∨ (¬ (∃ w k m, (w < 5 ∧ x = nI w ∧ z = nI k ∧ (mvs F b w)[k]? = some m)) ∧ v = -1)) ∧ Kp I I1
theorem st_move {I J1 J2 : Mem} {G : GT} {kp : Nat → Bool} {Gi : Nat → GT} {L : Nat} {tb : Nat → Nat} {ln : Nat → Option Nat} {sz : Nat → Nat} {cl : Nat → Nat → Int32} {ft tr : Int32} {x : Int32} {z : Int32} {v1 v2 : Int32} (hW : JW G kp Gi) (hX : JX I G kp Gi L tb ln sz cl ft tr) (hM : JM J1 G kp Gi L tb ln sz cl ft tr) (h1 : PX_move I (gF G) (gB G) x z v1 J1) (h2 : PM_move J1 (gF G) (gB G) x z v2 J2) : v1 = v2 ∧ JJ J2 := by
  obtain ⟨A1, f1⟩ := h1
  obtain ⟨A2, k⟩ := h2
  refine ⟨?_, JJ_q hW hX hM (fun a ha => f1 a (by omega)) k⟩
  have hl : ∀ w k m : Nat, (mvs (gF G) (gB G) w)[k]? = some m → k < 2 ^ 31 := fun w k m h => by
    have := (List.getElem?_eq_some_iff.mp h).1
    have := mvs_len (F := gF G) (b := gB G) (w := w) hW.1.1.2.2.2.2.1
    omega
  rcases pr3 A1 A2 (fun a b c a' b' c' h h' => by
    have e1 := nI_u h.2.1 h'.2.1 (by omega) (by omega)
    have e2 := nI_u h.2.2.1 h'.2.2.1 (hl _ _ _ h.2.2.2) (hl _ _ _ h'.2.2.2)
    subst e1; subst e2
    exact ⟨rfl, rfl, Option.some.inj (h.2.2.2.symm.trans h'.2.2.2)⟩) with ⟨w, k, m, -, e1, e2⟩ | ⟨-, e1, e2⟩
  · exact e1.trans e2.symm
  · exact e1.trans e2.symm
theorem fx_move {I J1 : Mem} {G : GT} {kp : Nat → Bool} {Gi : Nat → GT} {L : Nat} {tb : Nat → Nat} {ln : Nat → Option Nat} {sz : Nat → Nat} {cl : Nat → Nat → Int32} {ft tr : Int32} {x : Int32} {z : Int32} {v1 : Int32} (h1 : PX_move I (gF G) (gB G) x z v1 J1) : ∀ a, 97 ≤ a → J1 a = I a := by
  exact fx_q (fun a ha => h1.2 a (by omega))
def PX_chance (I : Mem) (F : RT) (b : BT) (x z u : Int32) (v : Int64) (I1 : Mem) : Prop := ((∃ s k, (s < 2 ∧ k ≤ 3 ∧ x = nI s ∧ z = nI k ∧ (u = 0 ∨ u = 1)) ∧ v = lN (frN (val F s k b) (pw (allO F) k) u)) ∨ (¬ (∃ s k, (s < 2 ∧ k ≤ 3 ∧ x = nI s ∧ z = nI k ∧ (u = 0 ∨ u = 1))) ∧ v = -1)) ∧ ∀ i, ¬ (29 ≤ i ∧ i ≤ 52) → I1 i = I i
def PM_chance (I : Mem) (F : RT) (b : BT) (x z u : Int32) (v : Int64) (I1 : Mem) : Prop := ((∃ s k, (s < 2 ∧ k ≤ 3 ∧ x = nI s ∧ z = nI k ∧ (u = 0 ∨ u = 1)) ∧ v = lN (frN (val F s k b) (pw (allO F) k) u)) ∨ (¬ (∃ s k, (s < 2 ∧ k ≤ 3 ∧ x = nI s ∧ z = nI k ∧ (u = 0 ∨ u = 1))) ∧ v = -1)) ∧ Kp I I1
theorem st_chance {I J1 J2 : Mem} {G : GT} {kp : Nat → Bool} {Gi : Nat → GT} {L : Nat} {tb : Nat → Nat} {ln : Nat → Option Nat} {sz : Nat → Nat} {cl : Nat → Nat → Int32} {ft tr : Int32} {x : Int32} {z : Int32} {u : Int32} {v1 v2 : Int64} (hW : JW G kp Gi) (hX : JX I G kp Gi L tb ln sz cl ft tr) (hM : JM J1 G kp Gi L tb ln sz cl ft tr) (h1 : PX_chance I (gF G) (gB G) x z u v1 J1) (h2 : PM_chance J1 (gF G) (gB G) x z u v2 J2) : v1 = v2 ∧ JJ J2 := by
  obtain ⟨A1, f1⟩ := h1
  obtain ⟨A2, k⟩ := h2
  refine ⟨?_, JJ_q hW hX hM (fun a ha => f1 a (by omega)) k⟩
  rcases pr2 A1 A2 (fun a b c d h h' => ⟨nI_u h.2.2.1 h'.2.2.1 (by omega) (by omega), nI_u h.2.2.2.1 h'.2.2.2.1 (by omega) (by omega)⟩) with ⟨s, k, -, e1, e2⟩ | ⟨-, e1, e2⟩
  · exact e1.trans e2.symm
  · exact e1.trans e2.symm
theorem fx_chance {I J1 : Mem} {G : GT} {kp : Nat → Bool} {Gi : Nat → GT} {L : Nat} {tb : Nat → Nat} {ln : Nat → Option Nat} {sz : Nat → Nat} {cl : Nat → Nat → Int32} {ft tr : Int32} {x : Int32} {z : Int32} {u : Int32} {v1 : Int64} (h1 : PX_chance I (gF G) (gB G) x z u v1 J1) : ∀ a, 97 ≤ a → J1 a = I a := by
  exact fx_q (fun a ha => h1.2 a (by omega))
def PX_byWind (I : Mem) (F : RT) (b : BT) (x z u : Int32) (v : Int64) (I1 : Mem) : Prop := ((∃ w k, (w < 5 ∧ 1 ≤ k ∧ k ≤ 3 ∧ x = nI w ∧ z = nI k ∧ (u = 0 ∨ u = 1)) ∧ ((lostB F b = none ∧ v = lN (frN (valW F (bM b) (k - 1) b w) (pw (allO F) (k - 1)) u)) ∨ (¬ lostB F b = none ∧ v = -2))) ∨ (¬ (∃ w k, (w < 5 ∧ 1 ≤ k ∧ k ≤ 3 ∧ x = nI w ∧ z = nI k ∧ (u = 0 ∨ u = 1))) ∧ v = -1)) ∧ ∀ i, ¬ (29 ≤ i ∧ i ≤ 52) → I1 i = I i
def PM_byWind (I : Mem) (F : RT) (b : BT) (x z u : Int32) (v : Int64) (I1 : Mem) : Prop := ((∃ w k, (w < 5 ∧ 1 ≤ k ∧ k ≤ 3 ∧ x = nI w ∧ z = nI k ∧ (u = 0 ∨ u = 1)) ∧ ((lostB F b = none ∧ v = lN (frN (valW F (bM b) (k - 1) b w) (pw (allO F) (k - 1)) u)) ∨ (¬ lostB F b = none ∧ v = -2))) ∨ (¬ (∃ w k, (w < 5 ∧ 1 ≤ k ∧ k ≤ 3 ∧ x = nI w ∧ z = nI k ∧ (u = 0 ∨ u = 1))) ∧ v = -1)) ∧ Kp I I1
theorem st_byWind {I J1 J2 : Mem} {G : GT} {kp : Nat → Bool} {Gi : Nat → GT} {L : Nat} {tb : Nat → Nat} {ln : Nat → Option Nat} {sz : Nat → Nat} {cl : Nat → Nat → Int32} {ft tr : Int32} {x : Int32} {z : Int32} {u : Int32} {v1 v2 : Int64} (hW : JW G kp Gi) (hX : JX I G kp Gi L tb ln sz cl ft tr) (hM : JM J1 G kp Gi L tb ln sz cl ft tr) (h1 : PX_byWind I (gF G) (gB G) x z u v1 J1) (h2 : PM_byWind J1 (gF G) (gB G) x z u v2 J2) : v1 = v2 ∧ JJ J2 := by
  obtain ⟨A1, f1⟩ := h1
  obtain ⟨A2, k⟩ := h2
  refine ⟨?_, JJ_q hW hX hM (fun a ha => f1 a (by omega)) k⟩
  rcases pr2 A1 A2 (fun a b c d h h' => ⟨nI_u h.2.2.2.1 h'.2.2.2.1 (by omega) (by omega), nI_u h.2.2.2.2.1 h'.2.2.2.2.1 (by omega) (by omega)⟩) with ⟨s, k, -, A1, A2⟩ | ⟨-, e1, e2⟩
  · rcases A1 with ⟨a1, e1⟩ | ⟨a1, e1⟩ <;> rcases A2 with ⟨a2, e2⟩ | ⟨a2, e2⟩ <;> first | exact e1.trans e2.symm | exact absurd a1 a2 | exact absurd a2 a1
  · exact e1.trans e2.symm
theorem fx_byWind {I J1 : Mem} {G : GT} {kp : Nat → Bool} {Gi : Nat → GT} {L : Nat} {tb : Nat → Nat} {ln : Nat → Option Nat} {sz : Nat → Nat} {cl : Nat → Nat → Int32} {ft tr : Int32} {x : Int32} {z : Int32} {u : Int32} {v1 : Int64} (h1 : PX_byWind I (gF G) (gB G) x z u v1 J1) : ∀ a, 97 ≤ a → J1 a = I a := by
  exact fx_q (fun a ha => h1.2 a (by omega))
def PX_best (I : Mem) (F : RT) (b : BT) (x z : Int32) (v : Int32) (I1 : Mem) : Prop := ((∃ w k, (w < 5 ∧ 1 ≤ k ∧ k ≤ 3 ∧ x = nI w ∧ z = nI k) ∧ ((lostB F b = none ∧ v = oI (chW F (bM b) (k - 1) b w)) ∨ (¬ lostB F b = none ∧ v = -2))) ∨ (¬ (∃ w k, (w < 5 ∧ 1 ≤ k ∧ k ≤ 3 ∧ x = nI w ∧ z = nI k)) ∧ v = -1)) ∧ ∀ i, ¬ (29 ≤ i ∧ i ≤ 52) → I1 i = I i
def PM_best (I : Mem) (F : RT) (b : BT) (x z : Int32) (v : Int32) (I1 : Mem) : Prop := ((∃ w k, (w < 5 ∧ 1 ≤ k ∧ k ≤ 3 ∧ x = nI w ∧ z = nI k) ∧ ((lostB F b = none ∧ v = oI (chW F (bM b) (k - 1) b w)) ∨ (¬ lostB F b = none ∧ v = -2))) ∨ (¬ (∃ w k, (w < 5 ∧ 1 ≤ k ∧ k ≤ 3 ∧ x = nI w ∧ z = nI k)) ∧ v = -1)) ∧ Kp I I1
theorem st_best {I J1 J2 : Mem} {G : GT} {kp : Nat → Bool} {Gi : Nat → GT} {L : Nat} {tb : Nat → Nat} {ln : Nat → Option Nat} {sz : Nat → Nat} {cl : Nat → Nat → Int32} {ft tr : Int32} {x : Int32} {z : Int32} {v1 v2 : Int32} (hW : JW G kp Gi) (hX : JX I G kp Gi L tb ln sz cl ft tr) (hM : JM J1 G kp Gi L tb ln sz cl ft tr) (h1 : PX_best I (gF G) (gB G) x z v1 J1) (h2 : PM_best J1 (gF G) (gB G) x z v2 J2) : v1 = v2 ∧ JJ J2 := by
  obtain ⟨A1, f1⟩ := h1
  obtain ⟨A2, k⟩ := h2
  refine ⟨?_, JJ_q hW hX hM (fun a ha => f1 a (by omega)) k⟩
  rcases pr2 A1 A2 (fun a b c d h h' => ⟨nI_u h.2.2.2.1 h'.2.2.2.1 (by omega) (by omega), nI_u h.2.2.2.2 h'.2.2.2.2 (by omega) (by omega)⟩) with ⟨s, k, -, A1, A2⟩ | ⟨-, e1, e2⟩
  · rcases A1 with ⟨a1, e1⟩ | ⟨a1, e1⟩ <;> rcases A2 with ⟨a2, e2⟩ | ⟨a2, e2⟩ <;> first | exact e1.trans e2.symm | exact absurd a1 a2 | exact absurd a2 a1
  · exact e1.trans e2.symm
theorem fx_best {I J1 : Mem} {G : GT} {kp : Nat → Bool} {Gi : Nat → GT} {L : Nat} {tb : Nat → Nat} {ln : Nat → Option Nat} {sz : Nat → Nat} {cl : Nat → Nat → Int32} {ft tr : Int32} {x : Int32} {z : Int32} {v1 : Int32} (h1 : PX_best I (gF G) (gB G) x z v1 J1) : ∀ a, 97 ≤ a → J1 a = I a := by
  exact fx_q (fun a ha => h1.2 a (by omega))
def PX_hope (I : Mem) (F : RT) (b : BT) (z : Int32) (v : Int32) (I1 : Mem) : Prop := ((∃ k, (1 ≤ k ∧ k ≤ 3 ∧ z = nI k) ∧ ((lostB F b = none ∧ v = (match bstK true (fun w => valW F (bM b) (k - 1) b w) 5 with | none => 0 | some q => nI q.2)) ∨ (¬ lostB F b = none ∧ v = -2))) ∨ (¬ (∃ k, (1 ≤ k ∧ k ≤ 3 ∧ z = nI k)) ∧ v = -1)) ∧ ∀ i, ¬ (29 ≤ i ∧ i ≤ 52) → I1 i = I i
def PM_hope (I : Mem) (F : RT) (b : BT) (z : Int32) (v : Int32) (I1 : Mem) : Prop := ((∃ k, (1 ≤ k ∧ k ≤ 3 ∧ z = nI k) ∧ ((lostB F b = none ∧ v = (match bstK true (fun w => valW F (bM b) (k - 1) b w) 5 with | none => 0 | some q => nI q.2)) ∨ (¬ lostB F b = none ∧ v = -2))) ∨ (¬ (∃ k, (1 ≤ k ∧ k ≤ 3 ∧ z = nI k)) ∧ v = -1)) ∧ Kp I I1
theorem st_hope {I J1 J2 : Mem} {G : GT} {kp : Nat → Bool} {Gi : Nat → GT} {L : Nat} {tb : Nat → Nat} {ln : Nat → Option Nat} {sz : Nat → Nat} {cl : Nat → Nat → Int32} {ft tr : Int32} {z : Int32} {v1 v2 : Int32} (hW : JW G kp Gi) (hX : JX I G kp Gi L tb ln sz cl ft tr) (hM : JM J1 G kp Gi L tb ln sz cl ft tr) (h1 : PX_hope I (gF G) (gB G) z v1 J1) (h2 : PM_hope J1 (gF G) (gB G) z v2 J2) : v1 = v2 ∧ JJ J2 := by
  obtain ⟨A1, f1⟩ := h1
  obtain ⟨A2, k⟩ := h2
  refine ⟨?_, JJ_q hW hX hM (fun a ha => f1 a (by omega)) k⟩
  rcases pr1 A1 A2 (fun a c h h' => nI_u h.2.2 h'.2.2 (by omega) (by omega)) with ⟨k, -, A1, A2⟩ | ⟨-, e1, e2⟩
  · rcases A1 with ⟨a1, e1⟩ | ⟨a1, e1⟩ <;> rcases A2 with ⟨a2, e2⟩ | ⟨a2, e2⟩ <;> first | exact e1.trans e2.symm | exact absurd a1 a2 | exact absurd a2 a1
  · exact e1.trans e2.symm
theorem fx_hope {I J1 : Mem} {G : GT} {kp : Nat → Bool} {Gi : Nat → GT} {L : Nat} {tb : Nat → Nat} {ln : Nat → Option Nat} {sz : Nat → Nat} {cl : Nat → Nat → Int32} {ft tr : Int32} {z : Int32} {v1 : Int32} (h1 : PX_hope I (gF G) (gB G) z v1 J1) : ∀ a, 97 ≤ a → J1 a = I a := by
  exact fx_q (fun a ha => h1.2 a (by omega))
def PX_gale (I : Mem) (F : RT) (b : BT) (x z u : Int32) (v : Int32) (I1 : Mem) : Prop := ((∃ m, (1 ≤ m ∧ m ≤ 60 ∧ z = nI m ∧ (u = 0 ∨ u = 1)) ∧ v = (if u = 0 then nI (galS F m x b).1 else oI (lostB F (galS F m x b).2))) ∨ (¬ (∃ m, (1 ≤ m ∧ m ≤ 60 ∧ z = nI m ∧ (u = 0 ∨ u = 1))) ∧ v = -1)) ∧ ∀ i, ¬ (29 ≤ i ∧ i ≤ 52) → I1 i = I i
def PM_gale (I : Mem) (F : RT) (b : BT) (x z u : Int32) (v : Int32) (I1 : Mem) : Prop := ((∃ m, (1 ≤ m ∧ m ≤ 60 ∧ z = nI m ∧ (u = 0 ∨ u = 1)) ∧ v = (if u = 0 then nI (galS F m x b).1 else oI (lostB F (galS F m x b).2))) ∨ (¬ (∃ m, (1 ≤ m ∧ m ≤ 60 ∧ z = nI m ∧ (u = 0 ∨ u = 1))) ∧ v = -1)) ∧ Kp I I1
theorem st_gale {I J1 J2 : Mem} {G : GT} {kp : Nat → Bool} {Gi : Nat → GT} {L : Nat} {tb : Nat → Nat} {ln : Nat → Option Nat} {sz : Nat → Nat} {cl : Nat → Nat → Int32} {ft tr : Int32} {x : Int32} {z : Int32} {u : Int32} {v1 v2 : Int32} (hW : JW G kp Gi) (hX : JX I G kp Gi L tb ln sz cl ft tr) (hM : JM J1 G kp Gi L tb ln sz cl ft tr) (h1 : PX_gale I (gF G) (gB G) x z u v1 J1) (h2 : PM_gale J1 (gF G) (gB G) x z u v2 J2) : v1 = v2 ∧ JJ J2 := by
  obtain ⟨A1, f1⟩ := h1
  obtain ⟨A2, k⟩ := h2
  refine ⟨?_, JJ_q hW hX hM (fun a ha => f1 a (by omega)) k⟩
  rcases pr1 A1 A2 (fun a c h h' => nI_u h.2.2.1 h'.2.2.1 (by omega) (by omega)) with ⟨k, -, e1, e2⟩ | ⟨-, e1, e2⟩
  · exact e1.trans e2.symm
  · exact e1.trans e2.symm
theorem fx_gale {I J1 : Mem} {G : GT} {kp : Nat → Bool} {Gi : Nat → GT} {L : Nat} {tb : Nat → Nat} {ln : Nat → Option Nat} {sz : Nat → Nat} {cl : Nat → Nat → Int32} {ft tr : Int32} {x : Int32} {z : Int32} {u : Int32} {v1 : Int32} (h1 : PX_gale I (gF G) (gB G) x z u v1 J1) : ∀ a, 97 ≤ a → J1 a = I a := by
  exact fx_q (fun a ha => h1.2 a (by omega))
def PX_blow (I : Mem) (F : RT) (b : BT) (tn : Nat) (tl : Nat → Nat) (u : Int32) (v : Int32) (I1 : Mem) : Prop := ((¬ (u = 0 ∨ (10 ≤ u ∧ u ≤ 12)) ∧ v = -1) ∨ ((u = 0 ∨ (10 ≤ u ∧ u ≤ 12)) ∧ ((¬ lostB F b = none ∧ v = -2) ∨ (lostB F b = none ∧ v = blwA F b tn tl u)))) ∧ ∀ i, ¬ (29 ≤ i ∧ i ≤ 60) → I1 i = I i
def PM_blow (I : Mem) (F : RT) (b : BT) (tn : Nat) (tl : Nat → Nat) (u : Int32) (v : Int32) (I1 : Mem) : Prop := ((¬ (u = 0 ∨ (10 ≤ u ∧ u ≤ 12)) ∧ v = -1) ∨ ((u = 0 ∨ (10 ≤ u ∧ u ≤ 12)) ∧ ((¬ lostB F b = none ∧ v = -2) ∨ (lostB F b = none ∧ v = blwA F b tn tl u)))) ∧ Kp I I1
theorem st_blow {I J1 J2 : Mem} {G : GT} {kp : Nat → Bool} {Gi : Nat → GT} {L : Nat} {tb : Nat → Nat} {ln : Nat → Option Nat} {sz : Nat → Nat} {cl : Nat → Nat → Int32} {ft tr : Int32} {u : Int32} {v1 v2 : Int32} (hW : JW G kp Gi) (hX : JX I G kp Gi L tb ln sz cl ft tr) (hM : JM J1 G kp Gi L tb ln sz cl ft tr) (h1 : PX_blow I (gF G) (gB G) (gTn G) (gTl G) u v1 J1) (h2 : PM_blow J1 (gF G) (gB G) (gTn G) (gTl G) u v2 J2) : v1 = v2 ∧ JJ J2 := by
  obtain ⟨A1, f1⟩ := h1
  obtain ⟨A2, k⟩ := h2
  refine ⟨?_, JJ_q hW hX hM f1 k⟩
  rcases A1 with ⟨n1, e1⟩ | ⟨n1, A1⟩ <;> rcases A2 with ⟨n2, e2⟩ | ⟨n2, A2⟩
  · exact e1.trans e2.symm
  · exact absurd n2 n1
  · exact absurd n1 n2
  · rcases A1 with ⟨a1, e1⟩ | ⟨a1, e1⟩ <;> rcases A2 with ⟨a2, e2⟩ | ⟨a2, e2⟩ <;> first | exact e1.trans e2.symm | exact absurd a1 a2 | exact absurd a2 a1
theorem fx_blow {I J1 : Mem} {G : GT} {kp : Nat → Bool} {Gi : Nat → GT} {L : Nat} {tb : Nat → Nat} {ln : Nat → Option Nat} {sz : Nat → Nat} {cl : Nat → Nat → Int32} {ft tr : Int32} {u : Int32} {v1 : Int32} (h1 : PX_blow I (gF G) (gB G) (gTn G) (gTl G) u v1 J1) : ∀ a, 97 ≤ a → J1 a = I a := by
  exact fx_q (fun a ha => h1.2 a (by omega))
def PX_count (I : Mem) (F : RT) (b : BT) (ln : Nat → Option Nat) (sz : Nat → Nat) (cl : Nat → Nat → Int32) (kp : Nat → Bool) (x : Int32) (v : Int32) (I1 : Mem) : Prop := v = (if x = 0 then nI (ctP (fun p => decide (bP b p ≠ none)) (rN F)) else if x = 1 then I 1 6 else if x = 2 then I 1 7 else if x = 3 then bI (kp 0 = true) + bI (kp 1 = true) else if x = 4 then I 15 2 else if x = 5 then oI ((ln 0).map (fun _ => sz 0)) else if x = 6 then nI (smP (bO b) (rN F)) else -1) ∧ I = I1
def PM_count (I : Mem) (F : RT) (b : BT) (ln : Nat → Option Nat) (sz : Nat → Nat) (cl : Nat → Nat → Int32) (kp : Nat → Bool) (x : Int32) (v : Int32) (I1 : Mem) : Prop := v = (if x = 0 then nI (ctP (fun p => decide (bP b p ≠ none)) (rN F)) else if x = 1 then I 98 20 else if x = 2 then I 98 37 else if x = 3 then bI (kp 0 = true) + bI (kp 1 = true) else if x = 4 then I 97 16 else if x = 5 then oI ((ln 0).map (fun _ => sz 0)) else if x = 6 then nI (smP (bO b) (rN F)) else -1) ∧ I = I1
theorem st_count {I J1 J2 : Mem} {G : GT} {kp : Nat → Bool} {Gi : Nat → GT} {L : Nat} {tb : Nat → Nat} {ln : Nat → Option Nat} {sz : Nat → Nat} {cl : Nat → Nat → Int32} {ft tr : Int32} {x : Int32} {v1 v2 : Int32} (hW : JW G kp Gi) (hX : JX I G kp Gi L tb ln sz cl ft tr) (hM : JM J1 G kp Gi L tb ln sz cl ft tr) (h1 : PX_count I (gF G) (gB G) ln sz cl kp x v1 J1) (h2 : PM_count J1 (gF G) (gB G) ln sz cl kp x v2 J2) : v1 = v2 ∧ JJ J2 := by
  obtain ⟨e1, rfl⟩ := h1
  obtain ⟨e2, rfl⟩ := h2
  refine ⟨?_, JJ_q hW hX hM (fun _ _ => rfl) kp_rfl⟩
  have h6 : I 1 6 = I 98 20 := hX.1.2.2.2.1.1.trans hM.2.1.snn.symm
  have h7 : I 1 7 = I 98 37 := hX.1.2.2.2.2.1.trans hM.2.1.tn.symm
  have h8 : I 15 2 = I 97 16 := hX.2.2.1.1.trans hM.2.2.2.1.1.symm
  rw [e1, e2, h6, h7, h8]
theorem fx_count {I J1 : Mem} {G : GT} {kp : Nat → Bool} {Gi : Nat → GT} {L : Nat} {tb : Nat → Nat} {ln : Nat → Option Nat} {sz : Nat → Nat} {cl : Nat → Nat → Int32} {ft tr : Int32} {x : Int32} {v1 : Int32} (h1 : PX_count I (gF G) (gB G) ln sz cl kp x v1 J1) : ∀ a, 97 ≤ a → J1 a = I a := by
  obtain ⟨e1, rfl⟩ := h1
  exact fun _ _ => rfl
def PX_fits (ρ : Rho) (I : Mem) (F : RT) (b : BT) (sn : Nat) (sq : Nat → Nat) (sd : Nat → Option Nat) (x : Int32) (r9 : Option Value) (ρ9 : Rho) (I1 : Mem) : Prop := (∃ k, (k ≤ 3 ∧ x = nI k) ∧ ρ9 = rwr ρ 53 3 (some 47) ∧ r9 = some (.int (nI (fnd F (seeB F sn sq sd) k b).length)) ∧ ∀ i, ¬ (29 ≤ i ∧ i ≤ 57) → I1 i = I i) ∨ (¬ (∃ k, (k ≤ 3 ∧ x = nI k)) ∧ ρ9 = ρ ∧ r9 = some (.int (-1)) ∧ I = I1)
def PM_fits (I : Mem) (F : RT) (b : BT) (sn : Nat) (sq : Nat → Nat) (sd : Nat → Option Nat) (x : Int32) (v : Int32) (I1 : Mem) : Prop := ((∃ k, (k ≤ 3 ∧ x = nI k) ∧ v = nI (fnd F (seeB F sn sq sd) k b).length) ∨ (¬ (∃ k, (k ≤ 3 ∧ x = nI k)) ∧ v = -1)) ∧ Kp I I1
theorem st_fits {I J1 J2 : Mem} {G : GT} {kp : Nat → Bool} {Gi : Nat → GT} {L : Nat} {tb : Nat → Nat} {ln : Nat → Option Nat} {sz : Nat → Nat} {cl : Nat → Nat → Int32} {ft tr : Int32} {x : Int32} {ρ ρ9 : Rho} {r9 : Option Value} {v2 : Int32} (hW : JW G kp Gi) (hX : JX I G kp Gi L tb ln sz cl ft tr) (hM : JM J1 G kp Gi L tb ln sz cl ft tr) (h1 : PX_fits ρ I (gF G) (gB G) (gSn G) (gSq G) (gSd G) x r9 ρ9 J1) (h2 : PM_fits J1 (gF G) (gB G) (gSn G) (gSq G) (gSd G) x v2 J2) : r9 = some (.int v2) ∧ JJ J2 := by
  obtain ⟨A2, k⟩ := h2
  rcases h1 with ⟨m, c1, -, e1, f1⟩ | ⟨n1, -, e1, rfl⟩
  · rcases A2 with ⟨m2, c2, e2⟩ | ⟨n2, e2⟩
    · have := nI_u c1.2 c2.2 (by omega) (by omega)
      subst this
      exact ⟨by rw [e1, e2], JJ_q hW hX hM (fun a ha => f1 a (by omega)) k⟩
    · exact absurd ⟨m, c1⟩ n2
  · rcases A2 with ⟨m2, c2, e2⟩ | ⟨n2, e2⟩
    · exact absurd ⟨m2, c2⟩ n1
    · exact ⟨by rw [e1, e2], JJ_q hW hX hM (fun a ha => rfl) k⟩
theorem fx_fits {I J1 : Mem} {G : GT} {kp : Nat → Bool} {Gi : Nat → GT} {L : Nat} {tb : Nat → Nat} {ln : Nat → Option Nat} {sz : Nat → Nat} {cl : Nat → Nat → Int32} {ft tr : Int32} {x : Int32} {ρ ρ9 : Rho} {r9 : Option Value} (h1 : PX_fits ρ I (gF G) (gB G) (gSn G) (gSq G) (gSd G) x r9 ρ9 J1) : (∃ v1, r9 = some (.int v1)) ∧ (XS 119 ρ → MS 119 ρ → XS 119 ρ9 ∧ MS 119 ρ9) ∧ ∀ a, 97 ≤ a → J1 a = I a := by
  have xr : ∀ {ρ ρ' : Rho} {i k : Nat} {v : Option Nat}, XS 119 ρ ∧ MS 119 ρ → ρ' = rwr ρ i k v → vRef i k → XS 119 ρ' ∧ MS 119 ρ' := fun h e hv => ⟨h.1.rw e hv, h.2.rw e (by rcases hv with h | h <;> omega)⟩
  
  rcases h1 with ⟨m, c1, e0, e1, f1⟩ | ⟨n1, e0, e1, rfl⟩
  · exact ⟨⟨_, e1⟩, fun a b => xr ⟨a, b⟩ e0 (Or.inl ⟨rfl, rfl⟩), fun a ha => f1 a (by omega)⟩
  · exact ⟨⟨_, e1⟩, fun a b => by rw [e0]; exact ⟨a, b⟩, fun a ha => rfl⟩
def PX_where (ρ : Rho) (I : Mem) (F : RT) (b : BT) (sn : Nat) (sq : Nat → Nat) (sd : Nat → Option Nat) (x z : Int32) (r9 : Option Value) (ρ9 : Rho) (I1 : Mem) : Prop := (∃ p k, (p < rN F ∧ k ≤ 3 ∧ x = nI p ∧ z = nI k) ∧ ρ9 = rwr ρ 53 3 (some 47) ∧ (∃ v, r9 = some (.int v) ∧ ∀ i, i < 32 → bt v i = (fnd F (seeB F sn sq sd) k b).any (fun r => plB (some p) r.2 i)) ∧ ∀ i, ¬ (29 ≤ i ∧ i ≤ 57) → I1 i = I i) ∨ (¬ (∃ p k, (p < rN F ∧ k ≤ 3 ∧ x = nI p ∧ z = nI k)) ∧ ρ9 = ρ ∧ r9 = some (.int (-1)) ∧ I = I1)
def PM_where (I : Mem) (F : RT) (b : BT) (sn : Nat) (sq : Nat → Nat) (sd : Nat → Option Nat) (x z : Int32) (v : Int32) (I1 : Mem) : Prop := ((∃ p k, (p < rN F ∧ k ≤ 3 ∧ x = nI p ∧ z = nI k) ∧ ∀ i, i < 32 → bt v i = (fnd F (seeB F sn sq sd) k b).any (fun r => plB (some p) r.2 i)) ∨ (¬ (∃ p k, (p < rN F ∧ k ≤ 3 ∧ x = nI p ∧ z = nI k)) ∧ v = -1)) ∧ Kp I I1
theorem st_where {I J1 J2 : Mem} {G : GT} {kp : Nat → Bool} {Gi : Nat → GT} {L : Nat} {tb : Nat → Nat} {ln : Nat → Option Nat} {sz : Nat → Nat} {cl : Nat → Nat → Int32} {ft tr : Int32} {x : Int32} {z : Int32} {ρ ρ9 : Rho} {r9 : Option Value} {v2 : Int32} (hW : JW G kp Gi) (hX : JX I G kp Gi L tb ln sz cl ft tr) (hM : JM J1 G kp Gi L tb ln sz cl ft tr) (h1 : PX_where ρ I (gF G) (gB G) (gSn G) (gSq G) (gSd G) x z r9 ρ9 J1) (h2 : PM_where J1 (gF G) (gB G) (gSn G) (gSq G) (gSd G) x z v2 J2) : r9 = some (.int v2) ∧ JJ J2 := by
  obtain ⟨A2, k⟩ := h2
  rcases h1 with ⟨p, m, c1, -, ⟨v, e1, g1⟩, f1⟩ | ⟨n1, -, e1, rfl⟩
  · rcases A2 with ⟨p2, m2, c2, e2⟩ | ⟨n2, e2⟩
    · have hn := hW.1.1.2.2.2.2.1
      have q1 := nI_u c1.2.2.1 c2.2.2.1 (by omega) (by omega)
      have q2 := nI_u c1.2.2.2 c2.2.2.2 (by omega) (by omega)
      subst q1; subst q2
      have : v = v2 := b_ext (fun i hi => (g1 i hi).trans (e2 i hi).symm)
      exact ⟨by rw [e1, this], JJ_q hW hX hM (fun a ha => f1 a (by omega)) k⟩
    · exact absurd ⟨p, m, c1⟩ n2
  · rcases A2 with ⟨p2, m2, c2, e2⟩ | ⟨n2, e2⟩
    · exact absurd ⟨p2, m2, c2⟩ n1
    · exact ⟨by rw [e1, e2], JJ_q hW hX hM (fun a ha => rfl) k⟩
theorem fx_where {I J1 : Mem} {G : GT} {kp : Nat → Bool} {Gi : Nat → GT} {L : Nat} {tb : Nat → Nat} {ln : Nat → Option Nat} {sz : Nat → Nat} {cl : Nat → Nat → Int32} {ft tr : Int32} {x : Int32} {z : Int32} {ρ ρ9 : Rho} {r9 : Option Value} (h1 : PX_where ρ I (gF G) (gB G) (gSn G) (gSq G) (gSd G) x z r9 ρ9 J1) : (∃ v1, r9 = some (.int v1)) ∧ (XS 119 ρ → MS 119 ρ → XS 119 ρ9 ∧ MS 119 ρ9) ∧ ∀ a, 97 ≤ a → J1 a = I a := by
  have xr : ∀ {ρ ρ' : Rho} {i k : Nat} {v : Option Nat}, XS 119 ρ ∧ MS 119 ρ → ρ' = rwr ρ i k v → vRef i k → XS 119 ρ' ∧ MS 119 ρ' := fun h e hv => ⟨h.1.rw e hv, h.2.rw e (by rcases hv with h | h <;> omega)⟩
  
  rcases h1 with ⟨p, m, c1, e0, ⟨v, e1, g1⟩, f1⟩ | ⟨n1, e0, e1, rfl⟩
  · exact ⟨⟨_, e1⟩, fun a b => xr ⟨a, b⟩ e0 (Or.inl ⟨rfl, rfl⟩), fun a ha => f1 a (by omega)⟩
  · exact ⟨⟨_, e1⟩, fun a b => by rw [e0]; exact ⟨a, b⟩, fun a ha => rfl⟩
def PX_since (ρ : Rho) (I : Mem) (F : RT) (b : BT) (kp : Nat → Bool) (bi : Nat → BT) (x z u : Int32) (r9 : Option Value) (ρ9 : Rho) (I1 : Mem) : Prop := (∃ k m, (k < 2 ∧ m ≤ 3 ∧ x = nI k ∧ z = nI m ∧ (u = 0 ∨ (10 ≤ u ∧ u ≤ 12))) ∧ ((kp k = false ∧ ρ9 = ρ ∧ r9 = some (.int (-2)) ∧ I = I1) ∨ (kp k = true ∧ ρ9 = rwr (rwr (rwr ρ 54 0 (some 2)) 54 1 (some 6)) 53 3 (some 47) ∧ r9 = some (.int (sinA F b (bi k) m u)) ∧ ∀ i, ¬ (29 ≤ i ∧ i ≤ 57) → I1 i = I i))) ∨ (¬ (∃ k m, (k < 2 ∧ m ≤ 3 ∧ x = nI k ∧ z = nI m ∧ (u = 0 ∨ (10 ≤ u ∧ u ≤ 12)))) ∧ ρ9 = ρ ∧ r9 = some (.int (-1)) ∧ I = I1)
def PM_since (I : Mem) (F : RT) (b : BT) (kp : Nat → Bool) (bi : Nat → BT) (x z u : Int32) (v : Int32) (I1 : Mem) : Prop := ((∃ k m, (k < 2 ∧ m ≤ 3 ∧ x = nI k ∧ z = nI m ∧ (u = 0 ∨ (10 ≤ u ∧ u ≤ 12))) ∧ ((kp k = false ∧ v = -2) ∨ (kp k = true ∧ v = sinA F b (bi k) m u))) ∨ (¬ (∃ k m, (k < 2 ∧ m ≤ 3 ∧ x = nI k ∧ z = nI m ∧ (u = 0 ∨ (10 ≤ u ∧ u ≤ 12)))) ∧ v = -1)) ∧ Kp I I1
theorem st_since {I J1 J2 : Mem} {G : GT} {kp : Nat → Bool} {Gi : Nat → GT} {L : Nat} {tb : Nat → Nat} {ln : Nat → Option Nat} {sz : Nat → Nat} {cl : Nat → Nat → Int32} {ft tr : Int32} {x : Int32} {z : Int32} {u : Int32} {ρ ρ9 : Rho} {r9 : Option Value} {v2 : Int32} (hW : JW G kp Gi) (hX : JX I G kp Gi L tb ln sz cl ft tr) (hM : JM J1 G kp Gi L tb ln sz cl ft tr) (h1 : PX_since ρ I (gF G) (gB G) kp (fun k => gB (Gi k)) x z u r9 ρ9 J1) (h2 : PM_since J1 (gF G) (gB G) kp (fun k => gB (Gi k)) x z u v2 J2) : r9 = some (.int v2) ∧ JJ J2 := by
  obtain ⟨A2, k9⟩ := h2
  rcases h1 with ⟨k, m, c1, B⟩ | ⟨n1, -, e1, rfl⟩
  · rcases A2 with ⟨k2, m2, c2, B2⟩ | ⟨n2, e2⟩
    · have q1 := nI_u c1.2.2.1 c2.2.2.1 (by omega) (by omega)
      have q2 := nI_u c1.2.2.2.1 c2.2.2.2.1 (by omega) (by omega)
      subst q1; subst q2
      rcases B with ⟨b1, -, e1, rfl⟩ | ⟨b1, -, e1, f1⟩ <;> rcases B2 with ⟨b2, e2⟩ | ⟨b2, e2⟩
      · exact ⟨by rw [e1, e2], JJ_q hW hX hM (fun a ha => rfl) k9⟩
      · rw [b1] at b2; cases b2
      · rw [b1] at b2; cases b2
      · exact ⟨by rw [e1, e2], JJ_q hW hX hM (fun a ha => f1 a (by omega)) k9⟩
    · exact absurd ⟨k, m, c1⟩ n2
  · rcases A2 with ⟨k2, m2, c2, e2⟩ | ⟨n2, e2⟩
    · exact absurd ⟨k2, m2, c2⟩ n1
    · exact ⟨by rw [e1, e2], JJ_q hW hX hM (fun a ha => rfl) k9⟩
theorem fx_since {I J1 : Mem} {G : GT} {kp : Nat → Bool} {Gi : Nat → GT} {L : Nat} {tb : Nat → Nat} {ln : Nat → Option Nat} {sz : Nat → Nat} {cl : Nat → Nat → Int32} {ft tr : Int32} {x : Int32} {z : Int32} {u : Int32} {ρ ρ9 : Rho} {r9 : Option Value} (h1 : PX_since ρ I (gF G) (gB G) kp (fun k => gB (Gi k)) x z u r9 ρ9 J1) : (∃ v1, r9 = some (.int v1)) ∧ (XS 119 ρ → MS 119 ρ → XS 119 ρ9 ∧ MS 119 ρ9) ∧ ∀ a, 97 ≤ a → J1 a = I a := by
  have xr : ∀ {ρ ρ' : Rho} {i k : Nat} {v : Option Nat}, XS 119 ρ ∧ MS 119 ρ → ρ' = rwr ρ i k v → vRef i k → XS 119 ρ' ∧ MS 119 ρ' := fun h e hv => ⟨h.1.rw e hv, h.2.rw e (by rcases hv with h | h <;> omega)⟩
  
  rcases h1 with ⟨k, m, c1, ⟨b1, e0, e1, rfl⟩ | ⟨b1, e0, e1, f1⟩⟩ | ⟨n1, e0, e1, rfl⟩
  · exact ⟨⟨_, e1⟩, fun a b => by rw [e0]; exact ⟨a, b⟩, fun a ha => rfl⟩
  · exact ⟨⟨_, e1⟩, fun a b => xr (xr (xr ⟨a, b⟩ rfl (Or.inr rfl)) rfl (Or.inr rfl)) e0 (Or.inl ⟨rfl, rfl⟩), fun a ha => f1 a (by omega)⟩
  · exact ⟨⟨_, e1⟩, fun a b => by rw [e0]; exact ⟨a, b⟩, fun a ha => rfl⟩
