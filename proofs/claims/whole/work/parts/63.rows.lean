theorem oI_inj2 {a c : Option Nat} (ha : ∀ q, a = some q → q < 2 ^ 31) (hc : ∀ q, c = some q → q < 2 ^ 31) : oI a = oI c ↔ a = c := by
  constructor
  · intro h
    cases c with
    | none => exact (oI_none ha).mp h
    | some z => exact (oI_nI ha (hc z rfl)).mp h
  · intro h; rw [h]
/-- what is seen, as the reference's heap holds it -/
def SnM (I : Mem) (sn : Nat) (sq : Nat → Nat) (sd : Nat → Option Nat) : Prop := I 98 20 = nI sn ∧ sn ≤ 8 ∧ ∀ k, k < sn → I 98 (21 + 2 * k) = nI (sq k) ∧ sq k < 25 ∧ I 98 (22 + 2 * k) = oI (sd k) ∧ ∀ z, sd k = some z → z < 2
def asF (F : RT) (gl b : BT) (p : Nat) : Bool := decide (bP b p = bP gl p) && decide (bO b p = bO gl p)
def asJ (F : RT) (gl b : BT) (j : Nat) : Bool := decide (bM b = bM gl) && (List.range j).all (asF F gl b)
theorem asJ_s {F : RT} {gl b : BT} {j : Nat} : asJ F gl b (j + 1) = (asJ F gl b j && asF F gl b j) := by
  unfold asJ
  rw [List.range_succ, List.all_append]
  simp [Bool.and_assoc]
theorem asJ_all {F : RT} {gl b : BT} : asJ F gl b (rN F) = asB F gl b := rfl
def seF (F : RT) (sq : Nat → Nat) (sd : Nat → Option Nat) (b : BT) (k : Nat) : Bool := decide ((pon F b (sq k)).map (rSd F) = sd k)
def seJ (F : RT) (sq : Nat → Nat) (sd : Nat → Option Nat) (b : BT) (j : Nat) : Bool := (List.range j).all (seF F sq sd b)
theorem seJ_s {F : RT} {sq : Nat → Nat} {sd : Nat → Option Nat} {b : BT} {j : Nat} : seJ F sq sd b (j + 1) = (seJ F sq sd b j && seF F sq sd b j) := by
  unfold seJ
  rw [List.range_succ, List.all_append]
  simp
theorem seJ_all {F : RT} {sn : Nat} {sq : Nat → Nat} {sd : Nat → Option Nat} {b : BT} : seJ F sq sd b sn = seeB F sn sq sd b := rfl
theorem neg1 : ∀ m, m ≤ 3 → (nI m + -1 < 0 ↔ m = 0) := by decide
set_option maxHeartbeats 400000 in
theorem c_X12_isAsNow (n : Nat) (ρ : Rho) (I : Mem) (F : RT) (gl b : BT) (hn9 : n ≤ 999) (hms : MS n ρ) (hqn : QN I F gl) (hrw : RW F) (hbg : BW F gl) (hqb : QB I F b) (hbw : BW F b) : MI yX12_isAsNow cX12_isAsNow 3 (some .boolean) 0 [.ref 97] n ρ I (fun v I1 => v = bI (asB F gl b = true) ∧ I = I1) := by
  refine MG.of (by decide +kernel) (Nat.le_of_ble_eq_true rfl) hn9 ?_
  intro κ C hR
  show G κ n ρ 0 [(0, .ref 97)] [] I
  obtain ⟨mn, ⟨m0, m1, m5, m6, m7, m11, m12, m15⟩, ⟨m23, m24, m26, m27, m28, m30, m31, m32, m33⟩, ⟨m38, m39, m40, m42⟩⟩ := id hms
  obtain ⟨hqf, hqe, hqs, hqt⟩ := id hqn
  obtain ⟨qw, qh, qn, qk⟩ := id hqf
  have hn6 : rN F ≤ 6 := hrw.2.2.2.2.1
  have hm25 := Nat.mul_le_mul hrw.2.1 hrw.2.2.2.1
  have hm4 := Nat.mul_le_mul hrw.1 hrw.2.2.1
  refine g_aload_n C (pc := 0) dX12_isAsNow_0 0 rfl ?_
  refine g_getI C (pc := 1) fl_RX12_204 (by decide) (by first | assumption | rfl | omega) (by first | assumption | rfl | omega) dX12_isAsNow_1 ?_
  refine g_aload_n C (pc := 4) dX12_isAsNow_4 0 rfl ?_
  refine g_getR C (pc := 5) fl_RX12_7 (by decide) (by first | assumption | rfl | omega) (by first | assumption | rfl | omega) (by first | assumption | rfl | omega) dX12_isAsNow_5 ?_
  refine g_bipush C (pc := 8) 18 dX12_isAsNow_8 (by decide) ?_
  refine g_iald C (pc := 10) (by first | assumption | rfl | omega) (by first | assumption | rfl | omega) (vp_in_nI (n := 18) (by decide) (by decide)) dX12_isAsNow_10 ?_
  refine g_icmp_ne C (pc := 11) 18 dX12_isAsNow_11 (by decide) (fun c11 => ?_) (fun c11 => ?_)
  · refine g_iconst C (pc := 18) 0 dX12_isAsNow_18 (by decide) ?_
    refine g_istore_n C (pc := 19) dX12_isAsNow_19 (by decide) (fun v19 => [(1, .int v19), (0, .ref 97)]) (fun _ => rfl) (fun v19 ev19 => ?_)
    have h19 : v19 = bI (asJ F gl b 0 = true) := by
      have e0 : asJ F gl b 0 = decide (bM b = bM gl) := by unfold asJ; simp
      have hM2 := hbw.1
      have hG2 := hbg.1
      rw [ev19, e0]
      have h18 : I 98 (18 : Int32).toNatClampNeg = nI (bM gl) := hqt
      first
      | (rw [bI_t (decide_eq_true ((nI_eq (by omega) (by omega)).mp (by rw [← hqb.2, ← h18]; exact c11)))]; done)
      | (rw [bI_f (fun h => c11 (by rw [hqb.2, h18, of_decide_eq_true h]))]; done)
    refine g_iconst C (pc := 20) 0 dX12_isAsNow_20 (by decide) ?_
    refine g_istore_n C (pc := 21) dX12_isAsNow_21 (by decide) (fun v21 => [(2, .int v21), (1, .int v19), (0, .ref 97)]) (fun _ => rfl) (fun v21 ev21 => ?_)
    have L22 : ∀ (k9 : Nat) (j : Nat)  (wz2 : Int32) (wz1 : Int32) (hw2 : wz2 = nI j) (hj : j ≤ rN F) (hc : wz1 = bI (asJ F gl b j = true)), rN F - j < k9 → G κ n ρ 22 [(2, .int wz2), (1, .int wz1), (0, .ref 97)] [] I := by
      intro k9
      induction k9 with
      | zero => intro j wz2 wz1 hw2 hj hc hm22; exact absurd hm22 (Nat.not_lt_zero _)
      | succ k9 ih22 =>
        intro j wz2 wz1 hw2 hj hc hm22
        subst hw2
        refine g_iload_n C (pc := 22) dX12_isAsNow_22 0 rfl ?_
        refine g_aload_n C (pc := 23) dX12_isAsNow_23 2 rfl ?_
        refine g_getI C (pc := 24) fl_RX12_105 (by decide) (by first | assumption | rfl | omega) (by first | assumption | rfl | omega) dX12_isAsNow_24 ?_
        refine g_icmp_ge C (pc := 27) 81 dX12_isAsNow_27 (by decide) (fun c27 => ?_) (fun c27 => ?_)
        · rw [qn, nI_leI (by omega) (by omega)] at c27
          refine g_iload_n C (pc := 81) dX12_isAsNow_81 1 rfl ?_
          refine g_zret C hR (pc := 82) rfl (by rw [hc]; exact bI_nar) dX12_isAsNow_82 ?_
          refine ⟨rfl, _, rfl, ?_⟩
          have : j = rN F := by omega
          subst this; exact ⟨by rw [hc, asJ_all], rfl⟩
        · rw [qn, nI_ltI (by omega) (by omega)] at c27
          refine g_iload_n C (pc := 30) dX12_isAsNow_30 1 rfl ?_
          refine g_if_eq C (pc := 31) 73 dX12_isAsNow_31 (by decide) (fun c31 => ?_) (fun c31 => ?_)
          · refine g_iconst C (pc := 73) 0 dX12_isAsNow_73 (by decide) ?_
            refine g_istore_n C (pc := 74) dX12_isAsNow_74 (by decide) (fun v74 => [(1, .int v74), (2, .int (nI j)), (0, .ref 97)]) (fun _ => rfl) (fun v74 ev74 => ?_)
            refine g_iinc C (pc := 75) (1) dX12_isAsNow_75 1 rfl (by decide) (by decide) (fun v75 => [(2, .int v75), (1, .int v74), (0, .ref 97)]) (fun _ => rfl) (fun v75 ev75 => ?_)
            refine g_goto C (pc := 78) 22 dX12_isAsNow_78 (by decide) ?_
            refine g_lv C [0, 1, 2] rfl (ih22 (j + 1)  _ _ ?_ ?_ ?_ (by omega))
            · subst_vars; exact nI_1 _
            · omega
            · rw [ev74, asJ_s]
              first
              | (rw [bI_t (show (asJ F gl b j && asF F gl b j) = true by rw [bI_1.mp (fun h => c31 (hc.trans h))]; exact hgood)]; done)
              | (rw [bI_f (show ¬ (asJ F gl b j && asF F gl b j) = true by rw [hbad, Bool.and_false]; decide)]; done)
              | (rw [bI_f (fun h => bI_0.mp (hc.symm.trans c31) (Bool.and_eq_true_iff.mp h).1)]; done)
          · refine g_aload_n C (pc := 34) dX12_isAsNow_34 2 rfl ?_
            refine g_getR C (pc := 35) fl_RX12_35 (by decide) (by first | assumption | rfl | omega) (by first | assumption | rfl | omega) (by first | assumption | rfl | omega) dX12_isAsNow_35 ?_
            refine g_iload_n C (pc := 38) dX12_isAsNow_38 0 rfl ?_
            refine g_iald C (pc := 39) (by first | assumption | rfl | omega) (by first | assumption | rfl | omega) (vp_in_nI (by omega) (by decide)) dX12_isAsNow_39 ?_
            refine g_aload_n C (pc := 40) dX12_isAsNow_40 2 rfl ?_
            refine g_getR C (pc := 41) fl_RX12_7 (by decide) (by first | assumption | rfl | omega) (by first | assumption | rfl | omega) (by first | assumption | rfl | omega) dX12_isAsNow_41 ?_
            refine g_iconst C (pc := 44) 0 dX12_isAsNow_44 (by decide) ?_
            refine g_iload_n C (pc := 45) dX12_isAsNow_45 0 rfl ?_
            refine g_iadd C (pc := 46) dX12_isAsNow_46 ?_
            refine g_iald C (pc := 47) (by first | assumption | rfl | omega) (by first | assumption | rfl | omega) (by rw [Int32.zero_add]; exact vp_in_nI (by omega) (by decide)) dX12_isAsNow_47 ?_
            refine g_icmp_ne C (pc := 48) 73 dX12_isAsNow_48 (by decide) (fun c48 => ?_) (fun c48 => ?_)
            · have hbad : asF F gl b j = false := by
                rw [Int32.zero_add, nI_clamp (by omega), (hqb.1 j (by omega)).1, (hqs j (by omega)).1] at c48
                unfold asF
                rw [decide_eq_false (fun h => c48 (by rw [h]))]; rfl
              refine g_iconst C (pc := 73) 0 dX12_isAsNow_73 (by decide) ?_
              refine g_istore_n C (pc := 74) dX12_isAsNow_74 (by decide) (fun v74 => [(1, .int v74), (2, .int (nI j)), (0, .ref 97)]) (fun _ => rfl) (fun v74 ev74 => ?_)
              refine g_iinc C (pc := 75) (1) dX12_isAsNow_75 1 rfl (by decide) (by decide) (fun v75 => [(2, .int v75), (1, .int v74), (0, .ref 97)]) (fun _ => rfl) (fun v75 ev75 => ?_)
              refine g_goto C (pc := 78) 22 dX12_isAsNow_78 (by decide) ?_
              refine g_lv C [0, 1, 2] rfl (ih22 (j + 1)  _ _ ?_ ?_ ?_ (by omega))
              · subst_vars; exact nI_1 _
              · omega
              · rw [ev74, asJ_s]
                first
                | (rw [bI_t (show (asJ F gl b j && asF F gl b j) = true by rw [bI_1.mp (fun h => c31 (hc.trans h))]; exact hgood)]; done)
                | (rw [bI_f (show ¬ (asJ F gl b j && asF F gl b j) = true by rw [hbad, Bool.and_false]; decide)]; done)
                | (rw [bI_f (fun h => bI_0.mp (hc.symm.trans c31) (Bool.and_eq_true_iff.mp h).1)]; done)
            · have hg1 : bP b j = bP gl j := by
                rw [Int32.zero_add, nI_clamp (by omega), (hqb.1 j (by omega)).1, (hqs j (by omega)).1] at c48
                exact (oI_inj2 (pl_lt hbw (by omega)) (pl_lt hbg (by omega))).mp c48
              refine g_aload_n C (pc := 51) dX12_isAsNow_51 2 rfl ?_
              refine g_getR C (pc := 52) fl_RX12_38 (by decide) (by first | assumption | rfl | omega) (by first | assumption | rfl | omega) (by first | assumption | rfl | omega) dX12_isAsNow_52 ?_
              refine g_iload_n C (pc := 55) dX12_isAsNow_55 0 rfl ?_
              refine g_iald C (pc := 56) (by first | assumption | rfl | omega) (by first | assumption | rfl | omega) (vp_in_nI (by omega) (by decide)) dX12_isAsNow_56 ?_
              refine g_aload_n C (pc := 57) dX12_isAsNow_57 2 rfl ?_
              refine g_getR C (pc := 58) fl_RX12_7 (by decide) (by first | assumption | rfl | omega) (by first | assumption | rfl | omega) (by first | assumption | rfl | omega) dX12_isAsNow_58 ?_
              refine g_bipush C (pc := 61) 6 dX12_isAsNow_61 (by decide) ?_
              refine g_iload_n C (pc := 63) dX12_isAsNow_63 0 rfl ?_
              refine g_iadd C (pc := 64) dX12_isAsNow_64 ?_
              refine g_iald C (pc := 65) (by first | assumption | rfl | omega) (by first | assumption | rfl | omega) (by rw [show (6 : Int32) = nI 6 from rfl, nI_add]; exact vp_in_nI (by omega) (by decide)) dX12_isAsNow_65 ?_
              refine g_icmp_ne C (pc := 66) 73 dX12_isAsNow_66 (by decide) (fun c66 => ?_) (fun c66 => ?_)
              · have hbad : asF F gl b j = false := by
                  rw [show (6 : Int32) = nI 6 from rfl, nI_add, nI_clamp (by omega), nI_clamp (by omega), (hqb.1 j (by omega)).2, (hqs j (by omega)).2] at c66
                  unfold asF
                  rw [decide_eq_false (p := bO b j = bO gl j) (fun h => c66 (by rw [h])), Bool.and_false]
                refine g_iconst C (pc := 73) 0 dX12_isAsNow_73 (by decide) ?_
                refine g_istore_n C (pc := 74) dX12_isAsNow_74 (by decide) (fun v74 => [(1, .int v74), (2, .int (nI j)), (0, .ref 97)]) (fun _ => rfl) (fun v74 ev74 => ?_)
                refine g_iinc C (pc := 75) (1) dX12_isAsNow_75 1 rfl (by decide) (by decide) (fun v75 => [(2, .int v75), (1, .int v74), (0, .ref 97)]) (fun _ => rfl) (fun v75 ev75 => ?_)
                refine g_goto C (pc := 78) 22 dX12_isAsNow_78 (by decide) ?_
                refine g_lv C [0, 1, 2] rfl (ih22 (j + 1)  _ _ ?_ ?_ ?_ (by omega))
                · subst_vars; exact nI_1 _
                · omega
                · rw [ev74, asJ_s]
                  first
                  | (rw [bI_t (show (asJ F gl b j && asF F gl b j) = true by rw [bI_1.mp (fun h => c31 (hc.trans h))]; exact hgood)]; done)
                  | (rw [bI_f (show ¬ (asJ F gl b j && asF F gl b j) = true by rw [hbad, Bool.and_false]; decide)]; done)
                  | (rw [bI_f (fun h => bI_0.mp (hc.symm.trans c31) (Bool.and_eq_true_iff.mp h).1)]; done)
              · have hgood : asF F gl b j = true := by
                  rw [show (6 : Int32) = nI 6 from rfl, nI_add, nI_clamp (by omega), nI_clamp (by omega), (hqb.1 j (by omega)).2, (hqs j (by omega)).2] at c66
                  have h1 := (hbw.2.1 j (by omega)).2
                  have h2 := (hbg.2.1 j (by omega)).2
                  unfold asF
                  rw [decide_eq_true hg1, decide_eq_true ((nI_eq (by omega) (by omega)).mp c66)]; rfl
                refine g_iconst C (pc := 69) 1 dX12_isAsNow_69 (by decide) ?_
                refine g_goto C (pc := 70) 74 dX12_isAsNow_70 (by decide) ?_
                refine g_istore_n C (pc := 74) dX12_isAsNow_74 (by decide) (fun v74 => [(1, .int v74), (2, .int (nI j)), (0, .ref 97)]) (fun _ => rfl) (fun v74 ev74 => ?_)
                refine g_iinc C (pc := 75) (1) dX12_isAsNow_75 1 rfl (by decide) (by decide) (fun v75 => [(2, .int v75), (1, .int v74), (0, .ref 97)]) (fun _ => rfl) (fun v75 ev75 => ?_)
                refine g_goto C (pc := 78) 22 dX12_isAsNow_78 (by decide) ?_
                refine g_lv C [0, 1, 2] rfl (ih22 (j + 1)  _ _ ?_ ?_ ?_ (by omega))
                · subst_vars; exact nI_1 _
                · omega
                · rw [ev74, asJ_s]
                  first
                  | (rw [bI_t (show (asJ F gl b j && asF F gl b j) = true by rw [bI_1.mp (fun h => c31 (hc.trans h))]; exact hgood)]; done)
                  | (rw [bI_f (show ¬ (asJ F gl b j && asF F gl b j) = true by rw [hbad, Bool.and_false]; decide)]; done)
                  | (rw [bI_f (fun h => bI_0.mp (hc.symm.trans c31) (Bool.and_eq_true_iff.mp h).1)]; done)
    refine g_lv C [0, 1, 2] rfl (L22 (_ + 1) 0  _ _ ?_ ?_ ?_ (by first | omega | exact Nat.lt_succ_self _))
    · assumption
    · omega
    · exact h19
  · refine g_iconst C (pc := 14) 1 dX12_isAsNow_14 (by decide) ?_
    refine g_goto C (pc := 15) 19 dX12_isAsNow_15 (by decide) ?_
    refine g_istore_n C (pc := 19) dX12_isAsNow_19 (by decide) (fun v19 => [(1, .int v19), (0, .ref 97)]) (fun _ => rfl) (fun v19 ev19 => ?_)
    have h19 : v19 = bI (asJ F gl b 0 = true) := by
      have e0 : asJ F gl b 0 = decide (bM b = bM gl) := by unfold asJ; simp
      have hM2 := hbw.1
      have hG2 := hbg.1
      rw [ev19, e0]
      have h18 : I 98 (18 : Int32).toNatClampNeg = nI (bM gl) := hqt
      first
      | (rw [bI_t (decide_eq_true ((nI_eq (by omega) (by omega)).mp (by rw [← hqb.2, ← h18]; exact c11)))]; done)
      | (rw [bI_f (fun h => c11 (by rw [hqb.2, h18, of_decide_eq_true h]))]; done)
    refine g_iconst C (pc := 20) 0 dX12_isAsNow_20 (by decide) ?_
    refine g_istore_n C (pc := 21) dX12_isAsNow_21 (by decide) (fun v21 => [(2, .int v21), (1, .int v19), (0, .ref 97)]) (fun _ => rfl) (fun v21 ev21 => ?_)
    have L22 : ∀ (k9 : Nat) (j : Nat)  (wz2 : Int32) (wz1 : Int32) (hw2 : wz2 = nI j) (hj : j ≤ rN F) (hc : wz1 = bI (asJ F gl b j = true)), rN F - j < k9 → G κ n ρ 22 [(2, .int wz2), (1, .int wz1), (0, .ref 97)] [] I := by
      intro k9
      induction k9 with
      | zero => intro j wz2 wz1 hw2 hj hc hm22; exact absurd hm22 (Nat.not_lt_zero _)
      | succ k9 ih22 =>
        intro j wz2 wz1 hw2 hj hc hm22
        subst hw2
        refine g_iload_n C (pc := 22) dX12_isAsNow_22 0 rfl ?_
        refine g_aload_n C (pc := 23) dX12_isAsNow_23 2 rfl ?_
        refine g_getI C (pc := 24) fl_RX12_105 (by decide) (by first | assumption | rfl | omega) (by first | assumption | rfl | omega) dX12_isAsNow_24 ?_
        refine g_icmp_ge C (pc := 27) 81 dX12_isAsNow_27 (by decide) (fun c27 => ?_) (fun c27 => ?_)
        · rw [qn, nI_leI (by omega) (by omega)] at c27
          refine g_iload_n C (pc := 81) dX12_isAsNow_81 1 rfl ?_
          refine g_zret C hR (pc := 82) rfl (by rw [hc]; exact bI_nar) dX12_isAsNow_82 ?_
          refine ⟨rfl, _, rfl, ?_⟩
          have : j = rN F := by omega
          subst this; exact ⟨by rw [hc, asJ_all], rfl⟩
        · rw [qn, nI_ltI (by omega) (by omega)] at c27
          refine g_iload_n C (pc := 30) dX12_isAsNow_30 1 rfl ?_
          refine g_if_eq C (pc := 31) 73 dX12_isAsNow_31 (by decide) (fun c31 => ?_) (fun c31 => ?_)
          · refine g_iconst C (pc := 73) 0 dX12_isAsNow_73 (by decide) ?_
            refine g_istore_n C (pc := 74) dX12_isAsNow_74 (by decide) (fun v74 => [(1, .int v74), (2, .int (nI j)), (0, .ref 97)]) (fun _ => rfl) (fun v74 ev74 => ?_)
            refine g_iinc C (pc := 75) (1) dX12_isAsNow_75 1 rfl (by decide) (by decide) (fun v75 => [(2, .int v75), (1, .int v74), (0, .ref 97)]) (fun _ => rfl) (fun v75 ev75 => ?_)
            refine g_goto C (pc := 78) 22 dX12_isAsNow_78 (by decide) ?_
            refine g_lv C [0, 1, 2] rfl (ih22 (j + 1)  _ _ ?_ ?_ ?_ (by omega))
            · subst_vars; exact nI_1 _
            · omega
            · rw [ev74, asJ_s]
              first
              | (rw [bI_t (show (asJ F gl b j && asF F gl b j) = true by rw [bI_1.mp (fun h => c31 (hc.trans h))]; exact hgood)]; done)
              | (rw [bI_f (show ¬ (asJ F gl b j && asF F gl b j) = true by rw [hbad, Bool.and_false]; decide)]; done)
              | (rw [bI_f (fun h => bI_0.mp (hc.symm.trans c31) (Bool.and_eq_true_iff.mp h).1)]; done)
          · refine g_aload_n C (pc := 34) dX12_isAsNow_34 2 rfl ?_
            refine g_getR C (pc := 35) fl_RX12_35 (by decide) (by first | assumption | rfl | omega) (by first | assumption | rfl | omega) (by first | assumption | rfl | omega) dX12_isAsNow_35 ?_
            refine g_iload_n C (pc := 38) dX12_isAsNow_38 0 rfl ?_
            refine g_iald C (pc := 39) (by first | assumption | rfl | omega) (by first | assumption | rfl | omega) (vp_in_nI (by omega) (by decide)) dX12_isAsNow_39 ?_
            refine g_aload_n C (pc := 40) dX12_isAsNow_40 2 rfl ?_
            refine g_getR C (pc := 41) fl_RX12_7 (by decide) (by first | assumption | rfl | omega) (by first | assumption | rfl | omega) (by first | assumption | rfl | omega) dX12_isAsNow_41 ?_
            refine g_iconst C (pc := 44) 0 dX12_isAsNow_44 (by decide) ?_
            refine g_iload_n C (pc := 45) dX12_isAsNow_45 0 rfl ?_
            refine g_iadd C (pc := 46) dX12_isAsNow_46 ?_
            refine g_iald C (pc := 47) (by first | assumption | rfl | omega) (by first | assumption | rfl | omega) (by rw [Int32.zero_add]; exact vp_in_nI (by omega) (by decide)) dX12_isAsNow_47 ?_
            refine g_icmp_ne C (pc := 48) 73 dX12_isAsNow_48 (by decide) (fun c48 => ?_) (fun c48 => ?_)
            · have hbad : asF F gl b j = false := by
                rw [Int32.zero_add, nI_clamp (by omega), (hqb.1 j (by omega)).1, (hqs j (by omega)).1] at c48
                unfold asF
                rw [decide_eq_false (fun h => c48 (by rw [h]))]; rfl
              refine g_iconst C (pc := 73) 0 dX12_isAsNow_73 (by decide) ?_
              refine g_istore_n C (pc := 74) dX12_isAsNow_74 (by decide) (fun v74 => [(1, .int v74), (2, .int (nI j)), (0, .ref 97)]) (fun _ => rfl) (fun v74 ev74 => ?_)
              refine g_iinc C (pc := 75) (1) dX12_isAsNow_75 1 rfl (by decide) (by decide) (fun v75 => [(2, .int v75), (1, .int v74), (0, .ref 97)]) (fun _ => rfl) (fun v75 ev75 => ?_)
              refine g_goto C (pc := 78) 22 dX12_isAsNow_78 (by decide) ?_
              refine g_lv C [0, 1, 2] rfl (ih22 (j + 1)  _ _ ?_ ?_ ?_ (by omega))
              · subst_vars; exact nI_1 _
              · omega
              · rw [ev74, asJ_s]
                first
                | (rw [bI_t (show (asJ F gl b j && asF F gl b j) = true by rw [bI_1.mp (fun h => c31 (hc.trans h))]; exact hgood)]; done)
                | (rw [bI_f (show ¬ (asJ F gl b j && asF F gl b j) = true by rw [hbad, Bool.and_false]; decide)]; done)
                | (rw [bI_f (fun h => bI_0.mp (hc.symm.trans c31) (Bool.and_eq_true_iff.mp h).1)]; done)
            · have hg1 : bP b j = bP gl j := by
                rw [Int32.zero_add, nI_clamp (by omega), (hqb.1 j (by omega)).1, (hqs j (by omega)).1] at c48
                exact (oI_inj2 (pl_lt hbw (by omega)) (pl_lt hbg (by omega))).mp c48
              refine g_aload_n C (pc := 51) dX12_isAsNow_51 2 rfl ?_
              refine g_getR C (pc := 52) fl_RX12_38 (by decide) (by first | assumption | rfl | omega) (by first | assumption | rfl | omega) (by first | assumption | rfl | omega) dX12_isAsNow_52 ?_
              refine g_iload_n C (pc := 55) dX12_isAsNow_55 0 rfl ?_
              refine g_iald C (pc := 56) (by first | assumption | rfl | omega) (by first | assumption | rfl | omega) (vp_in_nI (by omega) (by decide)) dX12_isAsNow_56 ?_
              refine g_aload_n C (pc := 57) dX12_isAsNow_57 2 rfl ?_
              refine g_getR C (pc := 58) fl_RX12_7 (by decide) (by first | assumption | rfl | omega) (by first | assumption | rfl | omega) (by first | assumption | rfl | omega) dX12_isAsNow_58 ?_
              refine g_bipush C (pc := 61) 6 dX12_isAsNow_61 (by decide) ?_
              refine g_iload_n C (pc := 63) dX12_isAsNow_63 0 rfl ?_
              refine g_iadd C (pc := 64) dX12_isAsNow_64 ?_
              refine g_iald C (pc := 65) (by first | assumption | rfl | omega) (by first | assumption | rfl | omega) (by rw [show (6 : Int32) = nI 6 from rfl, nI_add]; exact vp_in_nI (by omega) (by decide)) dX12_isAsNow_65 ?_
              refine g_icmp_ne C (pc := 66) 73 dX12_isAsNow_66 (by decide) (fun c66 => ?_) (fun c66 => ?_)
              · have hbad : asF F gl b j = false := by
                  rw [show (6 : Int32) = nI 6 from rfl, nI_add, nI_clamp (by omega), nI_clamp (by omega), (hqb.1 j (by omega)).2, (hqs j (by omega)).2] at c66
                  unfold asF
                  rw [decide_eq_false (p := bO b j = bO gl j) (fun h => c66 (by rw [h])), Bool.and_false]
                refine g_iconst C (pc := 73) 0 dX12_isAsNow_73 (by decide) ?_
                refine g_istore_n C (pc := 74) dX12_isAsNow_74 (by decide) (fun v74 => [(1, .int v74), (2, .int (nI j)), (0, .ref 97)]) (fun _ => rfl) (fun v74 ev74 => ?_)
                refine g_iinc C (pc := 75) (1) dX12_isAsNow_75 1 rfl (by decide) (by decide) (fun v75 => [(2, .int v75), (1, .int v74), (0, .ref 97)]) (fun _ => rfl) (fun v75 ev75 => ?_)
                refine g_goto C (pc := 78) 22 dX12_isAsNow_78 (by decide) ?_
                refine g_lv C [0, 1, 2] rfl (ih22 (j + 1)  _ _ ?_ ?_ ?_ (by omega))
                · subst_vars; exact nI_1 _
                · omega
                · rw [ev74, asJ_s]
                  first
                  | (rw [bI_t (show (asJ F gl b j && asF F gl b j) = true by rw [bI_1.mp (fun h => c31 (hc.trans h))]; exact hgood)]; done)
                  | (rw [bI_f (show ¬ (asJ F gl b j && asF F gl b j) = true by rw [hbad, Bool.and_false]; decide)]; done)
                  | (rw [bI_f (fun h => bI_0.mp (hc.symm.trans c31) (Bool.and_eq_true_iff.mp h).1)]; done)
              · have hgood : asF F gl b j = true := by
                  rw [show (6 : Int32) = nI 6 from rfl, nI_add, nI_clamp (by omega), nI_clamp (by omega), (hqb.1 j (by omega)).2, (hqs j (by omega)).2] at c66
                  have h1 := (hbw.2.1 j (by omega)).2
                  have h2 := (hbg.2.1 j (by omega)).2
                  unfold asF
                  rw [decide_eq_true hg1, decide_eq_true ((nI_eq (by omega) (by omega)).mp c66)]; rfl
                refine g_iconst C (pc := 69) 1 dX12_isAsNow_69 (by decide) ?_
                refine g_goto C (pc := 70) 74 dX12_isAsNow_70 (by decide) ?_
                refine g_istore_n C (pc := 74) dX12_isAsNow_74 (by decide) (fun v74 => [(1, .int v74), (2, .int (nI j)), (0, .ref 97)]) (fun _ => rfl) (fun v74 ev74 => ?_)
                refine g_iinc C (pc := 75) (1) dX12_isAsNow_75 1 rfl (by decide) (by decide) (fun v75 => [(2, .int v75), (1, .int v74), (0, .ref 97)]) (fun _ => rfl) (fun v75 ev75 => ?_)
                refine g_goto C (pc := 78) 22 dX12_isAsNow_78 (by decide) ?_
                refine g_lv C [0, 1, 2] rfl (ih22 (j + 1)  _ _ ?_ ?_ ?_ (by omega))
                · subst_vars; exact nI_1 _
                · omega
                · rw [ev74, asJ_s]
                  first
                  | (rw [bI_t (show (asJ F gl b j && asF F gl b j) = true by rw [bI_1.mp (fun h => c31 (hc.trans h))]; exact hgood)]; done)
                  | (rw [bI_f (show ¬ (asJ F gl b j && asF F gl b j) = true by rw [hbad, Bool.and_false]; decide)]; done)
                  | (rw [bI_f (fun h => bI_0.mp (hc.symm.trans c31) (Bool.and_eq_true_iff.mp h).1)]; done)
    refine g_lv C [0, 1, 2] rfl (L22 (_ + 1) 0  _ _ ?_ ?_ ?_ (by first | omega | exact Nat.lt_succ_self _))
    · assumption
    · omega
    · exact h19
set_option maxHeartbeats 400000 in
theorem c_X12_isAsSeen (n : Nat) (ρ : Rho) (I : Mem) (F : RT) (b : BT) (sn : Nat) (sq : Nat → Nat) (sd : Nat → Option Nat) (hn9 : n ≤ 999) (hms : MS n ρ) (hqf : QF I F) (hrw : RW F) (hqb : QB I F b) (hbw : BW F b) (hsm : SnM I sn sq sd) : MI yX12_isAsSeen cX12_isAsSeen 4 (some .boolean) 1 [.ref 97] n ρ I (fun v I1 => v = bI (seeB F sn sq sd b = true) ∧ I = I1) := by
  refine MG.of (by decide +kernel) (Nat.le_of_ble_eq_true rfl) hn9 ?_
  intro κ C hR
  show G κ n ρ 0 [(0, .ref 97)] [] I
  obtain ⟨mn, ⟨m0, m1, m5, m6, m7, m11, m12, m15⟩, ⟨m23, m24, m26, m27, m28, m30, m31, m32, m33⟩, ⟨m38, m39, m40, m42⟩⟩ := id hms
  obtain ⟨qw, qh, qn, qk⟩ := id hqf
  have hn6 : rN F ≤ 6 := hrw.2.2.2.2.1
  have hm25 := Nat.mul_le_mul hrw.2.1 hrw.2.2.2.1
  have hm4 := Nat.mul_le_mul hrw.1 hrw.2.2.1
  have hsn8 := hsm.2.1
  refine g_iconst C (pc := 0) 1 dX12_isAsSeen_0 (by decide) ?_
  refine g_istore_n C (pc := 1) dX12_isAsSeen_1 (by decide) (fun v1 => [(1, .int v1), (0, .ref 97)]) (fun _ => rfl) (fun v1 ev1 => ?_)
  refine g_iconst C (pc := 2) 0 dX12_isAsSeen_2 (by decide) ?_
  refine g_istore_n C (pc := 3) dX12_isAsSeen_3 (by decide) (fun v3 => [(2, .int v3), (1, .int v1), (0, .ref 97)]) (fun _ => rfl) (fun v3 ev3 => ?_)
  have L4 : ∀ (k9 : Nat) (j : Nat)  (wz2 : Int32) (wz1 : Int32) (hw2 : wz2 = nI j) (hj : j ≤ sn) (hc : wz1 = bI (seJ F sq sd b j = true)), sn - j < k9 → G κ n ρ 4 [(2, .int wz2), (1, .int wz1), (0, .ref 97)] [] I := by
    intro k9
    induction k9 with
    | zero => intro j wz2 wz1 hw2 hj hc hm4; exact absurd hm4 (Nat.not_lt_zero _)
    | succ k9 ih4 =>
      intro j wz2 wz1 hw2 hj hc hm4
      subst hw2
      refine g_iload_n C (pc := 4) dX12_isAsSeen_4 0 rfl ?_
      refine g_aload_n C (pc := 5) dX12_isAsSeen_5 2 rfl ?_
      refine g_getR C (pc := 6) fl_RX12_7 (by decide) (by first | assumption | rfl | omega) (by first | assumption | rfl | omega) (by first | assumption | rfl | omega) dX12_isAsSeen_6 ?_
      refine g_bipush C (pc := 9) 20 dX12_isAsSeen_9 (by decide) ?_
      refine g_iald C (pc := 11) (by first | assumption | rfl | omega) (by first | assumption | rfl | omega) (vp_in_nI (n := 20) (by decide) (by decide)) dX12_isAsSeen_11 ?_
      refine g_icmp_ge C (pc := 12) 80 dX12_isAsSeen_12 (by decide) (fun c12 => ?_) (fun c12 => ?_)
      · rw [show I 98 (20 : Int32).toNatClampNeg = nI sn from hsm.1, nI_leI (by omega) (by omega)] at c12
        refine g_iload_n C (pc := 80) dX12_isAsSeen_80 1 rfl ?_
        refine g_zret C hR (pc := 81) rfl (by rw [hc]; exact bI_nar) dX12_isAsSeen_81 ?_
        refine ⟨rfl, _, rfl, ?_⟩
        have : j = sn := by omega
        subst this; exact ⟨by rw [hc, seJ_all], rfl⟩
      · rw [show I 98 (20 : Int32).toNatClampNeg = nI sn from hsm.1, nI_ltI (by omega) (by omega)] at c12
        obtain ⟨g1, g2, g3, g4⟩ := hsm.2.2 j c12
        have hi1 : (21 + 2 * nI j).toNatClampNeg = 21 + 2 * j := by rw [show (2 : Int32) = nI 2 from rfl, show (21 : Int32) = nI 21 from rfl, pk_mul, nI_add]; exact nI_clamp (by omega)
        have hi2 : (21 + 2 * nI j + 1).toNatClampNeg = 22 + 2 * j := by
          rw [show (2 : Int32) = nI 2 from rfl, show (21 : Int32) = nI 21 from rfl, pk_mul, nI_add, nI_1]; rw [nI_clamp (by omega)]; omega
        refine g_aload_n C (pc := 15) dX12_isAsSeen_15 2 rfl ?_
        refine g_aload_n C (pc := 16) dX12_isAsSeen_16 2 rfl ?_
        refine g_getR C (pc := 17) fl_RX12_7 (by decide) (by first | assumption | rfl | omega) (by first | assumption | rfl | omega) (by first | assumption | rfl | omega) dX12_isAsSeen_17 ?_
        refine g_bipush C (pc := 20) 21 dX12_isAsSeen_20 (by decide) ?_
        refine g_iconst C (pc := 22) 2 dX12_isAsSeen_22 (by decide) ?_
        refine g_iload_n C (pc := 23) dX12_isAsSeen_23 0 rfl ?_
        refine g_imul C (pc := 24) dX12_isAsSeen_24 ?_
        refine g_iadd C (pc := 25) dX12_isAsSeen_25 ?_
        refine g_iald C (pc := 26) (by first | assumption | rfl | omega) (by first | assumption | rfl | omega) (by rw [show (2 : Int32) = nI 2 from rfl, show (21 : Int32) = nI 21 from rfl, pk_mul, nI_add]; exact vp_in_nI (by omega) (by decide)) dX12_isAsSeen_26 ?_
        refine g_callVI C (pc := 27) mf_X12_pieceAt lk_RX12_218 (c_X12_pieceAt n ρ I F b (sq j) _ hn9 hms hqf hrw hqb hbw (by omega) (by rw [hi1, g1])) (by decide) (Nat.le_refl _) rfl (by first | assumption | rfl | omega) rfl (by first | assumption | rfl | omega) (Nat.le_of_ble_eq_true rfl) dX12_isAsSeen_27 (fun v27 I27 h27 => ?_)
        obtain ⟨e27, rfl⟩ := h27
        refine g_istore_n C (pc := 30) dX12_isAsSeen_30 (by decide) (fun v30 => [(3, .int v30), (2, .int (nI j)), (1, .int wz1), (0, .ref 97)]) (fun _ => rfl) (fun v30 ev30 => ?_)
        refine g_iload_n C (pc := 31) dX12_isAsSeen_31 2 rfl ?_
        refine g_if_eq C (pc := 32) 72 dX12_isAsSeen_32 (by decide) (fun c32 => ?_) (fun c32 => ?_)
        · refine g_iconst C (pc := 72) 0 dX12_isAsSeen_72 (by decide) ?_
          refine g_istore_n C (pc := 73) dX12_isAsSeen_73 (by decide) (fun v73 => [(1, .int v73), (3, .int v30), (2, .int (nI j)), (0, .ref 97)]) (fun _ => rfl) (fun v73 ev73 => ?_)
          refine g_iinc C (pc := 74) (1) dX12_isAsSeen_74 2 rfl (by decide) (by decide) (fun v74 => [(2, .int v74), (1, .int v73), (3, .int v30), (0, .ref 97)]) (fun _ => rfl) (fun v74 ev74 => ?_)
          refine g_goto C (pc := 77) 4 dX12_isAsSeen_77 (by decide) ?_
          refine g_lv C [0, 1, 3] rfl (ih4 (j + 1)  _ _ ?_ ?_ ?_ (by omega))
          · subst_vars; exact nI_1 _
          · omega
          · rw [ev73, seJ_s]
            first
            | (rw [bI_t (show (seJ F sq sd b j && seF F sq sd b j) = true by rw [bI_1.mp (fun h => c32 (hc.trans h))]; exact hgood)]; done)
            | (rw [bI_f (show ¬ (seJ F sq sd b j && seF F sq sd b j) = true by rw [hbad, Bool.and_false]; decide)]; done)
            | (rw [bI_f (fun h => bI_0.mp (hc.symm.trans c32) (Bool.and_eq_true_iff.mp h).1)]; done)
        · refine g_iload_n C (pc := 35) dX12_isAsSeen_35 0 rfl ?_
          refine g_bipush C (pc := 36) (-4) dX12_isAsSeen_36 (by decide) ?_
          refine g_icmp_ne C (pc := 38) 46 dX12_isAsSeen_38 (by decide) (fun c38 => ?_) (fun c38 => ?_)
          · obtain ⟨t9, ht9⟩ : ∃ t9, pon F b (sq j) = some t9 := by
              cases h9 : pon F b (sq j) with
              | none => exact absurd (by rw [ev30, e27, h9]; rfl) c38
              | some t9 => exact ⟨t9, rfl⟩
            have ht6 := (pon_some ht9).1
            have h30 : v30 = nI t9 := by rw [ev30, e27, ht9]; rfl
            have hval : I 100 v30.toNatClampNeg = oI ((pon F b (sq j)).map (rSd F)) := by rw [h30, nI_clamp (by omega), ht9, (qk t9 ht6).1]; rfl
            refine g_aload_n C (pc := 46) dX12_isAsSeen_46 3 rfl ?_
            refine g_getR C (pc := 47) fl_RX12_17 (by decide) (by first | assumption | rfl | omega) (by first | assumption | rfl | omega) (by first | assumption | rfl | omega) dX12_isAsSeen_47 ?_
            refine g_iload_n C (pc := 50) dX12_isAsSeen_50 0 rfl ?_
            refine g_iald C (pc := 51) (by first | assumption | rfl | omega) (by first | assumption | rfl | omega) (by rw [h30]; exact vp_in_nI (by omega) (by decide)) dX12_isAsSeen_51 ?_
            refine g_aload_n C (pc := 52) dX12_isAsSeen_52 3 rfl ?_
            refine g_getR C (pc := 53) fl_RX12_7 (by decide) (by first | assumption | rfl | omega) (by first | assumption | rfl | omega) (by first | assumption | rfl | omega) dX12_isAsSeen_53 ?_
            refine g_bipush C (pc := 56) 21 dX12_isAsSeen_56 (by decide) ?_
            refine g_iconst C (pc := 58) 2 dX12_isAsSeen_58 (by decide) ?_
            refine g_iload_n C (pc := 59) dX12_isAsSeen_59 1 rfl ?_
            refine g_imul C (pc := 60) dX12_isAsSeen_60 ?_
            refine g_iadd C (pc := 61) dX12_isAsSeen_61 ?_
            refine g_iconst C (pc := 62) 1 dX12_isAsSeen_62 (by decide) ?_
            refine g_iadd C (pc := 63) dX12_isAsSeen_63 ?_
            refine g_iald C (pc := 64) (by first | assumption | rfl | omega) (by first | assumption | rfl | omega) (by rw [show (2 : Int32) = nI 2 from rfl, show (21 : Int32) = nI 21 from rfl, pk_mul, nI_add, nI_1]; exact vp_in_nI (by omega) (by decide)) dX12_isAsSeen_64 ?_
            refine g_icmp_ne C (pc := 65) 72 dX12_isAsSeen_65 (by decide) (fun c65 => ?_) (fun c65 => ?_)
            · have hbad : seF F sq sd b j = false := by
                rw [hi2, g3] at c65
                exact decide_eq_false (fun h => c65 (hval.trans (by rw [h])))
              refine g_iconst C (pc := 72) 0 dX12_isAsSeen_72 (by decide) ?_
              refine g_istore_n C (pc := 73) dX12_isAsSeen_73 (by decide) (fun v73 => [(1, .int v73), (3, .int v30), (2, .int (nI j)), (0, .ref 97)]) (fun _ => rfl) (fun v73 ev73 => ?_)
              refine g_iinc C (pc := 74) (1) dX12_isAsSeen_74 2 rfl (by decide) (by decide) (fun v74 => [(2, .int v74), (1, .int v73), (3, .int v30), (0, .ref 97)]) (fun _ => rfl) (fun v74 ev74 => ?_)
              refine g_goto C (pc := 77) 4 dX12_isAsSeen_77 (by decide) ?_
              refine g_lv C [0, 1, 3] rfl (ih4 (j + 1)  _ _ ?_ ?_ ?_ (by omega))
              · subst_vars; exact nI_1 _
              · omega
              · rw [ev73, seJ_s]
                first
                | (rw [bI_t (show (seJ F sq sd b j && seF F sq sd b j) = true by rw [bI_1.mp (fun h => c32 (hc.trans h))]; exact hgood)]; done)
                | (rw [bI_f (show ¬ (seJ F sq sd b j && seF F sq sd b j) = true by rw [hbad, Bool.and_false]; decide)]; done)
                | (rw [bI_f (fun h => bI_0.mp (hc.symm.trans c32) (Bool.and_eq_true_iff.mp h).1)]; done)
            · have hgood : seF F sq sd b j = true := by
                rw [hi2, g3] at c65
                exact decide_eq_true ((oI_inj2 (a := (pon F b (sq j)).map (rSd F)) (fun q hq => by have := pon_side hrw hq; omega) (fun q hq => by have := g4 q hq; omega)).mp (hval.symm.trans c65))
              refine g_iconst C (pc := 68) 1 dX12_isAsSeen_68 (by decide) ?_
              refine g_goto C (pc := 69) 73 dX12_isAsSeen_69 (by decide) ?_
              refine g_istore_n C (pc := 73) dX12_isAsSeen_73 (by decide) (fun v73 => [(1, .int v73), (3, .int v30), (2, .int (nI j)), (0, .ref 97)]) (fun _ => rfl) (fun v73 ev73 => ?_)
              refine g_iinc C (pc := 74) (1) dX12_isAsSeen_74 2 rfl (by decide) (by decide) (fun v74 => [(2, .int v74), (1, .int v73), (3, .int v30), (0, .ref 97)]) (fun _ => rfl) (fun v74 ev74 => ?_)
              refine g_goto C (pc := 77) 4 dX12_isAsSeen_77 (by decide) ?_
              refine g_lv C [0, 1, 3] rfl (ih4 (j + 1)  _ _ ?_ ?_ ?_ (by omega))
              · subst_vars; exact nI_1 _
              · omega
              · rw [ev73, seJ_s]
                first
                | (rw [bI_t (show (seJ F sq sd b j && seF F sq sd b j) = true by rw [bI_1.mp (fun h => c32 (hc.trans h))]; exact hgood)]; done)
                | (rw [bI_f (show ¬ (seJ F sq sd b j && seF F sq sd b j) = true by rw [hbad, Bool.and_false]; decide)]; done)
                | (rw [bI_f (fun h => bI_0.mp (hc.symm.trans c32) (Bool.and_eq_true_iff.mp h).1)]; done)
          · have hpn : pon F b (sq j) = none := by
              rw [ev30, e27] at c38
              exact (oI_none (fun z hz => by have := (pon_some hz).1; omega)).mp c38
            have hval : (-4 : Int32) = oI ((pon F b (sq j)).map (rSd F)) := by rw [hpn]; rfl
            refine g_bipush C (pc := 41) (-4) dX12_isAsSeen_41 (by decide) ?_
            refine g_goto C (pc := 43) 52 dX12_isAsSeen_43 (by decide) ?_
            refine g_aload_n C (pc := 52) dX12_isAsSeen_52 3 rfl ?_
            refine g_getR C (pc := 53) fl_RX12_7 (by decide) (by first | assumption | rfl | omega) (by first | assumption | rfl | omega) (by first | assumption | rfl | omega) dX12_isAsSeen_53 ?_
            refine g_bipush C (pc := 56) 21 dX12_isAsSeen_56 (by decide) ?_
            refine g_iconst C (pc := 58) 2 dX12_isAsSeen_58 (by decide) ?_
            refine g_iload_n C (pc := 59) dX12_isAsSeen_59 1 rfl ?_
            refine g_imul C (pc := 60) dX12_isAsSeen_60 ?_
            refine g_iadd C (pc := 61) dX12_isAsSeen_61 ?_
            refine g_iconst C (pc := 62) 1 dX12_isAsSeen_62 (by decide) ?_
            refine g_iadd C (pc := 63) dX12_isAsSeen_63 ?_
            refine g_iald C (pc := 64) (by first | assumption | rfl | omega) (by first | assumption | rfl | omega) (by rw [show (2 : Int32) = nI 2 from rfl, show (21 : Int32) = nI 21 from rfl, pk_mul, nI_add, nI_1]; exact vp_in_nI (by omega) (by decide)) dX12_isAsSeen_64 ?_
            refine g_icmp_ne C (pc := 65) 72 dX12_isAsSeen_65 (by decide) (fun c65 => ?_) (fun c65 => ?_)
            · have hbad : seF F sq sd b j = false := by
                rw [hi2, g3] at c65
                exact decide_eq_false (fun h => c65 (hval.trans (by rw [h])))
              refine g_iconst C (pc := 72) 0 dX12_isAsSeen_72 (by decide) ?_
              refine g_istore_n C (pc := 73) dX12_isAsSeen_73 (by decide) (fun v73 => [(1, .int v73), (3, .int v30), (2, .int (nI j)), (0, .ref 97)]) (fun _ => rfl) (fun v73 ev73 => ?_)
              refine g_iinc C (pc := 74) (1) dX12_isAsSeen_74 2 rfl (by decide) (by decide) (fun v74 => [(2, .int v74), (1, .int v73), (3, .int v30), (0, .ref 97)]) (fun _ => rfl) (fun v74 ev74 => ?_)
              refine g_goto C (pc := 77) 4 dX12_isAsSeen_77 (by decide) ?_
              refine g_lv C [0, 1, 3] rfl (ih4 (j + 1)  _ _ ?_ ?_ ?_ (by omega))
              · subst_vars; exact nI_1 _
              · omega
              · rw [ev73, seJ_s]
                first
                | (rw [bI_t (show (seJ F sq sd b j && seF F sq sd b j) = true by rw [bI_1.mp (fun h => c32 (hc.trans h))]; exact hgood)]; done)
                | (rw [bI_f (show ¬ (seJ F sq sd b j && seF F sq sd b j) = true by rw [hbad, Bool.and_false]; decide)]; done)
                | (rw [bI_f (fun h => bI_0.mp (hc.symm.trans c32) (Bool.and_eq_true_iff.mp h).1)]; done)
            · have hgood : seF F sq sd b j = true := by
                rw [hi2, g3] at c65
                exact decide_eq_true ((oI_inj2 (a := (pon F b (sq j)).map (rSd F)) (fun q hq => by have := pon_side hrw hq; omega) (fun q hq => by have := g4 q hq; omega)).mp (hval.symm.trans c65))
              refine g_iconst C (pc := 68) 1 dX12_isAsSeen_68 (by decide) ?_
              refine g_goto C (pc := 69) 73 dX12_isAsSeen_69 (by decide) ?_
              refine g_istore_n C (pc := 73) dX12_isAsSeen_73 (by decide) (fun v73 => [(1, .int v73), (3, .int v30), (2, .int (nI j)), (0, .ref 97)]) (fun _ => rfl) (fun v73 ev73 => ?_)
              refine g_iinc C (pc := 74) (1) dX12_isAsSeen_74 2 rfl (by decide) (by decide) (fun v74 => [(2, .int v74), (1, .int v73), (3, .int v30), (0, .ref 97)]) (fun _ => rfl) (fun v74 ev74 => ?_)
              refine g_goto C (pc := 77) 4 dX12_isAsSeen_77 (by decide) ?_
              refine g_lv C [0, 1, 3] rfl (ih4 (j + 1)  _ _ ?_ ?_ ?_ (by omega))
              · subst_vars; exact nI_1 _
              · omega
              · rw [ev73, seJ_s]
                first
                | (rw [bI_t (show (seJ F sq sd b j && seF F sq sd b j) = true by rw [bI_1.mp (fun h => c32 (hc.trans h))]; exact hgood)]; done)
                | (rw [bI_f (show ¬ (seJ F sq sd b j && seF F sq sd b j) = true by rw [hbad, Bool.and_false]; decide)]; done)
                | (rw [bI_f (fun h => bI_0.mp (hc.symm.trans c32) (Bool.and_eq_true_iff.mp h).1)]; done)
  refine g_lv C [0, 1, 2] rfl (L4 (_ + 1) 0  _ _ ?_ ?_ ?_ (by first | omega | exact Nat.lt_succ_self _))
  · assumption
  · omega
  · subst ev1; rfl
set_option maxHeartbeats 400000 in
theorem c_X12_enters (n : Nat) (ρ : Rho) (I : Mem) (F : RT) (b : BT) (w d : Nat) (x : Int32) (hn9 : n ≤ 999) (hms : MS n ρ) (hqf : QF I F) (hrw : RW F) (hqe : QE I F) (hqb : QB I F b) (hbw : BW F b) (hl1 : L1 F b) (hpw : PW F b) (hw : w < 5) (hd : d < 3) (hww : (x = 2 ∧ I 113 d = nI w) ∨ (¬ x = 2 ∧ w = 0)) : MV yX12_enters cX12_enters 3 none 4 [.ref 97, .int (nI d), .int x] n ρ I (fun I1 => SvB I1 F d b ∧ FMv I1 F b w d ∧ I1 111 d = nI w ∧ I1 112 d = -1 ∧ (∀ z, z ≠ d → I1 111 z = I 111 z) ∧ (∀ z, z ≠ d → I1 112 z = I 112 z) ∧ ((∀ z, z < 64 * d ∨ 64 * d + 24 ≤ z → I1 108 z = I 108 z) ∧ (∀ z, z ≠ d → I1 109 z = I 109 z) ∧ ∀ z, z < 13 * d ∨ 13 * d + 13 ≤ z → I1 110 z = I 110 z) ∧ ∀ i, i < 108 ∨ 112 < i → I1 i = I i) := by
  refine MG.of (by decide +kernel) (Nat.le_of_ble_eq_true rfl) hn9 ?_
  intro κ C hR
  show G κ n ρ 0 [(0, .ref 97), (1, .int (nI d)), (2, .int x)] [] I
  obtain ⟨mn, ⟨m0, m1, m5, m6, m7, m11, m12, m15⟩, ⟨m23, m24, m26, m27, m28, m30, m31, m32, m33⟩, ⟨m38, m39, m40, m42⟩⟩ := id hms
  obtain ⟨qw, qh, qn, qk⟩ := id hqf
  have hn6 : rN F ≤ 6 := hrw.2.2.2.2.1
  have hm25 := Nat.mul_le_mul hrw.2.1 hrw.2.2.2.1
  have hm4 := Nat.mul_le_mul hrw.1 hrw.2.2.1
  have hcd : (nI d).toNatClampNeg = d := nI_clamp (by omega)
  refine g_aload_n C (pc := 0) dX12_enters_0 0 rfl ?_
  refine g_iload_n C (pc := 1) dX12_enters_1 1 rfl ?_
  refine g_callVV C (pc := 2) mf_X12_saves lk_RX12_254 (c_X12_saves n ρ I F b d hn9 hms hqf hrw hqb hbw hd) (by decide) (Nat.le_refl _) rfl (by first | assumption | rfl | omega) rfl (by first | assumption | rfl | omega) (Nat.le_of_ble_eq_true rfl) dX12_enters_2 (fun I2 h2 => ?_)
  obtain ⟨f2, a2, g2⟩ := h2
  refine g_aload_n C (pc := 5) dX12_enters_5 0 rfl ?_
  refine g_getR C (pc := 6) fl_RX12_50 (by decide) (by first | assumption | rfl | omega) (by first | assumption | rfl | omega) (by first | assumption | rfl | omega) dX12_enters_6 ?_
  refine g_iload_n C (pc := 9) dX12_enters_9 1 rfl ?_
  refine g_iload_n C (pc := 10) dX12_enters_10 2 rfl ?_
  refine g_iconst C (pc := 11) 2 dX12_enters_11 (by decide) ?_
  refine g_icmp_ne C (pc := 12) 24 dX12_enters_12 (by decide) (fun c12 => ?_) (fun c12 => ?_)
  · refine g_iconst C (pc := 24) 0 dX12_enters_24 (by decide) ?_
    refine g_iast C (pc := 25) (by first | assumption | rfl | omega) (by first | assumption | rfl | omega) hn9 (vp_in_nI (n := d) (by omega) (by decide)) dX12_enters_25 ?_
    rw [hcd]
    obtain ⟨y9, hy9⟩ : ∃ y9, y9 = (if x = 2 then I2 113 d else 0) := ⟨_, rfl⟩
    have hyw : y9 = nI w := by
      rw [hy9]
      rcases hww with ⟨h1, h2⟩ | ⟨h1, h2⟩
      · rw [if_pos h1, g2 113 (by decide)]; exact h2
      · rw [if_neg h1, h2]; rfl
    first
    | rw [show I2 113 d = y9 by rw [hy9, if_pos c12]]
    | rw [show (0 : Int32) = y9 by rw [hy9, if_neg c12]]
    refine g_aload_n C (pc := 26) dX12_enters_26 0 rfl ?_
    refine g_getR C (pc := 27) fl_RX12_53 (by decide) (by first | assumption | rfl | omega) (by first | assumption | rfl | omega) (by first | assumption | rfl | omega) dX12_enters_27 ?_
    refine g_iload_n C (pc := 30) dX12_enters_30 1 rfl ?_
    refine g_iconst C (pc := 31) (-1) dX12_enters_31 (by decide) ?_
    refine g_iast C (pc := 32) (by first | assumption | rfl | omega) (by first | assumption | rfl | omega) hn9 (vp_in_nI (n := d) (by omega) (by decide)) dX12_enters_32 ?_
    rw [hcd]
    have kh : Kp I (wr (wr I2 111 d y9) 112 d (-1)) := (Kp.sv g2).trans ((Kp.ar (by decide) (by decide)).trans (Kp.ar (by decide) (by decide)))
    have qbh : QB (wr (wr I2 111 d y9) 112 d (-1)) F b := hqb.cong (fun k _ => by rw [wr_n (by decide), wr_n (by decide), g2 106 (by decide)]) (fun k _ => by rw [wr_n (by decide), wr_n (by decide), g2 107 (by decide)]) (by rw [wr_n (by decide), wr_n (by decide), g2 97 (by decide)]) hn6
    have hwv : wr (wr I2 111 d y9) 112 d (-1) 111 (nI d).toNatClampNeg = nI w := by rw [hcd, wr_n (by decide), wr_ss]; exact hyw
    refine g_aload_n C (pc := 33) dX12_enters_33 0 rfl ?_
    refine g_aload_n C (pc := 34) dX12_enters_34 0 rfl ?_
    refine g_getR C (pc := 35) fl_RX12_50 (by decide) (by first | assumption | rfl | omega) (by first | assumption | rfl | omega) (by first | assumption | rfl | omega) dX12_enters_35 ?_
    refine g_iload_n C (pc := 38) dX12_enters_38 1 rfl ?_
    refine g_iald C (pc := 39) (by first | assumption | rfl | omega) (by first | assumption | rfl | omega) (vp_in_nI (n := d) (by omega) (by decide)) dX12_enters_39 ?_
    refine g_iload_n C (pc := 40) dX12_enters_40 1 rfl ?_
    refine g_callVV C (pc := 41) mf_X12_findMoves lk_RX12_247 (c_X12_findMovesD n ρ _ F b w d _ _ hn9 hms (hqf.kp kh) hrw (hqe.kp kh) qbh hbw hl1 hpw hw hd hwv rfl) (by decide) (Nat.le_refl _) rfl (by first | assumption | rfl | omega) rfl (by first | assumption | rfl | omega) (Nat.le_of_ble_eq_true rfl) dX12_enters_41 (fun I41 h41 => ?_)
    obtain ⟨f41, a41, b41, g41⟩ := h41
    refine g_vret C hR (pc := 44) rfl dX12_enters_44 ?_
    refine ⟨rfl, rfl, ?_⟩
    refine ⟨f2.cong (fun k _ _ => by rw [g41 110 (by decide) (by decide), wr_n (by decide), wr_n (by decide)]) hn6, f41, ?_, ?_, fun z hz => ?_, fun z hz => ?_, ⟨fun z hz => ?_, fun z hz => ?_, fun z hz => ?_⟩, fun i hi => ?_⟩
    · rw [g41 111 (by decide) (by decide), wr_n (by decide), wr_ss]; exact hyw
    · rw [g41 112 (by decide) (by decide), wr_ss]
    · rw [g41 111 (by decide) (by decide), wr_n (by decide), wr_sn hz, g2 111 (by decide)]
    · rw [g41 112 (by decide) (by decide), wr_sn hz, wr_n (by decide), g2 112 (by decide)]
    · rw [a41 z hz, wr_n (by decide), wr_n (by decide), g2 108 (by decide)]
    · rw [b41 z hz, wr_n (by decide), wr_n (by decide), g2 109 (by decide)]
    · rw [g41 110 (by decide) (by decide), wr_n (by decide), wr_n (by decide)]; exact a2 z hz
    · rw [g41 i (by omega) (by omega), wr_n (by omega), wr_n (by omega), g2 i (by omega)]
  · refine g_aload_n C (pc := 15) dX12_enters_15 0 rfl ?_
    refine g_getR C (pc := 16) fl_RX12_56 (by decide) (by first | assumption | rfl | omega) (by first | assumption | rfl | omega) (by first | assumption | rfl | omega) dX12_enters_16 ?_
    refine g_iload_n C (pc := 19) dX12_enters_19 1 rfl ?_
    refine g_iald C (pc := 20) (by first | assumption | rfl | omega) (by first | assumption | rfl | omega) (vp_in_nI (n := d) (by omega) (by decide)) dX12_enters_20 ?_
    refine g_goto C (pc := 21) 25 dX12_enters_21 (by decide) ?_
    refine g_iast C (pc := 25) (by first | assumption | rfl | omega) (by first | assumption | rfl | omega) hn9 (vp_in_nI (n := d) (by omega) (by decide)) dX12_enters_25 ?_
    rw [hcd]
    obtain ⟨y9, hy9⟩ : ∃ y9, y9 = (if x = 2 then I2 113 d else 0) := ⟨_, rfl⟩
    have hyw : y9 = nI w := by
      rw [hy9]
      rcases hww with ⟨h1, h2⟩ | ⟨h1, h2⟩
      · rw [if_pos h1, g2 113 (by decide)]; exact h2
      · rw [if_neg h1, h2]; rfl
    first
    | rw [show I2 113 d = y9 by rw [hy9, if_pos c12]]
    | rw [show (0 : Int32) = y9 by rw [hy9, if_neg c12]]
    refine g_aload_n C (pc := 26) dX12_enters_26 0 rfl ?_
    refine g_getR C (pc := 27) fl_RX12_53 (by decide) (by first | assumption | rfl | omega) (by first | assumption | rfl | omega) (by first | assumption | rfl | omega) dX12_enters_27 ?_
    refine g_iload_n C (pc := 30) dX12_enters_30 1 rfl ?_
    refine g_iconst C (pc := 31) (-1) dX12_enters_31 (by decide) ?_
    refine g_iast C (pc := 32) (by first | assumption | rfl | omega) (by first | assumption | rfl | omega) hn9 (vp_in_nI (n := d) (by omega) (by decide)) dX12_enters_32 ?_
    rw [hcd]
    have kh : Kp I (wr (wr I2 111 d y9) 112 d (-1)) := (Kp.sv g2).trans ((Kp.ar (by decide) (by decide)).trans (Kp.ar (by decide) (by decide)))
    have qbh : QB (wr (wr I2 111 d y9) 112 d (-1)) F b := hqb.cong (fun k _ => by rw [wr_n (by decide), wr_n (by decide), g2 106 (by decide)]) (fun k _ => by rw [wr_n (by decide), wr_n (by decide), g2 107 (by decide)]) (by rw [wr_n (by decide), wr_n (by decide), g2 97 (by decide)]) hn6
    have hwv : wr (wr I2 111 d y9) 112 d (-1) 111 (nI d).toNatClampNeg = nI w := by rw [hcd, wr_n (by decide), wr_ss]; exact hyw
    refine g_aload_n C (pc := 33) dX12_enters_33 0 rfl ?_
    refine g_aload_n C (pc := 34) dX12_enters_34 0 rfl ?_
    refine g_getR C (pc := 35) fl_RX12_50 (by decide) (by first | assumption | rfl | omega) (by first | assumption | rfl | omega) (by first | assumption | rfl | omega) dX12_enters_35 ?_
    refine g_iload_n C (pc := 38) dX12_enters_38 1 rfl ?_
    refine g_iald C (pc := 39) (by first | assumption | rfl | omega) (by first | assumption | rfl | omega) (vp_in_nI (n := d) (by omega) (by decide)) dX12_enters_39 ?_
    refine g_iload_n C (pc := 40) dX12_enters_40 1 rfl ?_
    refine g_callVV C (pc := 41) mf_X12_findMoves lk_RX12_247 (c_X12_findMovesD n ρ _ F b w d _ _ hn9 hms (hqf.kp kh) hrw (hqe.kp kh) qbh hbw hl1 hpw hw hd hwv rfl) (by decide) (Nat.le_refl _) rfl (by first | assumption | rfl | omega) rfl (by first | assumption | rfl | omega) (Nat.le_of_ble_eq_true rfl) dX12_enters_41 (fun I41 h41 => ?_)
    obtain ⟨f41, a41, b41, g41⟩ := h41
    refine g_vret C hR (pc := 44) rfl dX12_enters_44 ?_
    refine ⟨rfl, rfl, ?_⟩
    refine ⟨f2.cong (fun k _ _ => by rw [g41 110 (by decide) (by decide), wr_n (by decide), wr_n (by decide)]) hn6, f41, ?_, ?_, fun z hz => ?_, fun z hz => ?_, ⟨fun z hz => ?_, fun z hz => ?_, fun z hz => ?_⟩, fun i hi => ?_⟩
    · rw [g41 111 (by decide) (by decide), wr_n (by decide), wr_ss]; exact hyw
    · rw [g41 112 (by decide) (by decide), wr_ss]
    · rw [g41 111 (by decide) (by decide), wr_n (by decide), wr_sn hz, g2 111 (by decide)]
    · rw [g41 112 (by decide) (by decide), wr_sn hz, wr_n (by decide), g2 112 (by decide)]
    · rw [a41 z hz, wr_n (by decide), wr_n (by decide), g2 108 (by decide)]
    · rw [b41 z hz, wr_n (by decide), wr_n (by decide), g2 109 (by decide)]
    · rw [g41 110 (by decide) (by decide), wr_n (by decide), wr_n (by decide)]; exact a2 z hz
    · rw [g41 i (by omega) (by omega), wr_n (by omega), wr_n (by omega), g2 i (by omega)]
