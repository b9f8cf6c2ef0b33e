def SsS (n : Nat) (ρ : Rho) (q : Nat) : Prop := shp q = (16, 3) ∧ ρ q 0 = some (q + 1) ∧ ρ q 1 = some (q + 2) ∧ ρ q 2 = some (q + 3) ∧ shp (q + 1) = (0, 4) ∧ shp (q + 2) = (0, 4) ∧ shp (q + 3) = (4, 4) ∧ (∀ k, k < 4 → shp (q + 4 + k) = (0, 40) ∧ ρ (q + 3) k = some (q + 4 + k)) ∧ q + 7 < n
set_option maxHeartbeats 400000 in
theorem c_X7_sizeOf (n : Nat) (ρ : Rho) (I : Mem) (q : Nat) (x : Int32) (hn9 : n ≤ 999) (hss : SsS n ρ q) : MI yX7_sizeOf cX7_sizeOf 2 (some .int) 1 [.ref q, .int x] n ρ I (fun v I1 => v = (if 0 ≤ x ∧ x < 4 ∧ I (q + 1) x.toNatClampNeg ≠ -4 then I (q + 2) x.toNatClampNeg else -4) ∧ I = I1) := by
  refine MG.of (by decide +kernel) (Nat.le_of_ble_eq_true rfl) hn9 ?_
  intro κ C hR
  show G κ n ρ 0 [(0, .ref q), (1, .int x)] [] I
  obtain ⟨ss0, ss1, ss2, ss3, ss4, ss5, ss6, ss7, ssn⟩ := id hss
  refine g_iload_n C (pc := 0) dX7_sizeOf_0 1 rfl ?_
  refine g_callSI C (pc := 1) mf_X11_isSheet lk_RX7_23 (c_X11_isSheet n ρ I x hn9) (by decide) (Nat.le_refl _) rfl (Nat.le_of_ble_eq_true rfl) dX7_sizeOf_1 (fun v1 I1 h1 => ?_)
  obtain ⟨e1, rfl⟩ := h1
  refine g_if_eq C (pc := 4) 27 dX7_sizeOf_4 (by decide) (fun c4 => ?_) (fun c4 => ?_)
  · have hx := bI_0.mp (e1.symm.trans c4)
    refine g_bipush C (pc := 27) (-4) dX7_sizeOf_27 (by decide) ?_
    refine g_iret C hR (pc := 29) rfl dX7_sizeOf_29 ?_
    refine ⟨rfl, _, rfl, ?_⟩
    refine ⟨?_, rfl⟩
    first | (rw [if_pos ⟨hx.1, hx.2, c15⟩]; done) | (rw [if_neg (fun h => h.2.2 c15)]; done) | (rw [if_neg (fun h => hx ⟨h.1, h.2.1⟩)]; done)
  · have hx : 0 ≤ x ∧ x < 4 := bI_1.mp (fun h => c4 (e1.trans h))
    have hx1 := hx.1
    have hx2 := hx.2
    refine g_aload_n C (pc := 7) dX7_sizeOf_7 0 rfl ?_
    refine g_getR C (pc := 8) fl_RX7_9 (by decide) (by first | assumption | rfl | omega) (by first | assumption | rfl | omega) (by first | assumption | rfl | omega) dX7_sizeOf_8 ?_
    refine g_iload_n C (pc := 11) dX7_sizeOf_11 1 rfl ?_
    refine g_iald C (pc := 12) (by first | assumption | rfl | omega) (by first | assumption | rfl | omega) (by first | assumption | exact vp_in_of2 (by decide) (by assumption) (by assumption)) dX7_sizeOf_12 ?_
    refine g_bipush C (pc := 13) (-4) dX7_sizeOf_13 (by decide) ?_
    refine g_icmp_eq C (pc := 15) 27 dX7_sizeOf_15 (by decide) (fun c15 => ?_) (fun c15 => ?_)
    · refine g_bipush C (pc := 27) (-4) dX7_sizeOf_27 (by decide) ?_
      refine g_iret C hR (pc := 29) rfl dX7_sizeOf_29 ?_
      refine ⟨rfl, _, rfl, ?_⟩
      refine ⟨?_, rfl⟩
      first | (rw [if_pos ⟨hx.1, hx.2, c15⟩]; done) | (rw [if_neg (fun h => h.2.2 c15)]; done) | (rw [if_neg (fun h => hx ⟨h.1, h.2.1⟩)]; done)
    · refine g_aload_n C (pc := 18) dX7_sizeOf_18 0 rfl ?_
      refine g_getR C (pc := 19) fl_RX7_15 (by decide) (by first | assumption | rfl | omega) (by first | assumption | rfl | omega) (by first | assumption | rfl | omega) dX7_sizeOf_19 ?_
      refine g_iload_n C (pc := 22) dX7_sizeOf_22 1 rfl ?_
      refine g_iald C (pc := 23) (by first | assumption | rfl | omega) (by first | assumption | rfl | omega) (by first | assumption | exact vp_in_of2 (by decide) (by assumption) (by assumption)) dX7_sizeOf_23 ?_
      refine g_goto C (pc := 24) 29 dX7_sizeOf_24 (by decide) ?_
      refine g_iret C hR (pc := 29) rfl dX7_sizeOf_29 ?_
      refine ⟨rfl, _, rfl, ?_⟩
      refine ⟨?_, rfl⟩
      first | (rw [if_pos ⟨hx.1, hx.2, c15⟩]; done) | (rw [if_neg (fun h => h.2.2 c15)]; done) | (rw [if_neg (fun h => hx ⟨h.1, h.2.1⟩)]; done)
set_option maxHeartbeats 400000 in
theorem c_X7_faultAt (n : Nat) (ρ : Rho) (I : Mem) (q : Nat) (x z : Int32) (hn9 : n ≤ 999) (hss : SsS n ρ q) : MI yX7_faultAt cX7_faultAt 4 (some .int) 2 [.ref q, .int x, .int z] n ρ I (fun v I1 => v = (if (if 0 ≤ x ∧ x < 4 ∧ I (q + 1) x.toNatClampNeg ≠ -4 then I (q + 2) x.toNatClampNeg else -4) = -4 then 1 else if 0 ≤ z ∧ z < (if 0 ≤ x ∧ x < 4 ∧ I (q + 1) x.toNatClampNeg ≠ -4 then I (q + 2) x.toNatClampNeg else -4) then 0 else 2) ∧ I = I1) := by
  refine MG.of (by decide +kernel) (Nat.le_of_ble_eq_true rfl) hn9 ?_
  intro κ C hR
  show G κ n ρ 0 [(0, .ref q), (1, .int x), (2, .int z)] [] I
  obtain ⟨ss0, ss1, ss2, ss3, ss4, ss5, ss6, ss7, ssn⟩ := id hss
  refine g_aload_n C (pc := 0) dX7_faultAt_0 0 rfl ?_
  refine g_iload_n C (pc := 1) dX7_faultAt_1 1 rfl ?_
  refine g_callVI C (pc := 2) mf_X7_sizeOf lk_RX7_27 (c_X7_sizeOf n ρ I q x hn9 hss) (by decide) (Nat.le_refl _) rfl (by first | assumption | rfl | omega) rfl (by first | assumption | rfl | omega) (Nat.le_of_ble_eq_true rfl) dX7_faultAt_2 (fun v2 I2 h2 => ?_)
  obtain ⟨e2, rfl⟩ := h2
  refine g_istore_n C (pc := 5) dX7_faultAt_5 (by decide) (fun v5 => [(3, .int v5), (0, .ref q), (1, .int x), (2, .int z)]) (fun _ => rfl) (fun v5 ev5 => ?_)
  refine g_iload_n C (pc := 6) dX7_faultAt_6 0 rfl ?_
  refine g_bipush C (pc := 7) (-4) dX7_faultAt_7 (by decide) ?_
  refine g_icmp_ne C (pc := 9) 14 dX7_faultAt_9 (by decide) (fun c9 => ?_) (fun c9 => ?_)
  · refine g_iload_n C (pc := 14) dX7_faultAt_14 3 rfl ?_
    refine g_if_lt C (pc := 15) 23 dX7_faultAt_15 (by decide) (fun c15 => ?_) (fun c15 => ?_)
    · refine g_iconst C (pc := 23) 2 dX7_faultAt_23 (by decide) ?_
      refine g_goto C (pc := 24) 28 dX7_faultAt_24 (by decide) ?_
      refine g_iret C hR (pc := 28) rfl dX7_faultAt_28 ?_
      refine ⟨rfl, _, rfl, ?_⟩
      refine ⟨?_, rfl⟩
      subst_vars
      generalize (if 0 ≤ x ∧ x < 4 ∧ I (q + 1) x.toNatClampNeg ≠ -4 then I (q + 2) x.toNatClampNeg else -4) = S9 at *
      rw [if_neg (by assumption)]
      first | (rw [if_pos ⟨Int32.not_lt.mp (by assumption), by assumption⟩]; done) | (rw [if_pos ⟨by assumption, by assumption⟩]; done) | (split <;> first | rfl | (exfalso; simp only [Int32.le_iff_toInt_le, Int32.lt_iff_toInt_lt] at *; omega))
    · refine g_iload_n C (pc := 18) dX7_faultAt_18 3 rfl ?_
      refine g_iload_n C (pc := 19) dX7_faultAt_19 0 rfl ?_
      refine g_icmp_lt C (pc := 20) 27 dX7_faultAt_20 (by decide) (fun c20 => ?_) (fun c20 => ?_)
      · refine g_iconst C (pc := 27) 0 dX7_faultAt_27 (by decide) ?_
        refine g_iret C hR (pc := 28) rfl dX7_faultAt_28 ?_
        refine ⟨rfl, _, rfl, ?_⟩
        refine ⟨?_, rfl⟩
        subst_vars
        generalize (if 0 ≤ x ∧ x < 4 ∧ I (q + 1) x.toNatClampNeg ≠ -4 then I (q + 2) x.toNatClampNeg else -4) = S9 at *
        rw [if_neg (by assumption)]
        first | (rw [if_pos ⟨Int32.not_lt.mp (by assumption), by assumption⟩]; done) | (rw [if_pos ⟨by assumption, by assumption⟩]; done) | (split <;> first | rfl | (exfalso; simp only [Int32.le_iff_toInt_le, Int32.lt_iff_toInt_lt] at *; omega))
      · refine g_iconst C (pc := 23) 2 dX7_faultAt_23 (by decide) ?_
        refine g_goto C (pc := 24) 28 dX7_faultAt_24 (by decide) ?_
        refine g_iret C hR (pc := 28) rfl dX7_faultAt_28 ?_
        refine ⟨rfl, _, rfl, ?_⟩
        refine ⟨?_, rfl⟩
        subst_vars
        generalize (if 0 ≤ x ∧ x < 4 ∧ I (q + 1) x.toNatClampNeg ≠ -4 then I (q + 2) x.toNatClampNeg else -4) = S9 at *
        rw [if_neg (by assumption)]
        first | (rw [if_pos ⟨Int32.not_lt.mp (by assumption), by assumption⟩]; done) | (rw [if_pos ⟨by assumption, by assumption⟩]; done) | (split <;> first | rfl | (exfalso; simp only [Int32.le_iff_toInt_le, Int32.lt_iff_toInt_lt] at *; omega))
  · refine g_iconst C (pc := 12) 1 dX7_faultAt_12 (by decide) ?_
    refine g_iret C hR (pc := 13) rfl dX7_faultAt_13 ?_
    refine ⟨rfl, _, rfl, ?_⟩
    refine ⟨?_, rfl⟩
    subst_vars
    generalize (if 0 ≤ x ∧ x < 4 ∧ I (q + 1) x.toNatClampNeg ≠ -4 then I (q + 2) x.toNatClampNeg else -4) = S9 at *
    rw [if_pos (by first | assumption | exact Eq.symm (by assumption))]
set_option maxHeartbeats 400000 in
theorem c_X7_faultAs (n : Nat) (ρ : Rho) (I : Mem) (q : Nat) (x z : Int32) (hn9 : n ≤ 999) (hss : SsS n ρ q) : MI yX7_faultAs cX7_faultAs 3 (some .int) 2 [.ref q, .int x, .int z] n ρ I (fun v I1 => v = (if (if 0 ≤ x ∧ x < 4 ∧ I (q + 1) x.toNatClampNeg ≠ -4 then I (q + 2) x.toNatClampNeg else -4) = -4 then 1 else if (0 ≤ x ∧ x < 4) ∧ I (q + 1) x.toNatClampNeg = z then 0 else 3) ∧ I = I1) := by
  refine MG.of (by decide +kernel) (Nat.le_of_ble_eq_true rfl) hn9 ?_
  intro κ C hR
  show G κ n ρ 0 [(0, .ref q), (1, .int x), (2, .int z)] [] I
  obtain ⟨ss0, ss1, ss2, ss3, ss4, ss5, ss6, ss7, ssn⟩ := id hss
  refine g_aload_n C (pc := 0) dX7_faultAs_0 0 rfl ?_
  refine g_iload_n C (pc := 1) dX7_faultAs_1 1 rfl ?_
  refine g_callVI C (pc := 2) mf_X7_sizeOf lk_RX7_27 (c_X7_sizeOf n ρ I q x hn9 hss) (by decide) (Nat.le_refl _) rfl (by first | assumption | rfl | omega) rfl (by first | assumption | rfl | omega) (Nat.le_of_ble_eq_true rfl) dX7_faultAs_2 (fun v2 I2 h2 => ?_)
  obtain ⟨e2, rfl⟩ := h2
  refine g_bipush C (pc := 5) (-4) dX7_faultAs_5 (by decide) ?_
  refine g_icmp_ne C (pc := 7) 12 dX7_faultAs_7 (by decide) (fun c7 => ?_) (fun c7 => ?_)
  · refine g_iload_n C (pc := 12) dX7_faultAs_12 1 rfl ?_
    refine g_callSI C (pc := 13) mf_X11_isSheet lk_RX7_23 (c_X11_isSheet n ρ I x hn9) (by decide) (Nat.le_refl _) rfl (Nat.le_of_ble_eq_true rfl) dX7_faultAs_13 (fun v13 I13 h13 => ?_)
    obtain ⟨e13, rfl⟩ := h13
    refine g_if_eq C (pc := 16) 33 dX7_faultAs_16 (by decide) (fun c16 => ?_) (fun c16 => ?_)
    · have hx := bI_0.mp (e13.symm.trans c16)
      refine g_iconst C (pc := 33) 3 dX7_faultAs_33 (by decide) ?_
      refine g_iret C hR (pc := 34) rfl dX7_faultAs_34 ?_
      refine ⟨rfl, _, rfl, ?_⟩
      rw [e2] at c7
      refine ⟨?_, rfl⟩
      rw [if_neg c7]
      first | (rw [if_pos ⟨hx, by assumption⟩]; done) | (rw [if_neg (fun h => hx h.1)]; done) | (rw [if_neg (fun h => absurd h.2 (by assumption))]; done)
    · have hx : 0 ≤ x ∧ x < 4 := bI_1.mp (fun h => c16 (e13.trans h))
      have hx1 := hx.1
      have hx2 := hx.2
      refine g_aload_n C (pc := 19) dX7_faultAs_19 0 rfl ?_
      refine g_getR C (pc := 20) fl_RX7_9 (by decide) (by first | assumption | rfl | omega) (by first | assumption | rfl | omega) (by first | assumption | rfl | omega) dX7_faultAs_20 ?_
      refine g_iload_n C (pc := 23) dX7_faultAs_23 1 rfl ?_
      refine g_iald C (pc := 24) (by first | assumption | rfl | omega) (by first | assumption | rfl | omega) (by first | assumption | exact vp_in_of2 (by decide) (by assumption) (by assumption)) dX7_faultAs_24 ?_
      refine g_iload_n C (pc := 25) dX7_faultAs_25 2 rfl ?_
      refine g_icmp_ne C (pc := 26) 33 dX7_faultAs_26 (by decide) (fun c26 => ?_) (fun c26 => ?_)
      · refine g_iconst C (pc := 33) 3 dX7_faultAs_33 (by decide) ?_
        refine g_iret C hR (pc := 34) rfl dX7_faultAs_34 ?_
        refine ⟨rfl, _, rfl, ?_⟩
        rw [e2] at c7
        refine ⟨?_, rfl⟩
        rw [if_neg c7]
        first | (rw [if_pos ⟨hx, by assumption⟩]; done) | (rw [if_neg (fun h => hx h.1)]; done) | (rw [if_neg (fun h => absurd h.2 (by assumption))]; done)
      · refine g_iconst C (pc := 29) 0 dX7_faultAs_29 (by decide) ?_
        refine g_goto C (pc := 30) 34 dX7_faultAs_30 (by decide) ?_
        refine g_iret C hR (pc := 34) rfl dX7_faultAs_34 ?_
        refine ⟨rfl, _, rfl, ?_⟩
        rw [e2] at c7
        refine ⟨?_, rfl⟩
        rw [if_neg c7]
        first | (rw [if_pos ⟨hx, by assumption⟩]; done) | (rw [if_neg (fun h => hx h.1)]; done) | (rw [if_neg (fun h => absurd h.2 (by assumption))]; done)
  · refine g_iconst C (pc := 10) 1 dX7_faultAs_10 (by decide) ?_
    refine g_iret C hR (pc := 11) rfl dX7_faultAs_11 ?_
    refine ⟨rfl, _, rfl, ?_⟩
    rw [e2] at c7
    exact ⟨(if_pos c7).symm, rfl⟩
set_option maxHeartbeats 400000 in
theorem c_X7_cellAt (n : Nat) (ρ : Rho) (I : Mem) (q : Nat) (x z : Int32) (hn9 : n ≤ 999) (hss : SsS n ρ q) : MI yX7_cellAt cX7_cellAt 3 (some .int) 3 [.ref q, .int x, .int z] n ρ I (fun v I1 => v = (if (¬ (if 0 ≤ x ∧ x < 4 ∧ I (q + 1) x.toNatClampNeg ≠ -4 then I (q + 2) x.toNatClampNeg else -4) = -4 ∧ 0 ≤ z ∧ z < (if 0 ≤ x ∧ x < 4 ∧ I (q + 1) x.toNatClampNeg ≠ -4 then I (q + 2) x.toNatClampNeg else -4)) ∧ z < 40 then I (q + 4 + x.toNatClampNeg) z.toNatClampNeg else 0) ∧ I = I1) := by
  refine MG.of (by decide +kernel) (Nat.le_of_ble_eq_true rfl) hn9 ?_
  intro κ C hR
  show G κ n ρ 0 [(0, .ref q), (1, .int x), (2, .int z)] [] I
  obtain ⟨ss0, ss1, ss2, ss3, ss4, ss5, ss6, ss7, ssn⟩ := id hss
  refine g_aload_n C (pc := 0) dX7_cellAt_0 0 rfl ?_
  refine g_iload_n C (pc := 1) dX7_cellAt_1 1 rfl ?_
  refine g_iload_n C (pc := 2) dX7_cellAt_2 2 rfl ?_
  refine g_callVI C (pc := 3) mf_X7_faultAt lk_RX7_37 (c_X7_faultAt n ρ I q x z hn9 hss) (by decide) (Nat.le_refl _) rfl (by first | assumption | rfl | omega) rfl (by first | assumption | rfl | omega) (Nat.le_of_ble_eq_true rfl) dX7_cellAt_3 (fun v3 I3 h3 => ?_)
  obtain ⟨e3, rfl⟩ := h3
  refine g_if_ne C (pc := 6) 26 dX7_cellAt_6 (by decide) (fun c6 => ?_) (fun c6 => ?_)
  · have hq : ¬ (¬ (if 0 ≤ x ∧ x < 4 ∧ I (q + 1) x.toNatClampNeg ≠ -4 then I (q + 2) x.toNatClampNeg else -4) = -4 ∧ 0 ≤ z ∧ z < (if 0 ≤ x ∧ x < 4 ∧ I (q + 1) x.toNatClampNeg ≠ -4 then I (q + 2) x.toNatClampNeg else -4)) := fun h => c6 (by rw [e3, if_neg h.1, if_pos h.2])
    refine g_iconst C (pc := 26) 0 dX7_cellAt_26 (by decide) ?_
    refine g_iret C hR (pc := 27) rfl dX7_cellAt_27 ?_
    refine ⟨rfl, _, rfl, ?_⟩
    refine ⟨?_, rfl⟩
    first | (rw [if_pos ⟨hq, by assumption⟩]; done) | (rw [if_neg (fun h => hq h.1)]; done) | (rw [if_neg (fun h => absurd h.2 (Int32.not_lt.mpr (by assumption)))]; done)
  · have hq : (¬ (if 0 ≤ x ∧ x < 4 ∧ I (q + 1) x.toNatClampNeg ≠ -4 then I (q + 2) x.toNatClampNeg else -4) = -4 ∧ 0 ≤ z ∧ z < (if 0 ≤ x ∧ x < 4 ∧ I (q + 1) x.toNatClampNeg ≠ -4 then I (q + 2) x.toNatClampNeg else -4)) := by
      rw [e3] at c6
      by_cases h1 : (if 0 ≤ x ∧ x < 4 ∧ I (q + 1) x.toNatClampNeg ≠ -4 then I (q + 2) x.toNatClampNeg else -4) = -4
      · rw [if_pos h1] at c6; exact absurd c6 (by decide)
      · rw [if_neg h1] at c6
        by_cases h2 : 0 ≤ z ∧ z < (if 0 ≤ x ∧ x < 4 ∧ I (q + 1) x.toNatClampNeg ≠ -4 then I (q + 2) x.toNatClampNeg else -4)
        · exact ⟨h1, h2⟩
        · rw [if_neg h2] at c6; exact absurd c6 (by decide)
    have hx : 0 ≤ x ∧ x < 4 := by
      by_cases h : 0 ≤ x ∧ x < 4
      · exact h
      · exact absurd (if_neg (fun h2 => h ⟨h2.1, h2.2.1⟩)) hq.1
    have hz1 := hq.2.1
    have hxk : x.toNatClampNeg < 4 := by
      have h1 := Int32.le_iff_toInt_le.mp hx.1
      have h2 := Int32.lt_iff_toInt_lt.mp hx.2
      have e0 : (0 : Int32).toInt = 0 := by decide
      have e4 : (4 : Int32).toInt = 4 := by decide
      show x.toInt.toNat < 4
      omega
    have hx1 := hx.1
    have hx2 := hx.2
    refine g_iload_n C (pc := 9) dX7_cellAt_9 2 rfl ?_
    refine g_bipush C (pc := 10) 40 dX7_cellAt_10 (by decide) ?_
    refine g_icmp_ge C (pc := 12) 26 dX7_cellAt_12 (by decide) (fun c12 => ?_) (fun c12 => ?_)
    · refine g_iconst C (pc := 26) 0 dX7_cellAt_26 (by decide) ?_
      refine g_iret C hR (pc := 27) rfl dX7_cellAt_27 ?_
      refine ⟨rfl, _, rfl, ?_⟩
      refine ⟨?_, rfl⟩
      first | (rw [if_pos ⟨hq, by assumption⟩]; done) | (rw [if_neg (fun h => hq h.1)]; done) | (rw [if_neg (fun h => absurd h.2 (Int32.not_lt.mpr (by assumption)))]; done)
    · refine g_aload_n C (pc := 15) dX7_cellAt_15 0 rfl ?_
      refine g_getR C (pc := 16) fl_RX7_20 (by decide) (by first | assumption | rfl | omega) (by first | assumption | rfl | omega) (by first | assumption | rfl | omega) dX7_cellAt_16 ?_
      refine g_iload_n C (pc := 19) dX7_cellAt_19 1 rfl ?_
      refine g_aald C (pc := 20) (by first | exact Or.inl rfl | exact Or.inr rfl) ss6 (by first | assumption | rfl | omega) (by first | assumption | exact vp_in_of2 (by decide) (by assumption) (by assumption)) (ss7 _ hxk).2 dX7_cellAt_20 ?_
      refine g_iload_n C (pc := 21) dX7_cellAt_21 2 rfl ?_
      refine g_iald C (pc := 22) (ss7 _ hxk).1 (by omega) (by first | assumption | exact vp_in_of2 (by decide) (by assumption) (by assumption)) dX7_cellAt_22 ?_
      refine g_goto C (pc := 23) 27 dX7_cellAt_23 (by decide) ?_
      refine g_iret C hR (pc := 27) rfl dX7_cellAt_27 ?_
      refine ⟨rfl, _, rfl, ?_⟩
      refine ⟨?_, rfl⟩
      first | (rw [if_pos ⟨hq, by assumption⟩]; done) | (rw [if_neg (fun h => hq h.1)]; done) | (rw [if_neg (fun h => absurd h.2 (Int32.not_lt.mpr (by assumption)))]; done)
set_option maxHeartbeats 400000 in
theorem c_X7_renew (n : Nat) (ρ : Rho) (I : Mem) (q : Nat) (x y z : Int32) (hn9 : n ≤ 999) (hss : SsS n ρ q) : MV yX7_renew cX7_renew 5 none 1 [.ref q, .int x, .int y, .int z] n ρ I (fun I1 => ((0 ≤ x ∧ x < 4) ∧ (∀ k, k < 40 → I1 (q + 4 + x.toNatClampNeg) k = 0) ∧ I1 (q + 1) = upd (I (q + 1)) x.toNatClampNeg y ∧ I1 (q + 2) = upd (I (q + 2)) x.toNatClampNeg z ∧ ∀ i, i ≠ q + 1 → i ≠ q + 2 → i ≠ q + 4 + x.toNatClampNeg → I1 i = I i) ∨ (¬ (0 ≤ x ∧ x < 4) ∧ I = I1)) := by
  refine MG.of (by decide +kernel) (Nat.le_of_ble_eq_true rfl) hn9 ?_
  intro κ C hR
  show G κ n ρ 0 [(0, .ref q), (1, .int x), (2, .int y), (3, .int z)] [] I
  obtain ⟨ss0, ss1, ss2, ss3, ss4, ss5, ss6, ss7, ssn⟩ := id hss
  refine g_iload_n C (pc := 0) dX7_renew_0 1 rfl ?_
  refine g_callSI C (pc := 1) mf_X11_isSheet lk_RX7_23 (c_X11_isSheet n ρ I x hn9) (by decide) (Nat.le_refl _) rfl (Nat.le_of_ble_eq_true rfl) dX7_renew_1 (fun v1 I1 h1 => ?_)
  obtain ⟨e1, rfl⟩ := h1
  refine g_if_ne C (pc := 4) 8 dX7_renew_4 (by decide) (fun c4 => ?_) (fun c4 => ?_)
  · have hx : 0 ≤ x ∧ x < 4 := bI_1.mp (fun h => c4 (e1.trans h))
    have hxk : x.toNatClampNeg < 4 := by
      have h1 := Int32.le_iff_toInt_le.mp hx.1
      have h2 := Int32.lt_iff_toInt_lt.mp hx.2
      have e0 : (0 : Int32).toInt = 0 := by decide
      have e4 : (4 : Int32).toInt = 4 := by decide
      show x.toInt.toNat < 4
      omega
    have hx1 := hx.1
    have hx2 := hx.2
    refine g_aload_n C (pc := 8) dX7_renew_8 0 rfl ?_
    refine g_getR C (pc := 9) fl_RX7_9 (by decide) (by first | assumption | rfl | omega) (by first | assumption | rfl | omega) (by first | assumption | rfl | omega) dX7_renew_9 ?_
    refine g_iload_n C (pc := 12) dX7_renew_12 1 rfl ?_
    refine g_iload_n C (pc := 13) dX7_renew_13 2 rfl ?_
    refine g_iast C (pc := 14) (by first | assumption | rfl | omega) (by first | assumption | rfl | omega) hn9 (by first | assumption | exact vp_in_of2 (by decide) (by assumption) (by assumption)) dX7_renew_14 ?_
    refine g_aload_n C (pc := 15) dX7_renew_15 0 rfl ?_
    refine g_getR C (pc := 16) fl_RX7_15 (by decide) (by first | assumption | rfl | omega) (by first | assumption | rfl | omega) (by first | assumption | rfl | omega) dX7_renew_16 ?_
    refine g_iload_n C (pc := 19) dX7_renew_19 1 rfl ?_
    refine g_iload_n C (pc := 20) dX7_renew_20 3 rfl ?_
    refine g_iast C (pc := 21) (by first | assumption | rfl | omega) (by first | assumption | rfl | omega) hn9 (by first | assumption | exact vp_in_of2 (by decide) (by assumption) (by assumption)) dX7_renew_21 ?_
    refine g_iconst C (pc := 22) 0 dX7_renew_22 (by decide) ?_
    refine g_istore C (pc := 23) dX7_renew_23 (by decide) (fun v23 => [(4, .int v23), (0, .ref q), (1, .int x), (2, .int y), (3, .int z)]) (fun _ => rfl) (fun v23 ev23 => ?_)
    have L25 : ∀ (k9 : Nat) (j : Nat) (wz4 : Int32) (J : Mem) (hw4 : wz4 = nI j) (hj : j ≤ 40) (hA : ∀ k, k < j → J (q + 4 + x.toNatClampNeg) k = 0) (hB : J (q + 1) = upd (I (q + 1)) x.toNatClampNeg y) (hD : J (q + 2) = upd (I (q + 2)) x.toNatClampNeg z) (hF : ∀ i, i ≠ q + 1 → i ≠ q + 2 → i ≠ q + 4 + x.toNatClampNeg → J i = I i), 40 - j < k9 → G κ n ρ 25 [(4, .int wz4), (0, .ref q), (1, .int x), (2, .int y), (3, .int z)] [] J := by
      intro k9
      induction k9 with
      | zero => intro j wz4 J hw4 hj hA hB hD hF hm25; exact absurd hm25 (Nat.not_lt_zero _)
      | succ k9 ih25 =>
        intro j wz4 J hw4 hj hA hB hD hF hm25
        subst hw4
        refine g_iload C (pc := 25) dX7_renew_25 0 rfl ?_
        refine g_bipush C (pc := 27) 40 dX7_renew_27 (by decide) ?_
        refine g_icmp_ge C (pc := 29) 48 dX7_renew_29 (by decide) (fun c29 => ?_) (fun c29 => ?_)
        · replace c29 := (nI_leI (a := 40) (b := j) (by decide) (by omega)).mp c29
          refine g_vret C hR (pc := 48) rfl dX7_renew_48 ?_
          refine ⟨rfl, rfl, ?_⟩
          exact Or.inl ⟨hx, fun k hk => hA k (by omega), hB, hD, hF⟩
        · replace c29 := (nI_ltI (a := j) (b := 40) (by omega) (by decide)).mp c29
          refine g_aload_n C (pc := 32) dX7_renew_32 1 rfl ?_
          refine g_getR C (pc := 33) fl_RX7_20 (by decide) (by first | assumption | rfl | omega) (by first | assumption | rfl | omega) (by first | assumption | rfl | omega) dX7_renew_33 ?_
          refine g_iload_n C (pc := 36) dX7_renew_36 2 rfl ?_
          refine g_aald C (pc := 37) (by first | exact Or.inl rfl | exact Or.inr rfl) ss6 (by first | assumption | rfl | omega) (by first | assumption | exact vp_in_of2 (by decide) (by assumption) (by assumption)) (ss7 _ hxk).2 dX7_renew_37 ?_
          refine g_iload C (pc := 38) dX7_renew_38 0 rfl ?_
          refine g_iconst C (pc := 40) 0 dX7_renew_40 (by decide) ?_
          refine g_iast C (pc := 41) (ss7 _ hxk).1 (by omega) hn9 (vp_in_nI (by omega) (by decide)) dX7_renew_41 ?_
          refine g_iinc C (pc := 42) (1) dX7_renew_42 0 rfl (by decide) (by decide) (fun v42 => [(4, .int v42), (0, .ref q), (1, .int x), (2, .int y), (3, .int z)]) (fun _ => rfl) (fun v42 ev42 => ?_)
          refine g_goto C (pc := 45) 25 dX7_renew_45 (by decide) ?_
          refine g_lv C [0, 1, 2, 3, 4] rfl (ih25 (j + 1) _ _ ?_ ?_ ?_ ?_ ?_ ?_ (by omega))
          · subst_vars; exact nI_1 _
          · omega
          · intro k hk
            rw [nI_clamp (by omega)]
            rcases Nat.lt_or_ge k j with h1 | h1
            · rw [wr_sn (by omega)]; exact hA k h1
            · have : k = j := by omega
              subst this
              rw [wr_ss]
          · rw [wr_n (by omega)]; exact hB
          · rw [wr_n (by omega)]; exact hD
          · intro i h1 h2 h3; rw [wr_n h3]; exact hF i h1 h2 h3
    refine g_lv C [0, 1, 2, 3, 4] rfl (L25 (_ + 1) 0 _ _ ?_ ?_ ?_ ?_ ?_ ?_ (by first | omega | exact Nat.lt_succ_self _))
    · subst_vars; rfl
    · exact Nat.zero_le _
    · intro k hk; omega
    · rw [wr_n (by omega), wr_s]
    · rw [wr_s, wr_n (by omega)]
    · intro i h1 h2 _; rw [wr_n h2, wr_n h1]
  · have hx := bI_0.mp (e1.symm.trans c4)
    refine g_vret C hR (pc := 7) rfl dX7_renew_7 ?_
    refine ⟨rfl, rfl, ?_⟩
    exact Or.inr ⟨hx, rfl⟩
set_option maxHeartbeats 400000 in
theorem c_X7_set (n : Nat) (ρ : Rho) (I : Mem) (q : Nat) (x z w : Int32) (hn9 : n ≤ 999) (hss : SsS n ρ q) : MV yX7_set cX7_set 4 none 3 [.ref q, .int x, .int z, .int w] n ρ I (fun I1 => (((¬ (if 0 ≤ x ∧ x < 4 ∧ I (q + 1) x.toNatClampNeg ≠ -4 then I (q + 2) x.toNatClampNeg else -4) = -4 ∧ 0 ≤ z ∧ z < (if 0 ≤ x ∧ x < 4 ∧ I (q + 1) x.toNatClampNeg ≠ -4 then I (q + 2) x.toNatClampNeg else -4)) ∧ z < 40) ∧ wr I (q + 4 + x.toNatClampNeg) z.toNatClampNeg (if I (q + 1) x.toNatClampNeg = 0 then w.toInt8.toInt32 else if I (q + 1) x.toNatClampNeg = 1 then w.toInt16.toInt32 else w) = I1) ∨ (¬ ((¬ (if 0 ≤ x ∧ x < 4 ∧ I (q + 1) x.toNatClampNeg ≠ -4 then I (q + 2) x.toNatClampNeg else -4) = -4 ∧ 0 ≤ z ∧ z < (if 0 ≤ x ∧ x < 4 ∧ I (q + 1) x.toNatClampNeg ≠ -4 then I (q + 2) x.toNatClampNeg else -4)) ∧ z < 40) ∧ I = I1)) := by
  refine MG.of (by decide +kernel) (Nat.le_of_ble_eq_true rfl) hn9 ?_
  intro κ C hR
  show G κ n ρ 0 [(0, .ref q), (1, .int x), (2, .int z), (3, .int w)] [] I
  obtain ⟨ss0, ss1, ss2, ss3, ss4, ss5, ss6, ss7, ssn⟩ := id hss
  refine g_aload_n C (pc := 0) dX7_set_0 0 rfl ?_
  refine g_iload_n C (pc := 1) dX7_set_1 1 rfl ?_
  refine g_iload_n C (pc := 2) dX7_set_2 2 rfl ?_
  refine g_callVI C (pc := 3) mf_X7_faultAt lk_RX7_37 (c_X7_faultAt n ρ I q x z hn9 hss) (by decide) (Nat.le_refl _) rfl (by first | assumption | rfl | omega) rfl (by first | assumption | rfl | omega) (Nat.le_of_ble_eq_true rfl) dX7_set_3 (fun v3 I3 h3 => ?_)
  obtain ⟨e3, rfl⟩ := h3
  refine g_if_ne C (pc := 6) 15 dX7_set_6 (by decide) (fun c6 => ?_) (fun c6 => ?_)
  · have hq : ¬ (¬ (if 0 ≤ x ∧ x < 4 ∧ I (q + 1) x.toNatClampNeg ≠ -4 then I (q + 2) x.toNatClampNeg else -4) = -4 ∧ 0 ≤ z ∧ z < (if 0 ≤ x ∧ x < 4 ∧ I (q + 1) x.toNatClampNeg ≠ -4 then I (q + 2) x.toNatClampNeg else -4)) := fun h => c6 (by rw [e3, if_neg h.1, if_pos h.2])
    refine g_vret C hR (pc := 15) rfl dX7_set_15 ?_
    refine ⟨rfl, rfl, ?_⟩
    first | exact Or.inr ⟨fun h => hq h.1, rfl⟩ | exact Or.inr ⟨fun h => absurd h.2 (Int32.not_lt.mpr (by assumption)), rfl⟩
  · have hq : (¬ (if 0 ≤ x ∧ x < 4 ∧ I (q + 1) x.toNatClampNeg ≠ -4 then I (q + 2) x.toNatClampNeg else -4) = -4 ∧ 0 ≤ z ∧ z < (if 0 ≤ x ∧ x < 4 ∧ I (q + 1) x.toNatClampNeg ≠ -4 then I (q + 2) x.toNatClampNeg else -4)) := by
      rw [e3] at c6
      by_cases h1 : (if 0 ≤ x ∧ x < 4 ∧ I (q + 1) x.toNatClampNeg ≠ -4 then I (q + 2) x.toNatClampNeg else -4) = -4
      · rw [if_pos h1] at c6; exact absurd c6 (by decide)
      · rw [if_neg h1] at c6
        by_cases h2 : 0 ≤ z ∧ z < (if 0 ≤ x ∧ x < 4 ∧ I (q + 1) x.toNatClampNeg ≠ -4 then I (q + 2) x.toNatClampNeg else -4)
        · exact ⟨h1, h2⟩
        · rw [if_neg h2] at c6; exact absurd c6 (by decide)
    have hx : 0 ≤ x ∧ x < 4 := by
      by_cases h : 0 ≤ x ∧ x < 4
      · exact h
      · exact absurd (if_neg (fun h2 => h ⟨h2.1, h2.2.1⟩)) hq.1
    have hz1 := hq.2.1
    have hxk : x.toNatClampNeg < 4 := by
      have h1 := Int32.le_iff_toInt_le.mp hx.1
      have h2 := Int32.lt_iff_toInt_lt.mp hx.2
      have e0 : (0 : Int32).toInt = 0 := by decide
      have e4 : (4 : Int32).toInt = 4 := by decide
      show x.toInt.toNat < 4
      omega
    have hx1 := hx.1
    have hx2 := hx.2
    refine g_iload_n C (pc := 9) dX7_set_9 2 rfl ?_
    refine g_bipush C (pc := 10) 40 dX7_set_10 (by decide) ?_
    refine g_icmp_lt C (pc := 12) 16 dX7_set_12 (by decide) (fun c12 => ?_) (fun c12 => ?_)
    · refine g_aload_n C (pc := 16) dX7_set_16 0 rfl ?_
      refine g_getR C (pc := 17) fl_RX7_20 (by decide) (by first | assumption | rfl | omega) (by first | assumption | rfl | omega) (by first | assumption | rfl | omega) dX7_set_17 ?_
      refine g_iload_n C (pc := 20) dX7_set_20 1 rfl ?_
      refine g_aald C (pc := 21) (by first | exact Or.inl rfl | exact Or.inr rfl) ss6 (by first | assumption | rfl | omega) (by first | assumption | exact vp_in_of2 (by decide) (by assumption) (by assumption)) (ss7 _ hxk).2 dX7_set_21 ?_
      refine g_iload_n C (pc := 22) dX7_set_22 2 rfl ?_
      refine g_aload_n C (pc := 23) dX7_set_23 0 rfl ?_
      refine g_getR C (pc := 24) fl_RX7_9 (by decide) (by first | assumption | rfl | omega) (by first | assumption | rfl | omega) (by first | assumption | rfl | omega) dX7_set_24 ?_
      refine g_iload_n C (pc := 27) dX7_set_27 1 rfl ?_
      refine g_iald C (pc := 28) (by first | assumption | rfl | omega) (by first | assumption | rfl | omega) (by first | assumption | exact vp_in_of2 (by decide) (by assumption) (by assumption)) dX7_set_28 ?_
      refine g_if_ne C (pc := 29) 37 dX7_set_29 (by decide) (fun c29 => ?_) (fun c29 => ?_)
      · refine g_aload_n C (pc := 37) dX7_set_37 0 rfl ?_
        refine g_getR C (pc := 38) fl_RX7_9 (by decide) (by first | assumption | rfl | omega) (by first | assumption | rfl | omega) (by first | assumption | rfl | omega) dX7_set_38 ?_
        refine g_iload_n C (pc := 41) dX7_set_41 1 rfl ?_
        refine g_iald C (pc := 42) (by first | assumption | rfl | omega) (by first | assumption | rfl | omega) (by first | assumption | exact vp_in_of2 (by decide) (by assumption) (by assumption)) dX7_set_42 ?_
        refine g_iconst C (pc := 43) 1 dX7_set_43 (by decide) ?_
        refine g_icmp_ne C (pc := 44) 52 dX7_set_44 (by decide) (fun c44 => ?_) (fun c44 => ?_)
        · refine g_iload_n C (pc := 52) dX7_set_52 3 rfl ?_
          refine g_iast C (pc := 53) (ss7 _ hxk).1 (by omega) hn9 (by first | assumption | exact vp_in_of2 (by decide) (by assumption) (by assumption)) dX7_set_53 ?_
          refine g_vret C hR (pc := 54) rfl dX7_set_54 ?_
          refine ⟨rfl, rfl, ?_⟩
          refine Or.inl ⟨⟨hq, by assumption⟩, ?_⟩
          first | (rw [if_pos (by assumption)]; done) | (rw [if_neg (by assumption), if_pos (by assumption)]; done) | (rw [if_neg (by assumption), if_neg (by assumption)]; done)
        · refine g_iload_n C (pc := 47) dX7_set_47 3 rfl ?_
          refine g_i2s C (pc := 48) dX7_set_48 ?_
          refine g_goto C (pc := 49) 53 dX7_set_49 (by decide) ?_
          refine g_iast C (pc := 53) (ss7 _ hxk).1 (by omega) hn9 (by first | assumption | exact vp_in_of2 (by decide) (by assumption) (by assumption)) dX7_set_53 ?_
          refine g_vret C hR (pc := 54) rfl dX7_set_54 ?_
          refine ⟨rfl, rfl, ?_⟩
          refine Or.inl ⟨⟨hq, by assumption⟩, ?_⟩
          first | (rw [if_pos (by assumption)]; done) | (rw [if_neg (by assumption), if_pos (by assumption)]; done) | (rw [if_neg (by assumption), if_neg (by assumption)]; done)
      · refine g_iload_n C (pc := 32) dX7_set_32 3 rfl ?_
        refine g_i2b C (pc := 33) dX7_set_33 ?_
        refine g_goto C (pc := 34) 53 dX7_set_34 (by decide) ?_
        refine g_iast C (pc := 53) (ss7 _ hxk).1 (by omega) hn9 (by first | assumption | exact vp_in_of2 (by decide) (by assumption) (by assumption)) dX7_set_53 ?_
        refine g_vret C hR (pc := 54) rfl dX7_set_54 ?_
        refine ⟨rfl, rfl, ?_⟩
        refine Or.inl ⟨⟨hq, by assumption⟩, ?_⟩
        first | (rw [if_pos (by assumption)]; done) | (rw [if_neg (by assumption), if_pos (by assumption)]; done) | (rw [if_neg (by assumption), if_neg (by assumption)]; done)
    · refine g_vret C hR (pc := 15) rfl dX7_set_15 ?_
      refine ⟨rfl, rfl, ?_⟩
      first | exact Or.inr ⟨fun h => hq h.1, rfl⟩ | exact Or.inr ⟨fun h => absurd h.2 (Int32.not_lt.mpr (by assumption)), rfl⟩
set_option maxHeartbeats 400000 in
theorem c_X7_wholeTurns (n : Nat) (ρ : Rho) (I : Mem) (q : Nat) (x z w : Int32) (hn9 : n ≤ 999) (hss : SsS n ρ q) : MI yX7_wholeTurns cX7_wholeTurns 5 (some .int) 2 [.ref q, .int x, .int z, .int w] n ρ I (fun v I1 => v = (if 0 ≤ z ∧ z < (if 0 ≤ x ∧ x < 4 ∧ I (q + 1) x.toNatClampNeg ≠ -4 then I (q + 2) x.toNatClampNeg else -4) then (if (((if 0 ≤ x ∧ x < 4 ∧ I (q + 1) x.toNatClampNeg ≠ -4 then I (q + 2) x.toNatClampNeg else -4) - z) / 2) < w then (((if 0 ≤ x ∧ x < 4 ∧ I (q + 1) x.toNatClampNeg ≠ -4 then I (q + 2) x.toNatClampNeg else -4) - z) / 2) else w) else 0) ∧ I = I1) := by
  refine MG.of (by decide +kernel) (Nat.le_of_ble_eq_true rfl) hn9 ?_
  intro κ C hR
  show G κ n ρ 0 [(0, .ref q), (1, .int x), (2, .int z), (3, .int w)] [] I
  obtain ⟨ss0, ss1, ss2, ss3, ss4, ss5, ss6, ss7, ssn⟩ := id hss
  refine g_aload_n C (pc := 0) dX7_wholeTurns_0 0 rfl ?_
  refine g_iload_n C (pc := 1) dX7_wholeTurns_1 1 rfl ?_
  refine g_callVI C (pc := 2) mf_X7_sizeOf lk_RX7_27 (c_X7_sizeOf n ρ I q x hn9 hss) (by decide) (Nat.le_refl _) rfl (by first | assumption | rfl | omega) rfl (by first | assumption | rfl | omega) (Nat.le_of_ble_eq_true rfl) dX7_wholeTurns_2 (fun v2 I2 h2 => ?_)
  obtain ⟨e2, rfl⟩ := h2
  refine g_istore C (pc := 5) dX7_wholeTurns_5 (by decide) (fun v5 => [(4, .int v5), (0, .ref q), (1, .int x), (2, .int z), (3, .int w)]) (fun _ => rfl) (fun v5 ev5 => ?_)
  refine g_iload_n C (pc := 7) dX7_wholeTurns_7 3 rfl ?_
  refine g_if_lt C (pc := 8) 17 dX7_wholeTurns_8 (by decide) (fun c8 => ?_) (fun c8 => ?_)
  · refine g_iconst C (pc := 17) 0 dX7_wholeTurns_17 (by decide) ?_
    refine g_goto C (pc := 18) 31 dX7_wholeTurns_18 (by decide) ?_
    refine g_iret C hR (pc := 31) rfl dX7_wholeTurns_31 ?_
    refine ⟨rfl, _, rfl, ?_⟩
    refine ⟨?_, rfl⟩
    subst_vars
    generalize (if 0 ≤ x ∧ x < 4 ∧ I (q + 1) x.toNatClampNeg ≠ -4 then I (q + 2) x.toNatClampNeg else -4) = S9 at *
    first | (rw [if_pos (show 0 ≤ z ∧ z < S9 from ⟨by assumption, by assumption⟩)]; done) | (rw [if_neg (fun h : 0 ≤ z ∧ z < S9 => absurd h.1 (Int32.not_le.mpr (by assumption)))]; done) | (rw [if_neg (fun h : 0 ≤ z ∧ z < S9 => absurd h.2 (Int32.not_lt.mpr (by assumption)))]; done) | (rw [if_pos (show 0 ≤ z ∧ z < S9 from ⟨Int32.not_lt.mp (by assumption), by assumption⟩)]; done)
  · refine g_iload_n C (pc := 11) dX7_wholeTurns_11 3 rfl ?_
    refine g_iload C (pc := 12) dX7_wholeTurns_12 0 rfl ?_
    refine g_icmp_lt C (pc := 14) 21 dX7_wholeTurns_14 (by decide) (fun c14 => ?_) (fun c14 => ?_)
    · refine g_iload_n C (pc := 21) dX7_wholeTurns_21 4 rfl ?_
      refine g_iload C (pc := 22) dX7_wholeTurns_22 0 rfl ?_
      refine g_iload_n C (pc := 24) dX7_wholeTurns_24 3 rfl ?_
      refine g_isub C (pc := 25) dX7_wholeTurns_25 ?_
      refine g_iconst C (pc := 26) 2 dX7_wholeTurns_26 (by decide) ?_
      refine g_idiv C (pc := 27) dX7_wholeTurns_27 (by decide) ?_
      refine g_min C (pc := 28) gl_RX7_31 (Nat.le_refl _) (by decide) (Nat.le_of_ble_eq_true rfl) dX7_wholeTurns_28 (fun v28 e28 => ?_)
      refine g_iret C hR (pc := 31) rfl dX7_wholeTurns_31 ?_
      refine ⟨rfl, _, rfl, ?_⟩
      refine ⟨?_, rfl⟩
      subst_vars
      generalize (if 0 ≤ x ∧ x < 4 ∧ I (q + 1) x.toNatClampNeg ≠ -4 then I (q + 2) x.toNatClampNeg else -4) = S9 at *
      first | (rw [if_pos (show 0 ≤ z ∧ z < S9 from ⟨by assumption, by assumption⟩)]; done) | (rw [if_neg (fun h : 0 ≤ z ∧ z < S9 => absurd h.1 (Int32.not_le.mpr (by assumption)))]; done) | (rw [if_neg (fun h : 0 ≤ z ∧ z < S9 => absurd h.2 (Int32.not_lt.mpr (by assumption)))]; done) | (rw [if_pos (show 0 ≤ z ∧ z < S9 from ⟨Int32.not_lt.mp (by assumption), by assumption⟩)]; done)
    · refine g_iconst C (pc := 17) 0 dX7_wholeTurns_17 (by decide) ?_
      refine g_goto C (pc := 18) 31 dX7_wholeTurns_18 (by decide) ?_
      refine g_iret C hR (pc := 31) rfl dX7_wholeTurns_31 ?_
      refine ⟨rfl, _, rfl, ?_⟩
      refine ⟨?_, rfl⟩
      subst_vars
      generalize (if 0 ≤ x ∧ x < 4 ∧ I (q + 1) x.toNatClampNeg ≠ -4 then I (q + 2) x.toNatClampNeg else -4) = S9 at *
      first | (rw [if_pos (show 0 ≤ z ∧ z < S9 from ⟨by assumption, by assumption⟩)]; done) | (rw [if_neg (fun h : 0 ≤ z ∧ z < S9 => absurd h.1 (Int32.not_le.mpr (by assumption)))]; done) | (rw [if_neg (fun h : 0 ≤ z ∧ z < S9 => absurd h.2 (Int32.not_lt.mpr (by assumption)))]; done) | (rw [if_pos (show 0 ≤ z ∧ z < S9 from ⟨Int32.not_lt.mp (by assumption), by assumption⟩)]; done)
