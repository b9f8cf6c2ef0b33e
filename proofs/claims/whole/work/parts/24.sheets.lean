def SsS (n : Nat) (ρ : Rho) (q : Nat) : Prop := shp q = (16, 3) ∧ ρ q 0 = some (q + 1) ∧ ρ q 1 = some (q + 2) ∧ ρ q 2 = some (q + 3) ∧ shp (q + 1) = (0, 4) ∧ shp (q + 2) = (0, 4) ∧ shp (q + 3) = (4, 4) ∧ (∀ k, k < 4 → shp (q + 4 + k) = (0, 40) ∧ ρ (q + 3) k = some (q + 4 + k)) ∧ q + 7 < n
set_option maxHeartbeats 400000 in
theorem c_X7_sizeOf (n : Nat) (ρ : Rho) (I : Mem) (q : Nat) (x : Int32) (hn9 : n ≤ 999) (hss : SsS n ρ q) : MI yX7_sizeOf cX7_sizeOf 2 (some .int) 1 [.ref q, .int x] n ρ I (fun v I1 => v = (if 0 ≤ x ∧ x < 4 ∧ I (q + 1) x.toNatClampNeg ≠ -4 then I (q + 2) x.toNatClampNeg else -4) ∧ I = I1) := by
  refine MG.of (by decide +kernel) (Nat.le_of_ble_eq_true rfl) hn9 ?_
  intro κ C hR
  show G κ n ρ 0 [(0, .ref q), (1, .int x)] [] I
  obtain ⟨ss0, ss1, ss2, ss3, ss4, ss5, ss6, ss7, ssn⟩ := id hss
  refine g_iload_n C (pc := 0) dX7_sizeOf_0 1 rfl ?_
  refine g_callSI C (pc := 1) mf_X11_isSheet lk_RX7_23 (c_X11_isSheet n ρ I x hn9) (by decide) (Nat.le_refl _) rfl (Nat.le_of_ble_eq_true rfl) dX7_sizeOf_1 (fun v1 I1 h1 => ?_)
  obtain ⟨e1, rfl⟩ := h1
  refine g_if_eq C (pc := 4) 27 dX7_sizeOf_4 (by decide) (fun c4 => ?_) (fun c4 => ?_)
  · have hx := bI_0.mp (e1.symm.trans c4)
    refine g_bipush C (pc := 27) (-4) dX7_sizeOf_27 (by decide) ?_
    refine g_iret C hR (pc := 29) rfl dX7_sizeOf_29 ?_
    refine ⟨rfl, _, rfl, ?_⟩
    refine ⟨?_, rfl⟩
    first | (rw [if_pos ⟨hx.1, hx.2, c15⟩]; done) | (rw [if_neg (fun h => h.2.2 c15)]; done) | (rw [if_neg (fun h => hx ⟨h.1, h.2.1⟩)]; done)
  · have hx : 0 ≤ x ∧ x < 4 := bI_1.mp (fun h => c4 (e1.trans h))
    have hx1 := hx.1
    have hx2 := hx.2
    refine g_aload_n C (pc := 7) dX7_sizeOf_7 0 rfl ?_
    refine g_getR C (pc := 8) fl_RX7_9 (by decide) (by first | assumption | rfl | omega) (by first | assumption | rfl | omega) (by first | assumption | rfl | omega) dX7_sizeOf_8 ?_
    refine g_iload_n C (pc := 11) dX7_sizeOf_11 1 rfl ?_
    refine g_iald C (pc := 12) (by first | assumption | rfl | omega) (by first | assumption | rfl | omega) (by first | assumption | exact vp_in_of2 (by decide) (by assumption) (by assumption)) dX7_sizeOf_12 ?_
    refine g_bipush C (pc := 13) (-4) dX7_sizeOf_13 (by decide) ?_
    refine g_icmp_eq C (pc := 15) 27 dX7_sizeOf_15 (by decide) (fun c15 => ?_) (fun c15 => ?_)
    · refine g_bipush C (pc := 27) (-4) dX7_sizeOf_27 (by decide) ?_
      refine g_iret C hR (pc := 29) rfl dX7_sizeOf_29 ?_
      refine ⟨rfl, _, rfl, ?_⟩
      refine ⟨?_, rfl⟩
      first | (rw [if_pos ⟨hx.1, hx.2, c15⟩]; done) | (rw [if_neg (fun h => h.2.2 c15)]; done) | (rw [if_neg (fun h => hx ⟨h.1, h.2.1⟩)]; done)
    · refine g_aload_n C (pc := 18) dX7_sizeOf_18 0 rfl ?_
      refine g_getR C (pc := 19) fl_RX7_15 (by decide) (by first | assumption | rfl | omega) (by first | assumption | rfl | omega) (by first | assumption | rfl | omega) dX7_sizeOf_19 ?_
      refine g_iload_n C (pc := 22) dX7_sizeOf_22 1 rfl ?_
      refine g_iald C (pc := 23) (by first | assumption | rfl | omega) (by first | assumption | rfl | omega) (by first | assumption | exact vp_in_of2 (by decide) (by assumption) (by assumption)) dX7_sizeOf_23 ?_
      refine g_goto C (pc := 24) 29 dX7_sizeOf_24 (by decide) ?_
      refine g_iret C hR (pc := 29) rfl dX7_sizeOf_29 ?_
      refine ⟨rfl, _, rfl, ?_⟩
      refine ⟨?_, rfl⟩
      first | (rw [if_pos ⟨hx.1, hx.2, c15⟩]; done) | (rw [if_neg (fun h => h.2.2 c15)]; done) | (rw [if_neg (fun h => hx ⟨h.1, h.2.1⟩)]; done)
set_option maxHeartbeats 400000 in
theorem c_X7_faultAt (n : Nat) (ρ : Rho) (I : Mem) (q : Nat) (x z : Int32) (hn9 : n ≤ 999) (hss : SsS n ρ q) : MI yX7_faultAt cX7_faultAt 4 (some .int) 2 [.ref q, .int x, .int z] n ρ I (fun v I1 => v = (if (if 0 ≤ x ∧ x < 4 ∧ I (q + 1) x.toNatClampNeg ≠ -4 then I (q + 2) x.toNatClampNeg else -4) = -4 then 1 else if 0 ≤ z ∧ z < (if 0 ≤ x ∧ x < 4 ∧ I (q + 1) x.toNatClampNeg ≠ -4 then I (q + 2) x.toNatClampNeg else -4) then 0 else 2) ∧ I = I1) := by
  refine MG.of (by decide +kernel) (Nat.le_of_ble_eq_true rfl) hn9 ?_
  intro κ C hR
  show G κ n ρ 0 [(0, .ref q), (1, .int x), (2, .int z)] [] I
  obtain ⟨ss0, ss1, ss2, ss3, ss4, ss5, ss6, ss7, ssn⟩ := id hss
  refine g_aload_n C (pc := 0) dX7_faultAt_0 0 rfl ?_
  refine g_iload_n C (pc := 1) dX7_faultAt_1 1 rfl ?_
  refine g_callVI C (pc := 2) mf_X7_sizeOf lk_RX7_27 (c_X7_sizeOf n ρ I q x hn9 hss) (by decide) (Nat.le_refl _) rfl (by first | assumption | rfl | omega) rfl (by first | assumption | rfl | omega) (Nat.le_of_ble_eq_true rfl) dX7_faultAt_2 (fun v2 I2 h2 => ?_)
  obtain ⟨e2, rfl⟩ := h2
  refine g_istore_n C (pc := 5) dX7_faultAt_5 (by decide) (fun v5 => [(3, .int v5), (0, .ref q), (1, .int x), (2, .int z)]) (fun _ => rfl) (fun v5 ev5 => ?_)
  refine g_iload_n C (pc := 6) dX7_faultAt_6 0 rfl ?_
  refine g_bipush C (pc := 7) (-4) dX7_faultAt_7 (by decide) ?_
  refine g_icmp_ne C (pc := 9) 14 dX7_faultAt_9 (by decide) (fun c9 => ?_) (fun c9 => ?_)
  · refine g_iload_n C (pc := 14) dX7_faultAt_14 3 rfl ?_
    refine g_if_lt C (pc := 15) 23 dX7_faultAt_15 (by decide) (fun c15 => ?_) (fun c15 => ?_)
    · refine g_iconst C (pc := 23) 2 dX7_faultAt_23 (by decide) ?_
      refine g_goto C (pc := 24) 28 dX7_faultAt_24 (by decide) ?_
      refine g_iret C hR (pc := 28) rfl dX7_faultAt_28 ?_
      refine ⟨rfl, _, rfl, ?_⟩
      refine ⟨?_, rfl⟩
      subst_vars
      generalize (if 0 ≤ x ∧ x < 4 ∧ I (q + 1) x.toNatClampNeg ≠ -4 then I (q + 2) x.toNatClampNeg else -4) = S9 at *
      rw [if_neg (by assumption)]
      first | (rw [if_pos ⟨Int32.not_lt.mp (by assumption), by assumption⟩]; done) | (rw [if_pos ⟨by assumption, by assumption⟩]; done) | (split <;> first | rfl | (exfalso; simp only [Int32.le_iff_toInt_le, Int32.lt_iff_toInt_lt] at *; omega))
    · refine g_iload_n C (pc := 18) dX7_faultAt_18 3 rfl ?_
      refine g_iload_n C (pc := 19) dX7_faultAt_19 0 rfl ?_
      refine g_icmp_lt C (pc := 20) 27 dX7_faultAt_20 (by decide) (fun c20 => ?_) (fun c20 => ?_)
      · refine g_iconst C (pc := 27) 0 dX7_faultAt_27 (by decide) ?_
        refine g_iret C hR (pc := 28) rfl dX7_faultAt_28 ?_
        refine ⟨rfl, _, rfl, ?_⟩
        refine ⟨?_, rfl⟩
        subst_vars
        generalize (if 0 ≤ x ∧ x < 4 ∧ I (q + 1) x.toNatClampNeg ≠ -4 then I (q + 2) x.toNatClampNeg else -4) = S9 at *
        rw [if_neg (by assumption)]
        first | (rw [if_pos ⟨Int32.not_lt.mp (by assumption), by assumption⟩]; done) | (rw [if_pos ⟨by assumption, by assumption⟩]; done) | (split <;> first | rfl | (exfalso; simp only [Int32.le_iff_toInt_le, Int32.lt_iff_toInt_lt] at *; omega))
      · refine g_iconst C (pc := 23) 2 dX7_faultAt_23 (by decide) ?_
        refine g_goto C (pc := 24) 28 dX7_faultAt_24 (by decide) ?_
        refine g_iret C hR (pc := 28) rfl dX7_faultAt_28 ?_
        refine ⟨rfl, _, rfl, ?_⟩
        refine ⟨?_, rfl⟩
        subst_vars
        generalize (if 0 ≤ x ∧ x < 4 ∧ I (q + 1) x.toNatClampNeg ≠ -4 then I (q + 2) x.toNatClampNeg else -4) = S9 at *
        rw [if_neg (by assumption)]
        first | (rw [if_pos ⟨Int32.not_lt.mp (by assumption), by assumption⟩]; done) | (rw [if_pos ⟨by assumption, by assumption⟩]; done) | (split <;> first | rfl | (exfalso; simp only [Int32.le_iff_toInt_le, Int32.lt_iff_toInt_lt] at *; omega))
  · refine g_iconst C (pc := 12) 1 dX7_faultAt_12 (by decide) ?_
    refine g_iret C hR (pc := 13) rfl dX7_faultAt_13 ?_
    refine ⟨rfl, _, rfl, ?_⟩
    refine ⟨?_, rfl⟩
    subst_vars
    generalize (if 0 ≤ x ∧ x < 4 ∧ I (q + 1) x.toNatClampNeg ≠ -4 then I (q + 2) x.toNatClampNeg else -4) = S9 at *
    rw [if_pos (by first | assumption | exact Eq.symm (by assumption))]
set_option maxHeartbeats 400000 in
theorem c_X7_faultAs (n : Nat) (ρ : Rho) (I : Mem) (q : Nat) (x z : Int32) (hn9 : n ≤ 999) (hss : SsS n ρ q) : MI yX7_faultAs cX7_faultAs 3 (some .int) 2 [.ref q, .int x, .int z] n ρ I (fun v I1 => v = (if (if 0 ≤ x ∧ x < 4 ∧ I (q + 1) x.toNatClampNeg ≠ -4 then I (q + 2) x.toNatClampNeg else -4) = -4 then 1 else if (0 ≤ x ∧ x < 4) ∧ I (q + 1) x.toNatClampNeg = z then 0 else 3) ∧ I = I1) := by
  refine MG.of (by decide +kernel) (Nat.le_of_ble_eq_true rfl) hn9 ?_
  intro κ C hR
  show G κ n ρ 0 [(0, .ref q), (1, .int x), (2, .int z)] [] I
  obtain ⟨ss0, ss1, ss2, ss3, ss4, ss5, ss6, ss7, ssn⟩ := id hss
  refine g_aload_n C (pc := 0) dX7_faultAs_0 0 rfl ?_
  refine g_iload_n C (pc := 1) dX7_faultAs_1 1 rfl ?_
  refine g_callVI C (pc := 2) mf_X7_sizeOf lk_RX7_27 (c_X7_sizeOf n ρ I q x hn9 hss) (by decide) (Nat.le_refl _) rfl (by first | assumption | rfl | omega) rfl (by first | assumption | rfl | omega) (Nat.le_of_ble_eq_true rfl) dX7_faultAs_2 (fun v2 I2 h2 => ?_)
  obtain ⟨e2, rfl⟩ := h2
  refine g_bipush C (pc := 5) (-4) dX7_faultAs_5 (by decide) ?_
  refine g_icmp_ne C (pc := 7) 12 dX7_faultAs_7 (by decide) (fun c7 => ?_) (fun c7 => ?_)
  · refine g_iload_n C (pc := 12) dX7_faultAs_12 1 rfl ?_
    refine g_callSI C (pc := 13) mf_X11_isSheet lk_RX7_23 (c_X11_isSheet n ρ I x hn9) (by decide) (Nat.le_refl _) rfl (Nat.le_of_ble_eq_true rfl) dX7_faultAs_13 (fun v13 I13 h13 => ?_)
    obtain ⟨e13, rfl⟩ := h13
    refine g_if_eq C (pc := 16) 33 dX7_faultAs_16 (by decide) (fun c16 => ?_) (fun c16 => ?_)
    · have hx := bI_0.mp (e13.symm.trans c16)
      refine g_iconst C (pc := 33) 3 dX7_faultAs_33 (by decide) ?_
      refine g_iret C hR (pc := 34) rfl dX7_faultAs_34 ?_
      refine ⟨rfl, _, rfl, ?_⟩
      rw [e2] at c7
      refine ⟨?_, rfl⟩
      rw [if_neg c7]
      first | (rw [if_pos ⟨hx, by assumption⟩]; done) | (rw [if_neg (fun h => hx h.1)]; done) | (rw [if_neg (fun h => absurd h.2 (by assumption))]; done)
    · have hx : 0 ≤ x ∧ x < 4 := bI_1.mp (fun h => c16 (e13.trans h))
      have hx1 := hx.1
      have hx2 := hx.2
      refine g_aload_n C (pc := 19) dX7_faultAs_19 0 rfl ?_
      refine g_getR C (pc := 20) fl_RX7_9 (by decide) (by first | assumption | rfl | omega) (by first | assumption | rfl | omega) (by first | assumption | rfl | omega) dX7_faultAs_20 ?_
      refine g_iload_n C (pc := 23) dX7_faultAs_23 1 rfl ?_
      refine g_iald C (pc := 24) (by first | assumption | rfl | omega) (by first | assumption | rfl | omega) (by first | assumption | exact vp_in_of2 (by decide) (by assumption) (by assumption)) dX7_faultAs_24 ?_
      refine g_iload_n C (pc := 25) dX7_faultAs_25 2 rfl ?_
      refine g_icmp_ne C (pc := 26) 33 dX7_faultAs_26 (by decide) (fun c26 => ?_) (fun c26 => ?_)
      · refine g_iconst C (pc := 33) 3 dX7_faultAs_33 (by decide) ?_
        refine g_iret C hR (pc := 34) rfl dX7_faultAs_34 ?_
        refine ⟨rfl, _, rfl, ?_⟩
        rw [e2] at c7
        refine ⟨?_, rfl⟩
        rw [if_neg c7]
        first | (rw [if_pos ⟨hx, by assumption⟩]; done) | (rw [if_neg (fun h => hx h.1)]; done) | (rw [if_neg (fun h => absurd h.2 (by assumption))]; done)
      · refine g_iconst C (pc := 29) 0 dX7_faultAs_29 (by decide) ?_
        refine g_goto C (pc := 30) 34 dX7_faultAs_30 (by decide) ?_
        refine g_iret C hR (pc := 34) rfl dX7_faultAs_34 ?_
        refine ⟨rfl, _, rfl, ?_⟩
        rw [e2] at c7
        refine ⟨?_, rfl⟩
        rw [if_neg c7]
        first | (rw [if_pos ⟨hx, by assumption⟩]; done) | (rw [if_neg (fun h => hx h.1)]; done) | (rw [if_neg (fun h => absurd h.2 (by assumption))]; done)
  · refine g_iconst C (pc := 10) 1 dX7_faultAs_10 (by decide) ?_
    refine g_iret C hR (pc := 11) rfl dX7_faultAs_11 ?_
    refine ⟨rfl, _, rfl, ?_⟩
    rw [e2] at c7
    exact ⟨(if_pos c7).symm, rfl⟩
