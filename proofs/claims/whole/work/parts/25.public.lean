/-- the fixed references of the class's own object -/
def XcS (n : Nat) (ρ : Rho) : Prop := shp 0 = (20, 11) ∧ 97 ≤ n ∧ ρ 0 0 = some 1 ∧ GaS n ρ 1 ∧ ρ 0 7 = some 61 ∧ SsS n ρ 61
set_option maxHeartbeats 400000 in
theorem c_X11_torn (n : Nat) (ρ : Rho) (I : Mem)  (hn9 : n ≤ 999) (hxc : XcS n ρ) : MI yX11_torn cX11_torn 1 (some .int) 0 [.ref 0] n ρ I (fun v I1 => v = I 0 10 ∧ I = I1) := by
  refine MG.of (by decide +kernel) (Nat.le_of_ble_eq_true rfl) hn9 ?_
  intro κ C hR
  show G κ n ρ 0 [(0, .ref 0)] [] I
  obtain ⟨xc0, xcn, xc1, hga, xc7, hss⟩ := id hxc
  have xcz : 0 < n := by omega
  obtain ⟨ga0, ga1, ga2, ga3, ga4, ga5, ga6, ga7, ga8, gan, hrf, hst⟩ := id hga
  have hrf0 := hrf.1
  have hst0 := hst.1
  refine g_aload_n C (pc := 0) dX11_torn_0 0 rfl ?_
  refine g_getI C (pc := 1) fl_RX11_334 (by decide) (by first | assumption | rfl | omega) (by first | assumption | rfl | omega) dX11_torn_1 ?_
  refine g_iret C hR (pc := 4) rfl dX11_torn_4 ?_
  refine ⟨rfl, _, rfl, ?_⟩
  simp_all
set_option maxHeartbeats 400000 in
theorem c_X11_fault (n : Nat) (ρ : Rho) (I : Mem)  (hn9 : n ≤ 999) (hxc : XcS n ρ) : MI yX11_fault cX11_fault 1 (some .int) 0 [.ref 0] n ρ I (fun v I1 => v = I 0 9 ∧ I = I1) := by
  refine MG.of (by decide +kernel) (Nat.le_of_ble_eq_true rfl) hn9 ?_
  intro κ C hR
  show G κ n ρ 0 [(0, .ref 0)] [] I
  obtain ⟨xc0, xcn, xc1, hga, xc7, hss⟩ := id hxc
  have xcz : 0 < n := by omega
  obtain ⟨ga0, ga1, ga2, ga3, ga4, ga5, ga6, ga7, ga8, gan, hrf, hst⟩ := id hga
  have hrf0 := hrf.1
  have hst0 := hst.1
  refine g_aload_n C (pc := 0) dX11_fault_0 0 rfl ?_
  refine g_getI C (pc := 1) fl_RX11_88 (by decide) (by first | assumption | rfl | omega) (by first | assumption | rfl | omega) dX11_fault_1 ?_
  refine g_iret C hR (pc := 4) rfl dX11_fault_4 ?_
  refine ⟨rfl, _, rfl, ?_⟩
  simp_all
set_option maxHeartbeats 400000 in
theorem c_X11_odd (n : Nat) (ρ : Rho) (I : Mem) (x : Int32) (hn9 : n ≤ 999) (hxc : XcS n ρ) : MI yX11_odd cX11_odd 2 (some .int) 1 [.ref 0, .int x] n ρ I (fun v I1 => v = (if 0 ≤ x ∧ x < 5 then I (1 + 1 + 3) x.toNatClampNeg else -1) ∧ I = I1) := by
  refine MG.of (by decide +kernel) (Nat.le_of_ble_eq_true rfl) hn9 ?_
  intro κ C hR
  show G κ n ρ 0 [(0, .ref 0), (1, .int x)] [] I
  obtain ⟨xc0, xcn, xc1, hga, xc7, hss⟩ := id hxc
  have xcz : 0 < n := by omega
  obtain ⟨ga0, ga1, ga2, ga3, ga4, ga5, ga6, ga7, ga8, gan, hrf, hst⟩ := id hga
  have hrf0 := hrf.1
  have hst0 := hst.1
  refine g_iload_n C (pc := 0) dX11_odd_0 1 rfl ?_
  refine g_callSI C (pc := 1) mf_X11_isWind lk_RX11_159 (c_X11_isWind n ρ I x hn9) (by decide) (Nat.le_refl _) rfl (Nat.le_of_ble_eq_true rfl) dX11_odd_1 (fun v1 I1 h1 => ?_)
  obtain ⟨e1, rfl⟩ := h1
  refine g_if_eq C (pc := 4) 21 dX11_odd_4 (by decide) (fun c4 => ?_) (fun c4 => ?_)
  · have hx := bI_0.mp (e1.symm.trans c4)
    refine g_iconst C (pc := 21) (-1) dX11_odd_21 (by decide) ?_
    refine g_iret C hR (pc := 22) rfl dX11_odd_22 ?_
    refine ⟨rfl, _, rfl, ?_⟩
    refine ⟨?_, rfl⟩
    first | (rw [if_neg hx]; done) | (rw [e15, if_pos hx, if_pos hx]; done) | (rw [e15]; done)
  · have hx : 0 ≤ x ∧ x < 5 := bI_1.mp (fun h => c4 (e1.trans h))
    refine g_aload_n C (pc := 7) dX11_odd_7 0 rfl ?_
    refine g_getR C (pc := 8) fl_RX11_10 (by decide) (by first | assumption | rfl | omega) (by first | assumption | rfl | omega) (by first | assumption | rfl | omega) dX11_odd_8 ?_
    refine g_getR C (pc := 11) fl_RX11_104 (by decide) (by first | assumption | rfl | omega) (by first | assumption | rfl | omega) (by first | assumption | rfl | omega) dX11_odd_11 ?_
    refine g_iload_n C (pc := 14) dX11_odd_14 1 rfl ?_
    refine g_callVI C (pc := 15) mf_X5_oddsOf lk_RX11_162 (c_X5_oddsOf n ρ I (1 + 1) x hn9 hrf) (by decide) (Nat.le_refl _) rfl (by first | assumption | rfl | omega) rfl (by first | assumption | rfl | omega) (Nat.le_of_ble_eq_true rfl) dX11_odd_15 (fun v15 I15 h15 => ?_)
    obtain ⟨e15, rfl⟩ := h15
    refine g_goto C (pc := 18) 22 dX11_odd_18 (by decide) ?_
    refine g_iret C hR (pc := 22) rfl dX11_odd_22 ?_
    refine ⟨rfl, _, rfl, ?_⟩
    refine ⟨?_, rfl⟩
    first | (rw [if_neg hx]; done) | (rw [e15, if_pos hx, if_pos hx]; done) | (rw [e15]; done)
set_option maxHeartbeats 400000 in
theorem c_X11_turn (n : Nat) (ρ : Rho) (I : Mem) (x : Int32) (hn9 : n ≤ 999) (hxc : XcS n ρ) : MI yX11_turn cX11_turn 3 (some .int) 1 [.ref 0, .int x] n ρ I (fun v I1 => ((0 ≤ x ∧ x < 2) ∧ v = I (1 + 5) 3 ∧ wr I (1 + 5) 3 x = I1) ∨ (¬ (0 ≤ x ∧ x < 2) ∧ v = -1 ∧ I = I1)) := by
  refine MG.of (by decide +kernel) (Nat.le_of_ble_eq_true rfl) hn9 ?_
  intro κ C hR
  show G κ n ρ 0 [(0, .ref 0), (1, .int x)] [] I
  obtain ⟨xc0, xcn, xc1, hga, xc7, hss⟩ := id hxc
  have xcz : 0 < n := by omega
  obtain ⟨ga0, ga1, ga2, ga3, ga4, ga5, ga6, ga7, ga8, gan, hrf, hst⟩ := id hga
  have hrf0 := hrf.1
  have hst0 := hst.1
  refine g_iload_n C (pc := 0) dX11_turn_0 1 rfl ?_
  refine g_callSI C (pc := 1) mf_X11_isSide lk_RX11_187 (c_X11_isSide n ρ I x hn9) (by decide) (Nat.le_refl _) rfl (Nat.le_of_ble_eq_true rfl) dX11_turn_1 (fun v1 I1 h1 => ?_)
  obtain ⟨e1, rfl⟩ := h1
  refine g_if_ne C (pc := 4) 9 dX11_turn_4 (by decide) (fun c4 => ?_) (fun c4 => ?_)
  · have hx : 0 ≤ x ∧ x < 2 := bI_1.mp (fun h => c4 (e1.trans h))
    refine g_aload_n C (pc := 9) dX11_turn_9 0 rfl ?_
    refine g_getR C (pc := 10) fl_RX11_10 (by decide) (by first | assumption | rfl | omega) (by first | assumption | rfl | omega) (by first | assumption | rfl | omega) dX11_turn_10 ?_
    refine g_getR C (pc := 13) fl_RX11_122 (by decide) (by first | assumption | rfl | omega) (by first | assumption | rfl | omega) (by first | assumption | rfl | omega) dX11_turn_13 ?_
    refine g_getI C (pc := 16) fl_RX11_125 (by decide) (by first | assumption | rfl | omega) (by first | assumption | rfl | omega) dX11_turn_16 ?_
    refine g_istore_n C (pc := 19) dX11_turn_19 (by decide) (fun v19 => [(2, .int v19), (0, .ref 0), (1, .int x)]) (fun _ => rfl) (fun v19 ev19 => ?_)
    refine g_aload_n C (pc := 20) dX11_turn_20 1 rfl ?_
    refine g_getR C (pc := 21) fl_RX11_10 (by decide) (by first | assumption | rfl | omega) (by first | assumption | rfl | omega) (by first | assumption | rfl | omega) dX11_turn_21 ?_
    refine g_getR C (pc := 24) fl_RX11_122 (by decide) (by first | assumption | rfl | omega) (by first | assumption | rfl | omega) (by first | assumption | rfl | omega) dX11_turn_24 ?_
    refine g_iload_n C (pc := 27) dX11_turn_27 2 rfl ?_
    refine g_putI C (pc := 28) fl_RX11_125 (by decide) fp_7_3 (Or.inl rfl) ⟨rfl, rfl⟩ (by first | assumption | rfl | omega) (by first | assumption | rfl | omega) hn9 dX11_turn_28 ?_
    refine g_iload_n C (pc := 31) dX11_turn_31 0 rfl ?_
    refine g_iret C hR (pc := 32) rfl dX11_turn_32 ?_
    refine ⟨rfl, _, rfl, ?_⟩
    subst_vars
    exact Or.inl ⟨hx, rfl, rfl⟩
  · have hx := bI_0.mp (e1.symm.trans c4)
    refine g_iconst C (pc := 7) (-1) dX11_turn_7 (by decide) ?_
    refine g_iret C hR (pc := 8) rfl dX11_turn_8 ?_
    refine ⟨rfl, _, rfl, ?_⟩
    exact Or.inr ⟨hx, rfl, rfl⟩
set_option maxHeartbeats 400000 in
theorem c_X11_drop (n : Nat) (ρ : Rho) (I : Mem) (x : Int32) (hn9 : n ≤ 999) (hxc : XcS n ρ) : MI yX11_drop cX11_drop 3 (some .int) 0 [.ref 0, .int x] n ρ I (fun v I1 => ((0 ≤ x ∧ x ≤ I 1 7) ∧ v = I 1 7 ∧ wr I 1 7 x = I1) ∨ (¬ (0 ≤ x ∧ x ≤ I 1 7) ∧ v = -1 ∧ I = I1)) := by
  refine MG.of (by decide +kernel) (Nat.le_of_ble_eq_true rfl) hn9 ?_
  intro κ C hR
  show G κ n ρ 0 [(0, .ref 0), (1, .int x)] [] I
  obtain ⟨xc0, xcn, xc1, hga, xc7, hss⟩ := id hxc
  have xcz : 0 < n := by omega
  obtain ⟨ga0, ga1, ga2, ga3, ga4, ga5, ga6, ga7, ga8, gan, hrf, hst⟩ := id hga
  have hrf0 := hrf.1
  have hst0 := hst.1
  refine g_aload_n C (pc := 0) dX11_drop_0 0 rfl ?_
  refine g_getR C (pc := 1) fl_RX11_10 (by decide) (by first | assumption | rfl | omega) (by first | assumption | rfl | omega) (by first | assumption | rfl | omega) dX11_drop_1 ?_
  refine g_getI C (pc := 4) fl_RX11_280 (by decide) (by first | assumption | rfl | omega) (by first | assumption | rfl | omega) dX11_drop_4 ?_
  refine g_istore_n C (pc := 7) dX11_drop_7 (by decide) (fun v7 => [(2, .int v7), (0, .ref 0), (1, .int x)]) (fun _ => rfl) (fun v7 ev7 => ?_)
  refine g_iload_n C (pc := 8) dX11_drop_8 2 rfl ?_
  refine g_if_lt C (pc := 9) 17 dX11_drop_9 (by decide) (fun c9 => ?_) (fun c9 => ?_)
  · refine g_iconst C (pc := 17) (-1) dX11_drop_17 (by decide) ?_
    refine g_iret C hR (pc := 18) rfl dX11_drop_18 ?_
    refine ⟨rfl, _, rfl, ?_⟩
    subst_vars
    refine Or.inr ⟨fun h => ?_, rfl, rfl⟩
    first | exact absurd h.1 (Int32.not_le.mpr (by assumption)) | exact absurd h.2 (Int32.not_le.mpr (by assumption))
  · refine g_iload_n C (pc := 12) dX11_drop_12 2 rfl ?_
    refine g_iload_n C (pc := 13) dX11_drop_13 0 rfl ?_
    refine g_icmp_le C (pc := 14) 19 dX11_drop_14 (by decide) (fun c14 => ?_) (fun c14 => ?_)
    · refine g_aload_n C (pc := 19) dX11_drop_19 1 rfl ?_
      refine g_getR C (pc := 20) fl_RX11_10 (by decide) (by first | assumption | rfl | omega) (by first | assumption | rfl | omega) (by first | assumption | rfl | omega) dX11_drop_20 ?_
      refine g_iload_n C (pc := 23) dX11_drop_23 2 rfl ?_
      refine g_putI C (pc := 24) fl_RX11_280 (by decide) fp_2_7 (Or.inl rfl) ⟨rfl, rfl⟩ (by first | assumption | rfl | omega) (by first | assumption | rfl | omega) hn9 dX11_drop_24 ?_
      refine g_iload_n C (pc := 27) dX11_drop_27 0 rfl ?_
      refine g_iret C hR (pc := 28) rfl dX11_drop_28 ?_
      refine ⟨rfl, _, rfl, ?_⟩
      subst_vars
      refine Or.inl ⟨⟨?_, ?_⟩, rfl, rfl⟩ <;> first | assumption | exact Int32.not_lt.mp (by assumption)
    · refine g_iconst C (pc := 17) (-1) dX11_drop_17 (by decide) ?_
      refine g_iret C hR (pc := 18) rfl dX11_drop_18 ?_
      refine ⟨rfl, _, rfl, ?_⟩
      subst_vars
      refine Or.inr ⟨fun h => ?_, rfl, rfl⟩
      first | exact absurd h.1 (Int32.not_le.mpr (by assumption)) | exact absurd h.2 (Int32.not_le.mpr (by assumption))
set_option maxHeartbeats 400000 in
theorem c_X11_forget (n : Nat) (ρ : Rho) (I : Mem) (x : Int32) (hn9 : n ≤ 999) (hxc : XcS n ρ) : MI yX11_forget cX11_forget 3 (some .int) 0 [.ref 0, .int x] n ρ I (fun v I1 => ((0 ≤ x ∧ x ≤ I 1 6) ∧ v = I 1 6 ∧ wr I 1 6 x = I1) ∨ (¬ (0 ≤ x ∧ x ≤ I 1 6) ∧ v = -1 ∧ I = I1)) := by
  refine MG.of (by decide +kernel) (Nat.le_of_ble_eq_true rfl) hn9 ?_
  intro κ C hR
  show G κ n ρ 0 [(0, .ref 0), (1, .int x)] [] I
  obtain ⟨xc0, xcn, xc1, hga, xc7, hss⟩ := id hxc
  have xcz : 0 < n := by omega
  obtain ⟨ga0, ga1, ga2, ga3, ga4, ga5, ga6, ga7, ga8, gan, hrf, hst⟩ := id hga
  have hrf0 := hrf.1
  have hst0 := hst.1
  refine g_aload_n C (pc := 0) dX11_forget_0 0 rfl ?_
  refine g_getR C (pc := 1) fl_RX11_10 (by decide) (by first | assumption | rfl | omega) (by first | assumption | rfl | omega) (by first | assumption | rfl | omega) dX11_forget_1 ?_
  refine g_getI C (pc := 4) fl_RX11_268 (by decide) (by first | assumption | rfl | omega) (by first | assumption | rfl | omega) dX11_forget_4 ?_
  refine g_istore_n C (pc := 7) dX11_forget_7 (by decide) (fun v7 => [(2, .int v7), (0, .ref 0), (1, .int x)]) (fun _ => rfl) (fun v7 ev7 => ?_)
  refine g_iload_n C (pc := 8) dX11_forget_8 2 rfl ?_
  refine g_if_lt C (pc := 9) 17 dX11_forget_9 (by decide) (fun c9 => ?_) (fun c9 => ?_)
  · refine g_iconst C (pc := 17) (-1) dX11_forget_17 (by decide) ?_
    refine g_iret C hR (pc := 18) rfl dX11_forget_18 ?_
    refine ⟨rfl, _, rfl, ?_⟩
    subst_vars
    refine Or.inr ⟨fun h => ?_, rfl, rfl⟩
    first | exact absurd h.1 (Int32.not_le.mpr (by assumption)) | exact absurd h.2 (Int32.not_le.mpr (by assumption))
  · refine g_iload_n C (pc := 12) dX11_forget_12 2 rfl ?_
    refine g_iload_n C (pc := 13) dX11_forget_13 0 rfl ?_
    refine g_icmp_le C (pc := 14) 19 dX11_forget_14 (by decide) (fun c14 => ?_) (fun c14 => ?_)
    · refine g_aload_n C (pc := 19) dX11_forget_19 1 rfl ?_
      refine g_getR C (pc := 20) fl_RX11_10 (by decide) (by first | assumption | rfl | omega) (by first | assumption | rfl | omega) (by first | assumption | rfl | omega) dX11_forget_20 ?_
      refine g_iload_n C (pc := 23) dX11_forget_23 2 rfl ?_
      refine g_putI C (pc := 24) fl_RX11_268 (by decide) fp_2_6 (Or.inl rfl) ⟨rfl, rfl⟩ (by first | assumption | rfl | omega) (by first | assumption | rfl | omega) hn9 dX11_forget_24 ?_
      refine g_iload_n C (pc := 27) dX11_forget_27 0 rfl ?_
      refine g_iret C hR (pc := 28) rfl dX11_forget_28 ?_
      refine ⟨rfl, _, rfl, ?_⟩
      subst_vars
      refine Or.inl ⟨⟨?_, ?_⟩, rfl, rfl⟩ <;> first | assumption | exact Int32.not_lt.mp (by assumption)
    · refine g_iconst C (pc := 17) (-1) dX11_forget_17 (by decide) ?_
      refine g_iret C hR (pc := 18) rfl dX11_forget_18 ?_
      refine ⟨rfl, _, rfl, ?_⟩
      subst_vars
      refine Or.inr ⟨fun h => ?_, rfl, rfl⟩
      first | exact absurd h.1 (Int32.not_le.mpr (by assumption)) | exact absurd h.2 (Int32.not_le.mpr (by assumption))
