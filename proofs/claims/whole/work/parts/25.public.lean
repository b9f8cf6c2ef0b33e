/-- the fixed references of the class's own object -/
def XcS (n : Nat) (ρ : Rho) : Prop := shp 0 = (20, 11) ∧ 97 ≤ n ∧ ρ 0 0 = some 1 ∧ GaS n ρ 1 ∧ ρ 0 7 = some 61 ∧ SsS n ρ 61
set_option maxHeartbeats 400000 in
theorem c_X11_torn (n : Nat) (ρ : Rho) (I : Mem)  (hn9 : n ≤ 999) (hxc : XcS n ρ) : MI yX11_torn cX11_torn 1 (some .int) 0 [.ref 0] n ρ I (fun v I1 => v = I 0 10 ∧ I = I1) := by
  refine MG.of (by decide +kernel) (Nat.le_of_ble_eq_true rfl) hn9 ?_
  intro κ C hR
  show G κ n ρ 0 [(0, .ref 0)] [] I
  obtain ⟨xc0, xcn, xc1, hga, xc7, hss⟩ := id hxc
  have xcz : 0 < n := by omega
  obtain ⟨ga0, ga1, ga2, ga3, ga4, ga5, ga6, ga7, ga8, gan, hrf, hst⟩ := id hga
  have hrf0 := hrf.1
  have hst0 := hst.1
  refine g_aload_n C (pc := 0) dX11_torn_0 0 rfl ?_
  refine g_getI C (pc := 1) fl_RX11_334 (by decide) (by first | assumption | rfl | omega) (by first | assumption | rfl | omega) dX11_torn_1 ?_
  refine g_iret C hR (pc := 4) rfl dX11_torn_4 ?_
  refine ⟨rfl, _, rfl, ?_⟩
  simp_all
set_option maxHeartbeats 400000 in
theorem c_X11_fault (n : Nat) (ρ : Rho) (I : Mem)  (hn9 : n ≤ 999) (hxc : XcS n ρ) : MI yX11_fault cX11_fault 1 (some .int) 0 [.ref 0] n ρ I (fun v I1 => v = I 0 9 ∧ I = I1) := by
  refine MG.of (by decide +kernel) (Nat.le_of_ble_eq_true rfl) hn9 ?_
  intro κ C hR
  show G κ n ρ 0 [(0, .ref 0)] [] I
  obtain ⟨xc0, xcn, xc1, hga, xc7, hss⟩ := id hxc
  have xcz : 0 < n := by omega
  obtain ⟨ga0, ga1, ga2, ga3, ga4, ga5, ga6, ga7, ga8, gan, hrf, hst⟩ := id hga
  have hrf0 := hrf.1
  have hst0 := hst.1
  refine g_aload_n C (pc := 0) dX11_fault_0 0 rfl ?_
  refine g_getI C (pc := 1) fl_RX11_88 (by decide) (by first | assumption | rfl | omega) (by first | assumption | rfl | omega) dX11_fault_1 ?_
  refine g_iret C hR (pc := 4) rfl dX11_fault_4 ?_
  refine ⟨rfl, _, rfl, ?_⟩
  simp_all
set_option maxHeartbeats 400000 in
theorem c_X11_odd (n : Nat) (ρ : Rho) (I : Mem) (x : Int32) (hn9 : n ≤ 999) (hxc : XcS n ρ) : MI yX11_odd cX11_odd 2 (some .int) 1 [.ref 0, .int x] n ρ I (fun v I1 => v = (if 0 ≤ x ∧ x < 5 then I (1 + 1 + 3) x.toNatClampNeg else -1) ∧ I = I1) := by
  refine MG.of (by decide +kernel) (Nat.le_of_ble_eq_true rfl) hn9 ?_
  intro κ C hR
  show G κ n ρ 0 [(0, .ref 0), (1, .int x)] [] I
  obtain ⟨xc0, xcn, xc1, hga, xc7, hss⟩ := id hxc
  have xcz : 0 < n := by omega
  obtain ⟨ga0, ga1, ga2, ga3, ga4, ga5, ga6, ga7, ga8, gan, hrf, hst⟩ := id hga
  have hrf0 := hrf.1
  have hst0 := hst.1
  refine g_iload_n C (pc := 0) dX11_odd_0 1 rfl ?_
  refine g_callSI C (pc := 1) mf_X11_isWind lk_RX11_159 (c_X11_isWind n ρ I x hn9) (by decide) (Nat.le_refl _) rfl (Nat.le_of_ble_eq_true rfl) dX11_odd_1 (fun v1 I1 h1 => ?_)
  obtain ⟨e1, rfl⟩ := h1
  refine g_if_eq C (pc := 4) 21 dX11_odd_4 (by decide) (fun c4 => ?_) (fun c4 => ?_)
  · have hx := bI_0.mp (e1.symm.trans c4)
    refine g_iconst C (pc := 21) (-1) dX11_odd_21 (by decide) ?_
    refine g_iret C hR (pc := 22) rfl dX11_odd_22 ?_
    refine ⟨rfl, _, rfl, ?_⟩
    refine ⟨?_, rfl⟩
    first | (rw [if_neg hx]; done) | (rw [e15, if_pos hx, if_pos hx]; done) | (rw [e15]; done)
  · have hx : 0 ≤ x ∧ x < 5 := bI_1.mp (fun h => c4 (e1.trans h))
    refine g_aload_n C (pc := 7) dX11_odd_7 0 rfl ?_
    refine g_getR C (pc := 8) fl_RX11_10 (by decide) (by first | assumption | rfl | omega) (by first | assumption | rfl | omega) (by first | assumption | rfl | omega) dX11_odd_8 ?_
    refine g_getR C (pc := 11) fl_RX11_104 (by decide) (by first | assumption | rfl | omega) (by first | assumption | rfl | omega) (by first | assumption | rfl | omega) dX11_odd_11 ?_
    refine g_iload_n C (pc := 14) dX11_odd_14 1 rfl ?_
    refine g_callVI C (pc := 15) mf_X5_oddsOf lk_RX11_162 (c_X5_oddsOf n ρ I (1 + 1) x hn9 hrf) (by decide) (Nat.le_refl _) rfl (by first | assumption | rfl | omega) rfl (by first | assumption | rfl | omega) (Nat.le_of_ble_eq_true rfl) dX11_odd_15 (fun v15 I15 h15 => ?_)
    obtain ⟨e15, rfl⟩ := h15
    refine g_goto C (pc := 18) 22 dX11_odd_18 (by decide) ?_
    refine g_iret C hR (pc := 22) rfl dX11_odd_22 ?_
    refine ⟨rfl, _, rfl, ?_⟩
    refine ⟨?_, rfl⟩
    first | (rw [if_neg hx]; done) | (rw [e15, if_pos hx, if_pos hx]; done) | (rw [e15]; done)
