theorem nmL_0 {tb : Nat → Nat} {L f e : Nat} (he : e ≤ L) (ht : ∀ p, p < L → tb p < 256) : isN tb 0 f e = true ↔ (e - f = 5 ∧ lkM tb L f = 98 ∧ lkM tb L (f + 1) = 111 ∧ lkM tb L (f + 2) = 97) ∧ (lkM tb L (f + 3) = 114 ∧ ((100 : Int32) = 0 ∨ lkM tb L (f + 4) = 100) ∧ ((0 : Int32) = 0 ∨ lkM tb L (f + 5) = 0)) := by
  rw [nm_iff strN_0.1 strC_0.1 (by decide) he ht (by decide), nm5]
  constructor
  · rintro ⟨h0, ⟨⟨h1, h2, h3⟩, h4⟩, h5⟩
    exact ⟨⟨h0, h1, h2, h3⟩, ⟨h4, Or.inr h5, Or.inl rfl⟩⟩
  · rintro ⟨⟨h0, h1, h2, h3⟩, ⟨h4, h5, -⟩⟩
    replace h5 := h5.resolve_left (by decide)
    exact ⟨h0, ⟨⟨⟨h1, h2, h3⟩, h4⟩, h5⟩⟩
theorem nmL_1 {tb : Nat → Nat} {L f e : Nat} (he : e ≤ L) (ht : ∀ p, p < L → tb p < 256) : isN tb 1 f e = true ↔ (e - f = 7 ∧ lkM tb L f = 115 ∧ lkM tb L (f + 1) = 116 ∧ lkM tb L (f + 2) = 101) ∧ (lkM tb L (f + 3) = 101 ∧ ((112 : Int32) = 0 ∨ lkM tb L (f + 4) = 112) ∧ ((108 : Int32) = 0 ∨ lkM tb L (f + 5) = 108)) ∧ lkM tb L (f + 6) = 101 := by
  rw [nm_iff strN_0.2.1 strC_0.2.1 (by decide) he ht (by decide), nm7]
  constructor
  · rintro ⟨h0, ⟨⟨⟨⟨h1, h2, h3⟩, h4⟩, h5⟩, h6⟩, h7⟩
    exact ⟨⟨h0, h1, h2, h3⟩, ⟨h4, Or.inr h5, Or.inr h6⟩, h7⟩
  · rintro ⟨⟨h0, h1, h2, h3⟩, ⟨h4, h5, h6⟩, h7⟩
    replace h5 := h5.resolve_left (by decide)
    replace h6 := h6.resolve_left (by decide)
    exact ⟨h0, ⟨⟨⟨⟨⟨h1, h2, h3⟩, h4⟩, h5⟩, h6⟩, h7⟩⟩
theorem nmL_2 {tb : Nat → Nat} {L f e : Nat} (he : e ≤ L) (ht : ∀ p, p < L → tb p < 256) : isN tb 2 f e = true ↔ (e - f = 5 ∧ lkM tb L f = 112 ∧ lkM tb L (f + 1) = 105 ∧ lkM tb L (f + 2) = 101) ∧ (lkM tb L (f + 3) = 99 ∧ ((101 : Int32) = 0 ∨ lkM tb L (f + 4) = 101) ∧ ((0 : Int32) = 0 ∨ lkM tb L (f + 5) = 0)) := by
  rw [nm_iff strN_0.2.2.1 strC_0.2.2.1 (by decide) he ht (by decide), nm5]
  constructor
  · rintro ⟨h0, ⟨⟨h1, h2, h3⟩, h4⟩, h5⟩
    exact ⟨⟨h0, h1, h2, h3⟩, ⟨h4, Or.inr h5, Or.inl rfl⟩⟩
  · rintro ⟨⟨h0, h1, h2, h3⟩, ⟨h4, h5, -⟩⟩
    replace h5 := h5.resolve_left (by decide)
    exact ⟨h0, ⟨⟨⟨h1, h2, h3⟩, h4⟩, h5⟩⟩
theorem nmL_3 {tb : Nat → Nat} {L f e : Nat} (he : e ≤ L) (ht : ∀ p, p < L → tb p < 256) : isN tb 3 f e = true ↔ (e - f = 4 ∧ lkM tb L f = 111 ∧ lkM tb L (f + 1) = 100 ∧ lkM tb L (f + 2) = 100) ∧ (lkM tb L (f + 3) = 115 ∧ ((0 : Int32) = 0 ∨ lkM tb L (f + 4) = 0) ∧ ((0 : Int32) = 0 ∨ lkM tb L (f + 5) = 0)) := by
  rw [nm_iff strN_0.2.2.2.1 strC_0.2.2.2.1 (by decide) he ht (by decide), nm4]
  constructor
  · rintro ⟨h0, ⟨h1, h2, h3⟩, h4⟩
    exact ⟨⟨h0, h1, h2, h3⟩, ⟨h4, Or.inl rfl, Or.inl rfl⟩⟩
  · rintro ⟨⟨h0, h1, h2, h3⟩, ⟨h4, -, -⟩⟩
    exact ⟨h0, ⟨⟨h1, h2, h3⟩, h4⟩⟩
theorem nmL_4 {tb : Nat → Nat} {L f e : Nat} (he : e ≤ L) (ht : ∀ p, p < L → tb p < 256) : isN tb 4 f e = true ↔ (e - f = 4 ∧ lkM tb L f = 116 ∧ lkM tb L (f + 1) = 117 ∧ lkM tb L (f + 2) = 114) ∧ (lkM tb L (f + 3) = 110 ∧ ((0 : Int32) = 0 ∨ lkM tb L (f + 4) = 0) ∧ ((0 : Int32) = 0 ∨ lkM tb L (f + 5) = 0)) := by
  rw [nm_iff strN_0.2.2.2.2.1 strC_0.2.2.2.2.1 (by decide) he ht (by decide), nm4]
  constructor
  · rintro ⟨h0, ⟨h1, h2, h3⟩, h4⟩
    exact ⟨⟨h0, h1, h2, h3⟩, ⟨h4, Or.inl rfl, Or.inl rfl⟩⟩
  · rintro ⟨⟨h0, h1, h2, h3⟩, ⟨h4, -, -⟩⟩
    exact ⟨h0, ⟨⟨h1, h2, h3⟩, h4⟩⟩
theorem nmL_5 {tb : Nat → Nat} {L f e : Nat} (he : e ≤ L) (ht : ∀ p, p < L → tb p < 256) : isN tb 5 f e = true ↔ (e - f = 4 ∧ lkM tb L f = 107 ∧ lkM tb L (f + 1) = 105 ∧ lkM tb L (f + 2) = 110) ∧ (lkM tb L (f + 3) = 103 ∧ ((0 : Int32) = 0 ∨ lkM tb L (f + 4) = 0) ∧ ((0 : Int32) = 0 ∨ lkM tb L (f + 5) = 0)) := by
  rw [nm_iff strN_0.2.2.2.2.2.1 strC_0.2.2.2.2.2.1 (by decide) he ht (by decide), nm4]
  constructor
  · rintro ⟨h0, ⟨h1, h2, h3⟩, h4⟩
    exact ⟨⟨h0, h1, h2, h3⟩, ⟨h4, Or.inl rfl, Or.inl rfl⟩⟩
  · rintro ⟨⟨h0, h1, h2, h3⟩, ⟨h4, -, -⟩⟩
    exact ⟨h0, ⟨⟨h1, h2, h3⟩, h4⟩⟩
theorem nmL_6 {tb : Nat → Nat} {L f e : Nat} (he : e ≤ L) (ht : ∀ p, p < L → tb p < 256) : isN tb 6 f e = true ↔ (e - f = 3 ∧ lkM tb L f = 109 ∧ lkM tb L (f + 1) = 97 ∧ lkM tb L (f + 2) = 110) := by
  rw [nm_iff strN_0.2.2.2.2.2.2.1 strC_0.2.2.2.2.2.2.1 (by decide) he ht (by decide), nm3]
  constructor
  · rintro ⟨h0, h1, h2, h3⟩
    exact ⟨h0, h1, h2, h3⟩
  · rintro ⟨h0, h1, h2, h3⟩
    exact ⟨h0, ⟨h1, h2, h3⟩⟩
theorem nmL_7 {tb : Nat → Nat} {L f e : Nat} (he : e ≤ L) (ht : ∀ p, p < L → tb p < 256) : isN tb 7 f e = true ↔ (e - f = 6 ∧ lkM tb L f = 114 ∧ lkM tb L (f + 1) = 117 ∧ lkM tb L (f + 2) = 110) ∧ (lkM tb L (f + 3) = 110 ∧ ((101 : Int32) = 0 ∨ lkM tb L (f + 4) = 101) ∧ ((114 : Int32) = 0 ∨ lkM tb L (f + 5) = 114)) := by
  rw [nm_iff strN_0.2.2.2.2.2.2.2.1 strC_0.2.2.2.2.2.2.2.1 (by decide) he ht (by decide), nm6]
  constructor
  · rintro ⟨h0, ⟨⟨⟨h1, h2, h3⟩, h4⟩, h5⟩, h6⟩
    exact ⟨⟨h0, h1, h2, h3⟩, ⟨h4, Or.inr h5, Or.inr h6⟩⟩
  · rintro ⟨⟨h0, h1, h2, h3⟩, ⟨h4, h5, h6⟩⟩
    replace h5 := h5.resolve_left (by decide)
    replace h6 := h6.resolve_left (by decide)
    exact ⟨h0, ⟨⟨⟨⟨h1, h2, h3⟩, h4⟩, h5⟩, h6⟩⟩
theorem nmL_8 {tb : Nat → Nat} {L f e : Nat} (he : e ≤ L) (ht : ∀ p, p < L → tb p < 256) : isN tb 8 f e = true ↔ (e - f = 7 ∧ lkM tb L f = 115 ∧ lkM tb L (f + 1) = 112 ∧ lkM tb L (f + 2) = 97) ∧ (lkM tb L (f + 3) = 114 ∧ ((114 : Int32) = 0 ∨ lkM tb L (f + 4) = 114) ∧ ((111 : Int32) = 0 ∨ lkM tb L (f + 5) = 111)) ∧ lkM tb L (f + 6) = 119 := by
  rw [nm_iff strN_0.2.2.2.2.2.2.2.2 strC_0.2.2.2.2.2.2.2.2 (by decide) he ht (by decide), nm7]
  constructor
  · rintro ⟨h0, ⟨⟨⟨⟨h1, h2, h3⟩, h4⟩, h5⟩, h6⟩, h7⟩
    exact ⟨⟨h0, h1, h2, h3⟩, ⟨h4, Or.inr h5, Or.inr h6⟩, h7⟩
  · rintro ⟨⟨h0, h1, h2, h3⟩, ⟨h4, h5, h6⟩, h7⟩
    replace h5 := h5.resolve_left (by decide)
    replace h6 := h6.resolve_left (by decide)
    exact ⟨h0, ⟨⟨⟨⟨⟨h1, h2, h3⟩, h4⟩, h5⟩, h6⟩, h7⟩⟩
set_option maxHeartbeats 1600000 in
theorem c_X12_lineNow (n : Nat) (ρ : Rho) (I : Mem) (L : Nat) (tb : Nat → Nat) (e9 f9 : Nat) (hn9 : n ≤ 999) (hms : MS n ρ) (htb : TbM I L tb) (hpo : I 97 17 = nI e9) (hfr : I 97 18 = nI f9) (hfe : f9 ≤ e9) (heL : e9 ≤ L) : MI yX12_lineNow cX12_lineNow 1 (some .int) 2 [.ref 97] n ρ I (fun v I1 => v = (if isN tb 0 f9 e9 = true then 0 else if isN tb 3 f9 e9 = true then 1 else if isN tb 4 f9 e9 = true then 2 else if isN tb 1 f9 e9 = true then 3 else if isN tb 2 f9 e9 = true then 4 else -4) ∧ I = I1) := by
  refine MG.of (by decide +kernel) (Nat.le_of_ble_eq_true rfl) hn9 ?_
  intro κ C hR
  show G κ n ρ 0 [(0, .ref 97)] [] I
  obtain ⟨mn, ⟨m0, m1, m5, m6, m7, m11, m12, m15⟩, ⟨m23, m24, m26, m27, m28, m30, m31, m32, m33⟩, ⟨m38, m39, m40, m42⟩⟩ := id hms
  have hL3 := htb.2.1
  have htt : ∀ p, p < L → tb p < 256 := fun p hp => (htb.2.2 p hp).2
  refine g_aload_n C (pc := 0) dX12_lineNow_0 0 rfl ?_
  refine g_iconst C (pc := 1) 5 dX12_lineNow_1 (by decide) ?_
  refine g_bipush C (pc := 2) 98 dX12_lineNow_2 (by decide) ?_
  refine g_bipush C (pc := 4) 111 dX12_lineNow_4 (by decide) ?_
  refine g_bipush C (pc := 6) 97 dX12_lineNow_6 (by decide) ?_
  refine g_callVI C (pc := 8) mf_X12_is lk_RX12_133 (c_X12_is n ρ I L tb e9 f9 5 _ _ _ _ hn9 hms htb hpo hfr hfe (by omega) rfl (by decide)) (by decide) (Nat.le_refl _) rfl (by first | assumption | rfl | omega) rfl (by first | assumption | rfl | omega) (Nat.le_of_ble_eq_true rfl) dX12_lineNow_8 (fun v8 I8 h8 => ?_)
  obtain ⟨e8, rfl⟩ := h8
  refine g_if_eq C (pc := 11) 28 dX12_lineNow_11 (by decide) (fun c11 => ?_) (fun c11 => ?_)
  · have z0 : ¬ isN tb 0 f9 e9 = true := fun h => bI_0.mp (e8.symm.trans c11) ((nmL_0 heL htt).mp h).1
    refine g_aload_n C (pc := 28) dX12_lineNow_28 0 rfl ?_
    refine g_iconst C (pc := 29) 4 dX12_lineNow_29 (by decide) ?_
    refine g_bipush C (pc := 30) 111 dX12_lineNow_30 (by decide) ?_
    refine g_bipush C (pc := 32) 100 dX12_lineNow_32 (by decide) ?_
    refine g_bipush C (pc := 34) 100 dX12_lineNow_34 (by decide) ?_
    refine g_callVI C (pc := 36) mf_X12_is lk_RX12_133 (c_X12_is n ρ I L tb e9 f9 4 _ _ _ _ hn9 hms htb hpo hfr hfe (by omega) rfl (by decide)) (by decide) (Nat.le_refl _) rfl (by first | assumption | rfl | omega) rfl (by first | assumption | rfl | omega) (Nat.le_of_ble_eq_true rfl) dX12_lineNow_36 (fun v36 I36 h36 => ?_)
    obtain ⟨e36, rfl⟩ := h36
    refine g_if_eq C (pc := 39) 55 dX12_lineNow_39 (by decide) (fun c39 => ?_) (fun c39 => ?_)
    · have z3 : ¬ isN tb 3 f9 e9 = true := fun h => bI_0.mp (e36.symm.trans c39) ((nmL_3 heL htt).mp h).1
      refine g_aload_n C (pc := 55) dX12_lineNow_55 0 rfl ?_
      refine g_iconst C (pc := 56) 4 dX12_lineNow_56 (by decide) ?_
      refine g_bipush C (pc := 57) 116 dX12_lineNow_57 (by decide) ?_
      refine g_bipush C (pc := 59) 117 dX12_lineNow_59 (by decide) ?_
      refine g_bipush C (pc := 61) 114 dX12_lineNow_61 (by decide) ?_
      refine g_callVI C (pc := 63) mf_X12_is lk_RX12_133 (c_X12_is n ρ I L tb e9 f9 4 _ _ _ _ hn9 hms htb hpo hfr hfe (by omega) rfl (by decide)) (by decide) (Nat.le_refl _) rfl (by first | assumption | rfl | omega) rfl (by first | assumption | rfl | omega) (Nat.le_of_ble_eq_true rfl) dX12_lineNow_63 (fun v63 I63 h63 => ?_)
      obtain ⟨e63, rfl⟩ := h63
      refine g_if_eq C (pc := 66) 82 dX12_lineNow_66 (by decide) (fun c66 => ?_) (fun c66 => ?_)
      · have z4 : ¬ isN tb 4 f9 e9 = true := fun h => bI_0.mp (e63.symm.trans c66) ((nmL_4 heL htt).mp h).1
        refine g_aload_n C (pc := 82) dX12_lineNow_82 0 rfl ?_
        refine g_bipush C (pc := 83) 7 dX12_lineNow_83 (by decide) ?_
        refine g_bipush C (pc := 85) 115 dX12_lineNow_85 (by decide) ?_
        refine g_bipush C (pc := 87) 116 dX12_lineNow_87 (by decide) ?_
        refine g_bipush C (pc := 89) 101 dX12_lineNow_89 (by decide) ?_
        refine g_callVI C (pc := 91) mf_X12_is lk_RX12_133 (c_X12_is n ρ I L tb e9 f9 7 _ _ _ _ hn9 hms htb hpo hfr hfe (by omega) rfl (by decide)) (by decide) (Nat.le_refl _) rfl (by first | assumption | rfl | omega) rfl (by first | assumption | rfl | omega) (Nat.le_of_ble_eq_true rfl) dX12_lineNow_91 (fun v91 I91 h91 => ?_)
        obtain ⟨e91, rfl⟩ := h91
        refine g_if_eq C (pc := 94) 128 dX12_lineNow_94 (by decide) (fun c94 => ?_) (fun c94 => ?_)
        · have z1 : ¬ isN tb 1 f9 e9 = true := fun h => bI_0.mp (e91.symm.trans c94) ((nmL_1 heL htt).mp h).1
          refine g_aload_n C (pc := 128) dX12_lineNow_128 0 rfl ?_
          refine g_iconst C (pc := 129) 5 dX12_lineNow_129 (by decide) ?_
          refine g_bipush C (pc := 130) 112 dX12_lineNow_130 (by decide) ?_
          refine g_bipush C (pc := 132) 105 dX12_lineNow_132 (by decide) ?_
          refine g_bipush C (pc := 134) 101 dX12_lineNow_134 (by decide) ?_
          refine g_callVI C (pc := 136) mf_X12_is lk_RX12_133 (c_X12_is n ρ I L tb e9 f9 5 _ _ _ _ hn9 hms htb hpo hfr hfe (by omega) rfl (by decide)) (by decide) (Nat.le_refl _) rfl (by first | assumption | rfl | omega) rfl (by first | assumption | rfl | omega) (Nat.le_of_ble_eq_true rfl) dX12_lineNow_136 (fun v136 I136 h136 => ?_)
          obtain ⟨e136, rfl⟩ := h136
          refine g_if_eq C (pc := 139) 158 dX12_lineNow_139 (by decide) (fun c139 => ?_) (fun c139 => ?_)
          · have z2 : ¬ isN tb 2 f9 e9 = true := fun h => bI_0.mp (e136.symm.trans c139) ((nmL_2 heL htt).mp h).1
            refine g_bipush C (pc := 158) (-4) dX12_lineNow_158 (by decide) ?_
            refine g_iret C hR (pc := 160) rfl dX12_lineNow_160 ?_
            refine ⟨rfl, _, rfl, ?_⟩
            refine ⟨?_, rfl⟩
            first
            | (rw [if_pos y0]; done)
            | (rw [if_neg z0, if_pos y3]; done)
            | (rw [if_neg z0, if_neg z3, if_pos y4]; done)
            | (rw [if_neg z0, if_neg z3, if_neg z4, if_pos y1]; done)
            | (rw [if_neg z0, if_neg z3, if_neg z4, if_neg z1, if_pos y2]; done)
            | (rw [if_neg z0, if_neg z3, if_neg z4, if_neg z1, if_neg z2]; done)
          · refine g_aload_n C (pc := 142) dX12_lineNow_142 0 rfl ?_
            refine g_bipush C (pc := 143) 99 dX12_lineNow_143 (by decide) ?_
            refine g_bipush C (pc := 145) 101 dX12_lineNow_145 (by decide) ?_
            refine g_iconst C (pc := 147) 0 dX12_lineNow_147 (by decide) ?_
            refine g_callVI C (pc := 148) mf_X12_ends lk_RX12_137 (c_X12_ends n ρ I L tb f9 _ _ _ hn9 hms htb hfr (by omega)) (by decide) (Nat.le_refl _) rfl (by first | assumption | rfl | omega) rfl (by first | assumption | rfl | omega) (Nat.le_of_ble_eq_true rfl) dX12_lineNow_148 (fun v148 I148 h148 => ?_)
            obtain ⟨e148, rfl⟩ := h148
            refine g_if_eq C (pc := 151) 158 dX12_lineNow_151 (by decide) (fun c151 => ?_) (fun c151 => ?_)
            · have z2 : ¬ isN tb 2 f9 e9 = true := fun h => bI_0.mp (e148.symm.trans c151) ((nmL_2 heL htt).mp h).2
              refine g_bipush C (pc := 158) (-4) dX12_lineNow_158 (by decide) ?_
              refine g_iret C hR (pc := 160) rfl dX12_lineNow_160 ?_
              refine ⟨rfl, _, rfl, ?_⟩
              refine ⟨?_, rfl⟩
              first
              | (rw [if_pos y0]; done)
              | (rw [if_neg z0, if_pos y3]; done)
              | (rw [if_neg z0, if_neg z3, if_pos y4]; done)
              | (rw [if_neg z0, if_neg z3, if_neg z4, if_pos y1]; done)
              | (rw [if_neg z0, if_neg z3, if_neg z4, if_neg z1, if_pos y2]; done)
              | (rw [if_neg z0, if_neg z3, if_neg z4, if_neg z1, if_neg z2]; done)
            · have y2 : isN tb 2 f9 e9 = true := (nmL_2 heL htt).mpr ⟨bI_1.mp (fun h => c139 (e136.trans h)), bI_1.mp (fun h => c151 (e148.trans h))⟩
              refine g_iconst C (pc := 154) 4 dX12_lineNow_154 (by decide) ?_
              refine g_goto C (pc := 155) 160 dX12_lineNow_155 (by decide) ?_
              refine g_iret C hR (pc := 160) rfl dX12_lineNow_160 ?_
              refine ⟨rfl, _, rfl, ?_⟩
              refine ⟨?_, rfl⟩
              first
              | (rw [if_pos y0]; done)
              | (rw [if_neg z0, if_pos y3]; done)
              | (rw [if_neg z0, if_neg z3, if_pos y4]; done)
              | (rw [if_neg z0, if_neg z3, if_neg z4, if_pos y1]; done)
              | (rw [if_neg z0, if_neg z3, if_neg z4, if_neg z1, if_pos y2]; done)
              | (rw [if_neg z0, if_neg z3, if_neg z4, if_neg z1, if_neg z2]; done)
        · refine g_aload_n C (pc := 97) dX12_lineNow_97 0 rfl ?_
          refine g_bipush C (pc := 98) 101 dX12_lineNow_98 (by decide) ?_
          refine g_bipush C (pc := 100) 112 dX12_lineNow_100 (by decide) ?_
          refine g_bipush C (pc := 102) 108 dX12_lineNow_102 (by decide) ?_
          refine g_callVI C (pc := 104) mf_X12_ends lk_RX12_137 (c_X12_ends n ρ I L tb f9 _ _ _ hn9 hms htb hfr (by omega)) (by decide) (Nat.le_refl _) rfl (by first | assumption | rfl | omega) rfl (by first | assumption | rfl | omega) (Nat.le_of_ble_eq_true rfl) dX12_lineNow_104 (fun v104 I104 h104 => ?_)
          obtain ⟨e104, rfl⟩ := h104
          refine g_if_eq C (pc := 107) 128 dX12_lineNow_107 (by decide) (fun c107 => ?_) (fun c107 => ?_)
          · have z1 : ¬ isN tb 1 f9 e9 = true := fun h => bI_0.mp (e104.symm.trans c107) ((nmL_1 heL htt).mp h).2.1
            refine g_aload_n C (pc := 128) dX12_lineNow_128 0 rfl ?_
            refine g_iconst C (pc := 129) 5 dX12_lineNow_129 (by decide) ?_
            refine g_bipush C (pc := 130) 112 dX12_lineNow_130 (by decide) ?_
            refine g_bipush C (pc := 132) 105 dX12_lineNow_132 (by decide) ?_
            refine g_bipush C (pc := 134) 101 dX12_lineNow_134 (by decide) ?_
            refine g_callVI C (pc := 136) mf_X12_is lk_RX12_133 (c_X12_is n ρ I L tb e9 f9 5 _ _ _ _ hn9 hms htb hpo hfr hfe (by omega) rfl (by decide)) (by decide) (Nat.le_refl _) rfl (by first | assumption | rfl | omega) rfl (by first | assumption | rfl | omega) (Nat.le_of_ble_eq_true rfl) dX12_lineNow_136 (fun v136 I136 h136 => ?_)
            obtain ⟨e136, rfl⟩ := h136
            refine g_if_eq C (pc := 139) 158 dX12_lineNow_139 (by decide) (fun c139 => ?_) (fun c139 => ?_)
            · have z2 : ¬ isN tb 2 f9 e9 = true := fun h => bI_0.mp (e136.symm.trans c139) ((nmL_2 heL htt).mp h).1
              refine g_bipush C (pc := 158) (-4) dX12_lineNow_158 (by decide) ?_
              refine g_iret C hR (pc := 160) rfl dX12_lineNow_160 ?_
              refine ⟨rfl, _, rfl, ?_⟩
              refine ⟨?_, rfl⟩
              first
              | (rw [if_pos y0]; done)
              | (rw [if_neg z0, if_pos y3]; done)
              | (rw [if_neg z0, if_neg z3, if_pos y4]; done)
              | (rw [if_neg z0, if_neg z3, if_neg z4, if_pos y1]; done)
              | (rw [if_neg z0, if_neg z3, if_neg z4, if_neg z1, if_pos y2]; done)
              | (rw [if_neg z0, if_neg z3, if_neg z4, if_neg z1, if_neg z2]; done)
            · refine g_aload_n C (pc := 142) dX12_lineNow_142 0 rfl ?_
              refine g_bipush C (pc := 143) 99 dX12_lineNow_143 (by decide) ?_
              refine g_bipush C (pc := 145) 101 dX12_lineNow_145 (by decide) ?_
              refine g_iconst C (pc := 147) 0 dX12_lineNow_147 (by decide) ?_
              refine g_callVI C (pc := 148) mf_X12_ends lk_RX12_137 (c_X12_ends n ρ I L tb f9 _ _ _ hn9 hms htb hfr (by omega)) (by decide) (Nat.le_refl _) rfl (by first | assumption | rfl | omega) rfl (by first | assumption | rfl | omega) (Nat.le_of_ble_eq_true rfl) dX12_lineNow_148 (fun v148 I148 h148 => ?_)
              obtain ⟨e148, rfl⟩ := h148
              refine g_if_eq C (pc := 151) 158 dX12_lineNow_151 (by decide) (fun c151 => ?_) (fun c151 => ?_)
              · have z2 : ¬ isN tb 2 f9 e9 = true := fun h => bI_0.mp (e148.symm.trans c151) ((nmL_2 heL htt).mp h).2
                refine g_bipush C (pc := 158) (-4) dX12_lineNow_158 (by decide) ?_
                refine g_iret C hR (pc := 160) rfl dX12_lineNow_160 ?_
                refine ⟨rfl, _, rfl, ?_⟩
                refine ⟨?_, rfl⟩
                first
                | (rw [if_pos y0]; done)
                | (rw [if_neg z0, if_pos y3]; done)
                | (rw [if_neg z0, if_neg z3, if_pos y4]; done)
                | (rw [if_neg z0, if_neg z3, if_neg z4, if_pos y1]; done)
                | (rw [if_neg z0, if_neg z3, if_neg z4, if_neg z1, if_pos y2]; done)
                | (rw [if_neg z0, if_neg z3, if_neg z4, if_neg z1, if_neg z2]; done)
              · have y2 : isN tb 2 f9 e9 = true := (nmL_2 heL htt).mpr ⟨bI_1.mp (fun h => c139 (e136.trans h)), bI_1.mp (fun h => c151 (e148.trans h))⟩
                refine g_iconst C (pc := 154) 4 dX12_lineNow_154 (by decide) ?_
                refine g_goto C (pc := 155) 160 dX12_lineNow_155 (by decide) ?_
                refine g_iret C hR (pc := 160) rfl dX12_lineNow_160 ?_
                refine ⟨rfl, _, rfl, ?_⟩
                refine ⟨?_, rfl⟩
                first
                | (rw [if_pos y0]; done)
                | (rw [if_neg z0, if_pos y3]; done)
                | (rw [if_neg z0, if_neg z3, if_pos y4]; done)
                | (rw [if_neg z0, if_neg z3, if_neg z4, if_pos y1]; done)
                | (rw [if_neg z0, if_neg z3, if_neg z4, if_neg z1, if_pos y2]; done)
                | (rw [if_neg z0, if_neg z3, if_neg z4, if_neg z1, if_neg z2]; done)
          · refine g_aload_n C (pc := 110) dX12_lineNow_110 0 rfl ?_
            refine g_aload_n C (pc := 111) dX12_lineNow_111 0 rfl ?_
            refine g_getI C (pc := 112) fl_RX12_120 (by decide) (by first | assumption | rfl | omega) (by first | assumption | rfl | omega) dX12_lineNow_112 ?_
            refine g_bipush C (pc := 115) 6 dX12_lineNow_115 (by decide) ?_
            refine g_iadd C (pc := 117) dX12_lineNow_117 ?_
            refine g_callVI C (pc := 118) mf_X12_look lk_RX12_129 (c_X12_look n ρ I L tb (f9 + 6) _ hn9 hms htb (by omega) (by rw [hfr, show (6 : Int32) = nI 6 from rfl, nI_add])) (by decide) (Nat.le_refl _) rfl (by first | assumption | rfl | omega) rfl (by first | assumption | rfl | omega) (Nat.le_of_ble_eq_true rfl) dX12_lineNow_118 (fun v118 I118 h118 => ?_)
            obtain ⟨e118, rfl⟩ := h118
            refine g_bipush C (pc := 121) 101 dX12_lineNow_121 (by decide) ?_
            refine g_icmp_ne C (pc := 123) 128 dX12_lineNow_123 (by decide) (fun c123 => ?_) (fun c123 => ?_)
            · have z1 : ¬ isN tb 1 f9 e9 = true := fun h => c123 (e118.trans ((nmL_1 heL htt).mp h).2.2)
              refine g_aload_n C (pc := 128) dX12_lineNow_128 0 rfl ?_
              refine g_iconst C (pc := 129) 5 dX12_lineNow_129 (by decide) ?_
              refine g_bipush C (pc := 130) 112 dX12_lineNow_130 (by decide) ?_
              refine g_bipush C (pc := 132) 105 dX12_lineNow_132 (by decide) ?_
              refine g_bipush C (pc := 134) 101 dX12_lineNow_134 (by decide) ?_
              refine g_callVI C (pc := 136) mf_X12_is lk_RX12_133 (c_X12_is n ρ I L tb e9 f9 5 _ _ _ _ hn9 hms htb hpo hfr hfe (by omega) rfl (by decide)) (by decide) (Nat.le_refl _) rfl (by first | assumption | rfl | omega) rfl (by first | assumption | rfl | omega) (Nat.le_of_ble_eq_true rfl) dX12_lineNow_136 (fun v136 I136 h136 => ?_)
              obtain ⟨e136, rfl⟩ := h136
              refine g_if_eq C (pc := 139) 158 dX12_lineNow_139 (by decide) (fun c139 => ?_) (fun c139 => ?_)
              · have z2 : ¬ isN tb 2 f9 e9 = true := fun h => bI_0.mp (e136.symm.trans c139) ((nmL_2 heL htt).mp h).1
                refine g_bipush C (pc := 158) (-4) dX12_lineNow_158 (by decide) ?_
                refine g_iret C hR (pc := 160) rfl dX12_lineNow_160 ?_
                refine ⟨rfl, _, rfl, ?_⟩
                refine ⟨?_, rfl⟩
                first
                | (rw [if_pos y0]; done)
                | (rw [if_neg z0, if_pos y3]; done)
                | (rw [if_neg z0, if_neg z3, if_pos y4]; done)
                | (rw [if_neg z0, if_neg z3, if_neg z4, if_pos y1]; done)
                | (rw [if_neg z0, if_neg z3, if_neg z4, if_neg z1, if_pos y2]; done)
                | (rw [if_neg z0, if_neg z3, if_neg z4, if_neg z1, if_neg z2]; done)
              · refine g_aload_n C (pc := 142) dX12_lineNow_142 0 rfl ?_
                refine g_bipush C (pc := 143) 99 dX12_lineNow_143 (by decide) ?_
                refine g_bipush C (pc := 145) 101 dX12_lineNow_145 (by decide) ?_
                refine g_iconst C (pc := 147) 0 dX12_lineNow_147 (by decide) ?_
                refine g_callVI C (pc := 148) mf_X12_ends lk_RX12_137 (c_X12_ends n ρ I L tb f9 _ _ _ hn9 hms htb hfr (by omega)) (by decide) (Nat.le_refl _) rfl (by first | assumption | rfl | omega) rfl (by first | assumption | rfl | omega) (Nat.le_of_ble_eq_true rfl) dX12_lineNow_148 (fun v148 I148 h148 => ?_)
                obtain ⟨e148, rfl⟩ := h148
                refine g_if_eq C (pc := 151) 158 dX12_lineNow_151 (by decide) (fun c151 => ?_) (fun c151 => ?_)
                · have z2 : ¬ isN tb 2 f9 e9 = true := fun h => bI_0.mp (e148.symm.trans c151) ((nmL_2 heL htt).mp h).2
                  refine g_bipush C (pc := 158) (-4) dX12_lineNow_158 (by decide) ?_
                  refine g_iret C hR (pc := 160) rfl dX12_lineNow_160 ?_
                  refine ⟨rfl, _, rfl, ?_⟩
                  refine ⟨?_, rfl⟩
                  first
                  | (rw [if_pos y0]; done)
                  | (rw [if_neg z0, if_pos y3]; done)
                  | (rw [if_neg z0, if_neg z3, if_pos y4]; done)
                  | (rw [if_neg z0, if_neg z3, if_neg z4, if_pos y1]; done)
                  | (rw [if_neg z0, if_neg z3, if_neg z4, if_neg z1, if_pos y2]; done)
                  | (rw [if_neg z0, if_neg z3, if_neg z4, if_neg z1, if_neg z2]; done)
                · have y2 : isN tb 2 f9 e9 = true := (nmL_2 heL htt).mpr ⟨bI_1.mp (fun h => c139 (e136.trans h)), bI_1.mp (fun h => c151 (e148.trans h))⟩
                  refine g_iconst C (pc := 154) 4 dX12_lineNow_154 (by decide) ?_
                  refine g_goto C (pc := 155) 160 dX12_lineNow_155 (by decide) ?_
                  refine g_iret C hR (pc := 160) rfl dX12_lineNow_160 ?_
                  refine ⟨rfl, _, rfl, ?_⟩
                  refine ⟨?_, rfl⟩
                  first
                  | (rw [if_pos y0]; done)
                  | (rw [if_neg z0, if_pos y3]; done)
                  | (rw [if_neg z0, if_neg z3, if_pos y4]; done)
                  | (rw [if_neg z0, if_neg z3, if_neg z4, if_pos y1]; done)
                  | (rw [if_neg z0, if_neg z3, if_neg z4, if_neg z1, if_pos y2]; done)
                  | (rw [if_neg z0, if_neg z3, if_neg z4, if_neg z1, if_neg z2]; done)
            · have y1 : isN tb 1 f9 e9 = true := (nmL_1 heL htt).mpr ⟨bI_1.mp (fun h => c94 (e91.trans h)), bI_1.mp (fun h => c107 (e104.trans h)), e118.symm.trans c123⟩
              refine g_iconst C (pc := 126) 3 dX12_lineNow_126 (by decide) ?_
              refine g_iret C hR (pc := 127) rfl dX12_lineNow_127 ?_
              refine ⟨rfl, _, rfl, ?_⟩
              refine ⟨?_, rfl⟩
              first
              | (rw [if_pos y0]; done)
              | (rw [if_neg z0, if_pos y3]; done)
              | (rw [if_neg z0, if_neg z3, if_pos y4]; done)
              | (rw [if_neg z0, if_neg z3, if_neg z4, if_pos y1]; done)
              | (rw [if_neg z0, if_neg z3, if_neg z4, if_neg z1, if_pos y2]; done)
              | (rw [if_neg z0, if_neg z3, if_neg z4, if_neg z1, if_neg z2]; done)
      · refine g_aload_n C (pc := 69) dX12_lineNow_69 0 rfl ?_
        refine g_bipush C (pc := 70) 110 dX12_lineNow_70 (by decide) ?_
        refine g_iconst C (pc := 72) 0 dX12_lineNow_72 (by decide) ?_
        refine g_iconst C (pc := 73) 0 dX12_lineNow_73 (by decide) ?_
        refine g_callVI C (pc := 74) mf_X12_ends lk_RX12_137 (c_X12_ends n ρ I L tb f9 _ _ _ hn9 hms htb hfr (by omega)) (by decide) (Nat.le_refl _) rfl (by first | assumption | rfl | omega) rfl (by first | assumption | rfl | omega) (Nat.le_of_ble_eq_true rfl) dX12_lineNow_74 (fun v74 I74 h74 => ?_)
        obtain ⟨e74, rfl⟩ := h74
        refine g_if_eq C (pc := 77) 82 dX12_lineNow_77 (by decide) (fun c77 => ?_) (fun c77 => ?_)
        · have z4 : ¬ isN tb 4 f9 e9 = true := fun h => bI_0.mp (e74.symm.trans c77) ((nmL_4 heL htt).mp h).2
          refine g_aload_n C (pc := 82) dX12_lineNow_82 0 rfl ?_
          refine g_bipush C (pc := 83) 7 dX12_lineNow_83 (by decide) ?_
          refine g_bipush C (pc := 85) 115 dX12_lineNow_85 (by decide) ?_
          refine g_bipush C (pc := 87) 116 dX12_lineNow_87 (by decide) ?_
          refine g_bipush C (pc := 89) 101 dX12_lineNow_89 (by decide) ?_
          refine g_callVI C (pc := 91) mf_X12_is lk_RX12_133 (c_X12_is n ρ I L tb e9 f9 7 _ _ _ _ hn9 hms htb hpo hfr hfe (by omega) rfl (by decide)) (by decide) (Nat.le_refl _) rfl (by first | assumption | rfl | omega) rfl (by first | assumption | rfl | omega) (Nat.le_of_ble_eq_true rfl) dX12_lineNow_91 (fun v91 I91 h91 => ?_)
          obtain ⟨e91, rfl⟩ := h91
          refine g_if_eq C (pc := 94) 128 dX12_lineNow_94 (by decide) (fun c94 => ?_) (fun c94 => ?_)
          · have z1 : ¬ isN tb 1 f9 e9 = true := fun h => bI_0.mp (e91.symm.trans c94) ((nmL_1 heL htt).mp h).1
            refine g_aload_n C (pc := 128) dX12_lineNow_128 0 rfl ?_
            refine g_iconst C (pc := 129) 5 dX12_lineNow_129 (by decide) ?_
            refine g_bipush C (pc := 130) 112 dX12_lineNow_130 (by decide) ?_
            refine g_bipush C (pc := 132) 105 dX12_lineNow_132 (by decide) ?_
            refine g_bipush C (pc := 134) 101 dX12_lineNow_134 (by decide) ?_
            refine g_callVI C (pc := 136) mf_X12_is lk_RX12_133 (c_X12_is n ρ I L tb e9 f9 5 _ _ _ _ hn9 hms htb hpo hfr hfe (by omega) rfl (by decide)) (by decide) (Nat.le_refl _) rfl (by first | assumption | rfl | omega) rfl (by first | assumption | rfl | omega) (Nat.le_of_ble_eq_true rfl) dX12_lineNow_136 (fun v136 I136 h136 => ?_)
            obtain ⟨e136, rfl⟩ := h136
            refine g_if_eq C (pc := 139) 158 dX12_lineNow_139 (by decide) (fun c139 => ?_) (fun c139 => ?_)
            · have z2 : ¬ isN tb 2 f9 e9 = true := fun h => bI_0.mp (e136.symm.trans c139) ((nmL_2 heL htt).mp h).1
              refine g_bipush C (pc := 158) (-4) dX12_lineNow_158 (by decide) ?_
              refine g_iret C hR (pc := 160) rfl dX12_lineNow_160 ?_
              refine ⟨rfl, _, rfl, ?_⟩
              refine ⟨?_, rfl⟩
              first
              | (rw [if_pos y0]; done)
              | (rw [if_neg z0, if_pos y3]; done)
              | (rw [if_neg z0, if_neg z3, if_pos y4]; done)
              | (rw [if_neg z0, if_neg z3, if_neg z4, if_pos y1]; done)
              | (rw [if_neg z0, if_neg z3, if_neg z4, if_neg z1, if_pos y2]; done)
              | (rw [if_neg z0, if_neg z3, if_neg z4, if_neg z1, if_neg z2]; done)
            · refine g_aload_n C (pc := 142) dX12_lineNow_142 0 rfl ?_
              refine g_bipush C (pc := 143) 99 dX12_lineNow_143 (by decide) ?_
              refine g_bipush C (pc := 145) 101 dX12_lineNow_145 (by decide) ?_
              refine g_iconst C (pc := 147) 0 dX12_lineNow_147 (by decide) ?_
              refine g_callVI C (pc := 148) mf_X12_ends lk_RX12_137 (c_X12_ends n ρ I L tb f9 _ _ _ hn9 hms htb hfr (by omega)) (by decide) (Nat.le_refl _) rfl (by first | assumption | rfl | omega) rfl (by first | assumption | rfl | omega) (Nat.le_of_ble_eq_true rfl) dX12_lineNow_148 (fun v148 I148 h148 => ?_)
              obtain ⟨e148, rfl⟩ := h148
              refine g_if_eq C (pc := 151) 158 dX12_lineNow_151 (by decide) (fun c151 => ?_) (fun c151 => ?_)
              · have z2 : ¬ isN tb 2 f9 e9 = true := fun h => bI_0.mp (e148.symm.trans c151) ((nmL_2 heL htt).mp h).2
                refine g_bipush C (pc := 158) (-4) dX12_lineNow_158 (by decide) ?_
                refine g_iret C hR (pc := 160) rfl dX12_lineNow_160 ?_
                refine ⟨rfl, _, rfl, ?_⟩
                refine ⟨?_, rfl⟩
                first
                | (rw [if_pos y0]; done)
                | (rw [if_neg z0, if_pos y3]; done)
                | (rw [if_neg z0, if_neg z3, if_pos y4]; done)
                | (rw [if_neg z0, if_neg z3, if_neg z4, if_pos y1]; done)
                | (rw [if_neg z0, if_neg z3, if_neg z4, if_neg z1, if_pos y2]; done)
                | (rw [if_neg z0, if_neg z3, if_neg z4, if_neg z1, if_neg z2]; done)
              · have y2 : isN tb 2 f9 e9 = true := (nmL_2 heL htt).mpr ⟨bI_1.mp (fun h => c139 (e136.trans h)), bI_1.mp (fun h => c151 (e148.trans h))⟩
                refine g_iconst C (pc := 154) 4 dX12_lineNow_154 (by decide) ?_
                refine g_goto C (pc := 155) 160 dX12_lineNow_155 (by decide) ?_
                refine g_iret C hR (pc := 160) rfl dX12_lineNow_160 ?_
                refine ⟨rfl, _, rfl, ?_⟩
                refine ⟨?_, rfl⟩
                first
                | (rw [if_pos y0]; done)
                | (rw [if_neg z0, if_pos y3]; done)
                | (rw [if_neg z0, if_neg z3, if_pos y4]; done)
                | (rw [if_neg z0, if_neg z3, if_neg z4, if_pos y1]; done)
                | (rw [if_neg z0, if_neg z3, if_neg z4, if_neg z1, if_pos y2]; done)
                | (rw [if_neg z0, if_neg z3, if_neg z4, if_neg z1, if_neg z2]; done)
          · refine g_aload_n C (pc := 97) dX12_lineNow_97 0 rfl ?_
            refine g_bipush C (pc := 98) 101 dX12_lineNow_98 (by decide) ?_
            refine g_bipush C (pc := 100) 112 dX12_lineNow_100 (by decide) ?_
            refine g_bipush C (pc := 102) 108 dX12_lineNow_102 (by decide) ?_
            refine g_callVI C (pc := 104) mf_X12_ends lk_RX12_137 (c_X12_ends n ρ I L tb f9 _ _ _ hn9 hms htb hfr (by omega)) (by decide) (Nat.le_refl _) rfl (by first | assumption | rfl | omega) rfl (by first | assumption | rfl | omega) (Nat.le_of_ble_eq_true rfl) dX12_lineNow_104 (fun v104 I104 h104 => ?_)
            obtain ⟨e104, rfl⟩ := h104
            refine g_if_eq C (pc := 107) 128 dX12_lineNow_107 (by decide) (fun c107 => ?_) (fun c107 => ?_)
            · have z1 : ¬ isN tb 1 f9 e9 = true := fun h => bI_0.mp (e104.symm.trans c107) ((nmL_1 heL htt).mp h).2.1
              refine g_aload_n C (pc := 128) dX12_lineNow_128 0 rfl ?_
              refine g_iconst C (pc := 129) 5 dX12_lineNow_129 (by decide) ?_
              refine g_bipush C (pc := 130) 112 dX12_lineNow_130 (by decide) ?_
              refine g_bipush C (pc := 132) 105 dX12_lineNow_132 (by decide) ?_
              refine g_bipush C (pc := 134) 101 dX12_lineNow_134 (by decide) ?_
              refine g_callVI C (pc := 136) mf_X12_is lk_RX12_133 (c_X12_is n ρ I L tb e9 f9 5 _ _ _ _ hn9 hms htb hpo hfr hfe (by omega) rfl (by decide)) (by decide) (Nat.le_refl _) rfl (by first | assumption | rfl | omega) rfl (by first | assumption | rfl | omega) (Nat.le_of_ble_eq_true rfl) dX12_lineNow_136 (fun v136 I136 h136 => ?_)
              obtain ⟨e136, rfl⟩ := h136
              refine g_if_eq C (pc := 139) 158 dX12_lineNow_139 (by decide) (fun c139 => ?_) (fun c139 => ?_)
              · have z2 : ¬ isN tb 2 f9 e9 = true := fun h => bI_0.mp (e136.symm.trans c139) ((nmL_2 heL htt).mp h).1
                refine g_bipush C (pc := 158) (-4) dX12_lineNow_158 (by decide) ?_
                refine g_iret C hR (pc := 160) rfl dX12_lineNow_160 ?_
                refine ⟨rfl, _, rfl, ?_⟩
                refine ⟨?_, rfl⟩
                first
                | (rw [if_pos y0]; done)
                | (rw [if_neg z0, if_pos y3]; done)
                | (rw [if_neg z0, if_neg z3, if_pos y4]; done)
                | (rw [if_neg z0, if_neg z3, if_neg z4, if_pos y1]; done)
                | (rw [if_neg z0, if_neg z3, if_neg z4, if_neg z1, if_pos y2]; done)
                | (rw [if_neg z0, if_neg z3, if_neg z4, if_neg z1, if_neg z2]; done)
              · refine g_aload_n C (pc := 142) dX12_lineNow_142 0 rfl ?_
                refine g_bipush C (pc := 143) 99 dX12_lineNow_143 (by decide) ?_
                refine g_bipush C (pc := 145) 101 dX12_lineNow_145 (by decide) ?_
                refine g_iconst C (pc := 147) 0 dX12_lineNow_147 (by decide) ?_
                refine g_callVI C (pc := 148) mf_X12_ends lk_RX12_137 (c_X12_ends n ρ I L tb f9 _ _ _ hn9 hms htb hfr (by omega)) (by decide) (Nat.le_refl _) rfl (by first | assumption | rfl | omega) rfl (by first | assumption | rfl | omega) (Nat.le_of_ble_eq_true rfl) dX12_lineNow_148 (fun v148 I148 h148 => ?_)
                obtain ⟨e148, rfl⟩ := h148
                refine g_if_eq C (pc := 151) 158 dX12_lineNow_151 (by decide) (fun c151 => ?_) (fun c151 => ?_)
                · have z2 : ¬ isN tb 2 f9 e9 = true := fun h => bI_0.mp (e148.symm.trans c151) ((nmL_2 heL htt).mp h).2
                  refine g_bipush C (pc := 158) (-4) dX12_lineNow_158 (by decide) ?_
                  refine g_iret C hR (pc := 160) rfl dX12_lineNow_160 ?_
                  refine ⟨rfl, _, rfl, ?_⟩
                  refine ⟨?_, rfl⟩
                  first
                  | (rw [if_pos y0]; done)
                  | (rw [if_neg z0, if_pos y3]; done)
                  | (rw [if_neg z0, if_neg z3, if_pos y4]; done)
                  | (rw [if_neg z0, if_neg z3, if_neg z4, if_pos y1]; done)
                  | (rw [if_neg z0, if_neg z3, if_neg z4, if_neg z1, if_pos y2]; done)
                  | (rw [if_neg z0, if_neg z3, if_neg z4, if_neg z1, if_neg z2]; done)
                · have y2 : isN tb 2 f9 e9 = true := (nmL_2 heL htt).mpr ⟨bI_1.mp (fun h => c139 (e136.trans h)), bI_1.mp (fun h => c151 (e148.trans h))⟩
                  refine g_iconst C (pc := 154) 4 dX12_lineNow_154 (by decide) ?_
                  refine g_goto C (pc := 155) 160 dX12_lineNow_155 (by decide) ?_
                  refine g_iret C hR (pc := 160) rfl dX12_lineNow_160 ?_
                  refine ⟨rfl, _, rfl, ?_⟩
                  refine ⟨?_, rfl⟩
                  first
                  | (rw [if_pos y0]; done)
                  | (rw [if_neg z0, if_pos y3]; done)
                  | (rw [if_neg z0, if_neg z3, if_pos y4]; done)
                  | (rw [if_neg z0, if_neg z3, if_neg z4, if_pos y1]; done)
                  | (rw [if_neg z0, if_neg z3, if_neg z4, if_neg z1, if_pos y2]; done)
                  | (rw [if_neg z0, if_neg z3, if_neg z4, if_neg z1, if_neg z2]; done)
            · refine g_aload_n C (pc := 110) dX12_lineNow_110 0 rfl ?_
              refine g_aload_n C (pc := 111) dX12_lineNow_111 0 rfl ?_
              refine g_getI C (pc := 112) fl_RX12_120 (by decide) (by first | assumption | rfl | omega) (by first | assumption | rfl | omega) dX12_lineNow_112 ?_
              refine g_bipush C (pc := 115) 6 dX12_lineNow_115 (by decide) ?_
              refine g_iadd C (pc := 117) dX12_lineNow_117 ?_
              refine g_callVI C (pc := 118) mf_X12_look lk_RX12_129 (c_X12_look n ρ I L tb (f9 + 6) _ hn9 hms htb (by omega) (by rw [hfr, show (6 : Int32) = nI 6 from rfl, nI_add])) (by decide) (Nat.le_refl _) rfl (by first | assumption | rfl | omega) rfl (by first | assumption | rfl | omega) (Nat.le_of_ble_eq_true rfl) dX12_lineNow_118 (fun v118 I118 h118 => ?_)
              obtain ⟨e118, rfl⟩ := h118
              refine g_bipush C (pc := 121) 101 dX12_lineNow_121 (by decide) ?_
              refine g_icmp_ne C (pc := 123) 128 dX12_lineNow_123 (by decide) (fun c123 => ?_) (fun c123 => ?_)
              · have z1 : ¬ isN tb 1 f9 e9 = true := fun h => c123 (e118.trans ((nmL_1 heL htt).mp h).2.2)
                refine g_aload_n C (pc := 128) dX12_lineNow_128 0 rfl ?_
                refine g_iconst C (pc := 129) 5 dX12_lineNow_129 (by decide) ?_
                refine g_bipush C (pc := 130) 112 dX12_lineNow_130 (by decide) ?_
                refine g_bipush C (pc := 132) 105 dX12_lineNow_132 (by decide) ?_
                refine g_bipush C (pc := 134) 101 dX12_lineNow_134 (by decide) ?_
                refine g_callVI C (pc := 136) mf_X12_is lk_RX12_133 (c_X12_is n ρ I L tb e9 f9 5 _ _ _ _ hn9 hms htb hpo hfr hfe (by omega) rfl (by decide)) (by decide) (Nat.le_refl _) rfl (by first | assumption | rfl | omega) rfl (by first | assumption | rfl | omega) (Nat.le_of_ble_eq_true rfl) dX12_lineNow_136 (fun v136 I136 h136 => ?_)
                obtain ⟨e136, rfl⟩ := h136
                refine g_if_eq C (pc := 139) 158 dX12_lineNow_139 (by decide) (fun c139 => ?_) (fun c139 => ?_)
                · have z2 : ¬ isN tb 2 f9 e9 = true := fun h => bI_0.mp (e136.symm.trans c139) ((nmL_2 heL htt).mp h).1
                  refine g_bipush C (pc := 158) (-4) dX12_lineNow_158 (by decide) ?_
                  refine g_iret C hR (pc := 160) rfl dX12_lineNow_160 ?_
                  refine ⟨rfl, _, rfl, ?_⟩
                  refine ⟨?_, rfl⟩
                  first
                  | (rw [if_pos y0]; done)
                  | (rw [if_neg z0, if_pos y3]; done)
                  | (rw [if_neg z0, if_neg z3, if_pos y4]; done)
                  | (rw [if_neg z0, if_neg z3, if_neg z4, if_pos y1]; done)
                  | (rw [if_neg z0, if_neg z3, if_neg z4, if_neg z1, if_pos y2]; done)
                  | (rw [if_neg z0, if_neg z3, if_neg z4, if_neg z1, if_neg z2]; done)
                · refine g_aload_n C (pc := 142) dX12_lineNow_142 0 rfl ?_
                  refine g_bipush C (pc := 143) 99 dX12_lineNow_143 (by decide) ?_
                  refine g_bipush C (pc := 145) 101 dX12_lineNow_145 (by decide) ?_
                  refine g_iconst C (pc := 147) 0 dX12_lineNow_147 (by decide) ?_
                  refine g_callVI C (pc := 148) mf_X12_ends lk_RX12_137 (c_X12_ends n ρ I L tb f9 _ _ _ hn9 hms htb hfr (by omega)) (by decide) (Nat.le_refl _) rfl (by first | assumption | rfl | omega) rfl (by first | assumption | rfl | omega) (Nat.le_of_ble_eq_true rfl) dX12_lineNow_148 (fun v148 I148 h148 => ?_)
                  obtain ⟨e148, rfl⟩ := h148
                  refine g_if_eq C (pc := 151) 158 dX12_lineNow_151 (by decide) (fun c151 => ?_) (fun c151 => ?_)
                  · have z2 : ¬ isN tb 2 f9 e9 = true := fun h => bI_0.mp (e148.symm.trans c151) ((nmL_2 heL htt).mp h).2
                    refine g_bipush C (pc := 158) (-4) dX12_lineNow_158 (by decide) ?_
                    refine g_iret C hR (pc := 160) rfl dX12_lineNow_160 ?_
                    refine ⟨rfl, _, rfl, ?_⟩
                    refine ⟨?_, rfl⟩
                    first
                    | (rw [if_pos y0]; done)
                    | (rw [if_neg z0, if_pos y3]; done)
                    | (rw [if_neg z0, if_neg z3, if_pos y4]; done)
                    | (rw [if_neg z0, if_neg z3, if_neg z4, if_pos y1]; done)
                    | (rw [if_neg z0, if_neg z3, if_neg z4, if_neg z1, if_pos y2]; done)
                    | (rw [if_neg z0, if_neg z3, if_neg z4, if_neg z1, if_neg z2]; done)
                  · have y2 : isN tb 2 f9 e9 = true := (nmL_2 heL htt).mpr ⟨bI_1.mp (fun h => c139 (e136.trans h)), bI_1.mp (fun h => c151 (e148.trans h))⟩
                    refine g_iconst C (pc := 154) 4 dX12_lineNow_154 (by decide) ?_
                    refine g_goto C (pc := 155) 160 dX12_lineNow_155 (by decide) ?_
                    refine g_iret C hR (pc := 160) rfl dX12_lineNow_160 ?_
                    refine ⟨rfl, _, rfl, ?_⟩
                    refine ⟨?_, rfl⟩
                    first
                    | (rw [if_pos y0]; done)
                    | (rw [if_neg z0, if_pos y3]; done)
                    | (rw [if_neg z0, if_neg z3, if_pos y4]; done)
                    | (rw [if_neg z0, if_neg z3, if_neg z4, if_pos y1]; done)
                    | (rw [if_neg z0, if_neg z3, if_neg z4, if_neg z1, if_pos y2]; done)
                    | (rw [if_neg z0, if_neg z3, if_neg z4, if_neg z1, if_neg z2]; done)
              · have y1 : isN tb 1 f9 e9 = true := (nmL_1 heL htt).mpr ⟨bI_1.mp (fun h => c94 (e91.trans h)), bI_1.mp (fun h => c107 (e104.trans h)), e118.symm.trans c123⟩
                refine g_iconst C (pc := 126) 3 dX12_lineNow_126 (by decide) ?_
                refine g_iret C hR (pc := 127) rfl dX12_lineNow_127 ?_
                refine ⟨rfl, _, rfl, ?_⟩
                refine ⟨?_, rfl⟩
                first
                | (rw [if_pos y0]; done)
                | (rw [if_neg z0, if_pos y3]; done)
                | (rw [if_neg z0, if_neg z3, if_pos y4]; done)
                | (rw [if_neg z0, if_neg z3, if_neg z4, if_pos y1]; done)
                | (rw [if_neg z0, if_neg z3, if_neg z4, if_neg z1, if_pos y2]; done)
                | (rw [if_neg z0, if_neg z3, if_neg z4, if_neg z1, if_neg z2]; done)
        · have y4 : isN tb 4 f9 e9 = true := (nmL_4 heL htt).mpr ⟨bI_1.mp (fun h => c66 (e63.trans h)), bI_1.mp (fun h => c77 (e74.trans h))⟩
          refine g_iconst C (pc := 80) 2 dX12_lineNow_80 (by decide) ?_
          refine g_iret C hR (pc := 81) rfl dX12_lineNow_81 ?_
          refine ⟨rfl, _, rfl, ?_⟩
          refine ⟨?_, rfl⟩
          first
          | (rw [if_pos y0]; done)
          | (rw [if_neg z0, if_pos y3]; done)
          | (rw [if_neg z0, if_neg z3, if_pos y4]; done)
          | (rw [if_neg z0, if_neg z3, if_neg z4, if_pos y1]; done)
          | (rw [if_neg z0, if_neg z3, if_neg z4, if_neg z1, if_pos y2]; done)
          | (rw [if_neg z0, if_neg z3, if_neg z4, if_neg z1, if_neg z2]; done)
    · refine g_aload_n C (pc := 42) dX12_lineNow_42 0 rfl ?_
      refine g_bipush C (pc := 43) 115 dX12_lineNow_43 (by decide) ?_
      refine g_iconst C (pc := 45) 0 dX12_lineNow_45 (by decide) ?_
      refine g_iconst C (pc := 46) 0 dX12_lineNow_46 (by decide) ?_
      refine g_callVI C (pc := 47) mf_X12_ends lk_RX12_137 (c_X12_ends n ρ I L tb f9 _ _ _ hn9 hms htb hfr (by omega)) (by decide) (Nat.le_refl _) rfl (by first | assumption | rfl | omega) rfl (by first | assumption | rfl | omega) (Nat.le_of_ble_eq_true rfl) dX12_lineNow_47 (fun v47 I47 h47 => ?_)
      obtain ⟨e47, rfl⟩ := h47
      refine g_if_eq C (pc := 50) 55 dX12_lineNow_50 (by decide) (fun c50 => ?_) (fun c50 => ?_)
      · have z3 : ¬ isN tb 3 f9 e9 = true := fun h => bI_0.mp (e47.symm.trans c50) ((nmL_3 heL htt).mp h).2
        refine g_aload_n C (pc := 55) dX12_lineNow_55 0 rfl ?_
        refine g_iconst C (pc := 56) 4 dX12_lineNow_56 (by decide) ?_
        refine g_bipush C (pc := 57) 116 dX12_lineNow_57 (by decide) ?_
        refine g_bipush C (pc := 59) 117 dX12_lineNow_59 (by decide) ?_
        refine g_bipush C (pc := 61) 114 dX12_lineNow_61 (by decide) ?_
        refine g_callVI C (pc := 63) mf_X12_is lk_RX12_133 (c_X12_is n ρ I L tb e9 f9 4 _ _ _ _ hn9 hms htb hpo hfr hfe (by omega) rfl (by decide)) (by decide) (Nat.le_refl _) rfl (by first | assumption | rfl | omega) rfl (by first | assumption | rfl | omega) (Nat.le_of_ble_eq_true rfl) dX12_lineNow_63 (fun v63 I63 h63 => ?_)
        obtain ⟨e63, rfl⟩ := h63
        refine g_if_eq C (pc := 66) 82 dX12_lineNow_66 (by decide) (fun c66 => ?_) (fun c66 => ?_)
        · have z4 : ¬ isN tb 4 f9 e9 = true := fun h => bI_0.mp (e63.symm.trans c66) ((nmL_4 heL htt).mp h).1
          refine g_aload_n C (pc := 82) dX12_lineNow_82 0 rfl ?_
          refine g_bipush C (pc := 83) 7 dX12_lineNow_83 (by decide) ?_
          refine g_bipush C (pc := 85) 115 dX12_lineNow_85 (by decide) ?_
          refine g_bipush C (pc := 87) 116 dX12_lineNow_87 (by decide) ?_
          refine g_bipush C (pc := 89) 101 dX12_lineNow_89 (by decide) ?_
          refine g_callVI C (pc := 91) mf_X12_is lk_RX12_133 (c_X12_is n ρ I L tb e9 f9 7 _ _ _ _ hn9 hms htb hpo hfr hfe (by omega) rfl (by decide)) (by decide) (Nat.le_refl _) rfl (by first | assumption | rfl | omega) rfl (by first | assumption | rfl | omega) (Nat.le_of_ble_eq_true rfl) dX12_lineNow_91 (fun v91 I91 h91 => ?_)
          obtain ⟨e91, rfl⟩ := h91
          refine g_if_eq C (pc := 94) 128 dX12_lineNow_94 (by decide) (fun c94 => ?_) (fun c94 => ?_)
          · have z1 : ¬ isN tb 1 f9 e9 = true := fun h => bI_0.mp (e91.symm.trans c94) ((nmL_1 heL htt).mp h).1
            refine g_aload_n C (pc := 128) dX12_lineNow_128 0 rfl ?_
            refine g_iconst C (pc := 129) 5 dX12_lineNow_129 (by decide) ?_
            refine g_bipush C (pc := 130) 112 dX12_lineNow_130 (by decide) ?_
            refine g_bipush C (pc := 132) 105 dX12_lineNow_132 (by decide) ?_
            refine g_bipush C (pc := 134) 101 dX12_lineNow_134 (by decide) ?_
            refine g_callVI C (pc := 136) mf_X12_is lk_RX12_133 (c_X12_is n ρ I L tb e9 f9 5 _ _ _ _ hn9 hms htb hpo hfr hfe (by omega) rfl (by decide)) (by decide) (Nat.le_refl _) rfl (by first | assumption | rfl | omega) rfl (by first | assumption | rfl | omega) (Nat.le_of_ble_eq_true rfl) dX12_lineNow_136 (fun v136 I136 h136 => ?_)
            obtain ⟨e136, rfl⟩ := h136
            refine g_if_eq C (pc := 139) 158 dX12_lineNow_139 (by decide) (fun c139 => ?_) (fun c139 => ?_)
            · have z2 : ¬ isN tb 2 f9 e9 = true := fun h => bI_0.mp (e136.symm.trans c139) ((nmL_2 heL htt).mp h).1
              refine g_bipush C (pc := 158) (-4) dX12_lineNow_158 (by decide) ?_
              refine g_iret C hR (pc := 160) rfl dX12_lineNow_160 ?_
              refine ⟨rfl, _, rfl, ?_⟩
              refine ⟨?_, rfl⟩
              first
              | (rw [if_pos y0]; done)
              | (rw [if_neg z0, if_pos y3]; done)
              | (rw [if_neg z0, if_neg z3, if_pos y4]; done)
              | (rw [if_neg z0, if_neg z3, if_neg z4, if_pos y1]; done)
              | (rw [if_neg z0, if_neg z3, if_neg z4, if_neg z1, if_pos y2]; done)
              | (rw [if_neg z0, if_neg z3, if_neg z4, if_neg z1, if_neg z2]; done)
            · refine g_aload_n C (pc := 142) dX12_lineNow_142 0 rfl ?_
              refine g_bipush C (pc := 143) 99 dX12_lineNow_143 (by decide) ?_
              refine g_bipush C (pc := 145) 101 dX12_lineNow_145 (by decide) ?_
              refine g_iconst C (pc := 147) 0 dX12_lineNow_147 (by decide) ?_
              refine g_callVI C (pc := 148) mf_X12_ends lk_RX12_137 (c_X12_ends n ρ I L tb f9 _ _ _ hn9 hms htb hfr (by omega)) (by decide) (Nat.le_refl _) rfl (by first | assumption | rfl | omega) rfl (by first | assumption | rfl | omega) (Nat.le_of_ble_eq_true rfl) dX12_lineNow_148 (fun v148 I148 h148 => ?_)
              obtain ⟨e148, rfl⟩ := h148
              refine g_if_eq C (pc := 151) 158 dX12_lineNow_151 (by decide) (fun c151 => ?_) (fun c151 => ?_)
              · have z2 : ¬ isN tb 2 f9 e9 = true := fun h => bI_0.mp (e148.symm.trans c151) ((nmL_2 heL htt).mp h).2
                refine g_bipush C (pc := 158) (-4) dX12_lineNow_158 (by decide) ?_
                refine g_iret C hR (pc := 160) rfl dX12_lineNow_160 ?_
                refine ⟨rfl, _, rfl, ?_⟩
                refine ⟨?_, rfl⟩
                first
                | (rw [if_pos y0]; done)
                | (rw [if_neg z0, if_pos y3]; done)
                | (rw [if_neg z0, if_neg z3, if_pos y4]; done)
                | (rw [if_neg z0, if_neg z3, if_neg z4, if_pos y1]; done)
                | (rw [if_neg z0, if_neg z3, if_neg z4, if_neg z1, if_pos y2]; done)
                | (rw [if_neg z0, if_neg z3, if_neg z4, if_neg z1, if_neg z2]; done)
              · have y2 : isN tb 2 f9 e9 = true := (nmL_2 heL htt).mpr ⟨bI_1.mp (fun h => c139 (e136.trans h)), bI_1.mp (fun h => c151 (e148.trans h))⟩
                refine g_iconst C (pc := 154) 4 dX12_lineNow_154 (by decide) ?_
                refine g_goto C (pc := 155) 160 dX12_lineNow_155 (by decide) ?_
                refine g_iret C hR (pc := 160) rfl dX12_lineNow_160 ?_
                refine ⟨rfl, _, rfl, ?_⟩
                refine ⟨?_, rfl⟩
                first
                | (rw [if_pos y0]; done)
                | (rw [if_neg z0, if_pos y3]; done)
                | (rw [if_neg z0, if_neg z3, if_pos y4]; done)
                | (rw [if_neg z0, if_neg z3, if_neg z4, if_pos y1]; done)
                | (rw [if_neg z0, if_neg z3, if_neg z4, if_neg z1, if_pos y2]; done)
                | (rw [if_neg z0, if_neg z3, if_neg z4, if_neg z1, if_neg z2]; done)
          · refine g_aload_n C (pc := 97) dX12_lineNow_97 0 rfl ?_
            refine g_bipush C (pc := 98) 101 dX12_lineNow_98 (by decide) ?_
            refine g_bipush C (pc := 100) 112 dX12_lineNow_100 (by decide) ?_
            refine g_bipush C (pc := 102) 108 dX12_lineNow_102 (by decide) ?_
            refine g_callVI C (pc := 104) mf_X12_ends lk_RX12_137 (c_X12_ends n ρ I L tb f9 _ _ _ hn9 hms htb hfr (by omega)) (by decide) (Nat.le_refl _) rfl (by first | assumption | rfl | omega) rfl (by first | assumption | rfl | omega) (Nat.le_of_ble_eq_true rfl) dX12_lineNow_104 (fun v104 I104 h104 => ?_)
            obtain ⟨e104, rfl⟩ := h104
            refine g_if_eq C (pc := 107) 128 dX12_lineNow_107 (by decide) (fun c107 => ?_) (fun c107 => ?_)
            · have z1 : ¬ isN tb 1 f9 e9 = true := fun h => bI_0.mp (e104.symm.trans c107) ((nmL_1 heL htt).mp h).2.1
              refine g_aload_n C (pc := 128) dX12_lineNow_128 0 rfl ?_
              refine g_iconst C (pc := 129) 5 dX12_lineNow_129 (by decide) ?_
              refine g_bipush C (pc := 130) 112 dX12_lineNow_130 (by decide) ?_
              refine g_bipush C (pc := 132) 105 dX12_lineNow_132 (by decide) ?_
              refine g_bipush C (pc := 134) 101 dX12_lineNow_134 (by decide) ?_
              refine g_callVI C (pc := 136) mf_X12_is lk_RX12_133 (c_X12_is n ρ I L tb e9 f9 5 _ _ _ _ hn9 hms htb hpo hfr hfe (by omega) rfl (by decide)) (by decide) (Nat.le_refl _) rfl (by first | assumption | rfl | omega) rfl (by first | assumption | rfl | omega) (Nat.le_of_ble_eq_true rfl) dX12_lineNow_136 (fun v136 I136 h136 => ?_)
              obtain ⟨e136, rfl⟩ := h136
              refine g_if_eq C (pc := 139) 158 dX12_lineNow_139 (by decide) (fun c139 => ?_) (fun c139 => ?_)
              · have z2 : ¬ isN tb 2 f9 e9 = true := fun h => bI_0.mp (e136.symm.trans c139) ((nmL_2 heL htt).mp h).1
                refine g_bipush C (pc := 158) (-4) dX12_lineNow_158 (by decide) ?_
                refine g_iret C hR (pc := 160) rfl dX12_lineNow_160 ?_
                refine ⟨rfl, _, rfl, ?_⟩
                refine ⟨?_, rfl⟩
                first
                | (rw [if_pos y0]; done)
                | (rw [if_neg z0, if_pos y3]; done)
                | (rw [if_neg z0, if_neg z3, if_pos y4]; done)
                | (rw [if_neg z0, if_neg z3, if_neg z4, if_pos y1]; done)
                | (rw [if_neg z0, if_neg z3, if_neg z4, if_neg z1, if_pos y2]; done)
                | (rw [if_neg z0, if_neg z3, if_neg z4, if_neg z1, if_neg z2]; done)
              · refine g_aload_n C (pc := 142) dX12_lineNow_142 0 rfl ?_
                refine g_bipush C (pc := 143) 99 dX12_lineNow_143 (by decide) ?_
                refine g_bipush C (pc := 145) 101 dX12_lineNow_145 (by decide) ?_
                refine g_iconst C (pc := 147) 0 dX12_lineNow_147 (by decide) ?_
                refine g_callVI C (pc := 148) mf_X12_ends lk_RX12_137 (c_X12_ends n ρ I L tb f9 _ _ _ hn9 hms htb hfr (by omega)) (by decide) (Nat.le_refl _) rfl (by first | assumption | rfl | omega) rfl (by first | assumption | rfl | omega) (Nat.le_of_ble_eq_true rfl) dX12_lineNow_148 (fun v148 I148 h148 => ?_)
                obtain ⟨e148, rfl⟩ := h148
                refine g_if_eq C (pc := 151) 158 dX12_lineNow_151 (by decide) (fun c151 => ?_) (fun c151 => ?_)
                · have z2 : ¬ isN tb 2 f9 e9 = true := fun h => bI_0.mp (e148.symm.trans c151) ((nmL_2 heL htt).mp h).2
                  refine g_bipush C (pc := 158) (-4) dX12_lineNow_158 (by decide) ?_
                  refine g_iret C hR (pc := 160) rfl dX12_lineNow_160 ?_
                  refine ⟨rfl, _, rfl, ?_⟩
                  refine ⟨?_, rfl⟩
                  first
                  | (rw [if_pos y0]; done)
                  | (rw [if_neg z0, if_pos y3]; done)
                  | (rw [if_neg z0, if_neg z3, if_pos y4]; done)
                  | (rw [if_neg z0, if_neg z3, if_neg z4, if_pos y1]; done)
                  | (rw [if_neg z0, if_neg z3, if_neg z4, if_neg z1, if_pos y2]; done)
                  | (rw [if_neg z0, if_neg z3, if_neg z4, if_neg z1, if_neg z2]; done)
                · have y2 : isN tb 2 f9 e9 = true := (nmL_2 heL htt).mpr ⟨bI_1.mp (fun h => c139 (e136.trans h)), bI_1.mp (fun h => c151 (e148.trans h))⟩
                  refine g_iconst C (pc := 154) 4 dX12_lineNow_154 (by decide) ?_
                  refine g_goto C (pc := 155) 160 dX12_lineNow_155 (by decide) ?_
                  refine g_iret C hR (pc := 160) rfl dX12_lineNow_160 ?_
                  refine ⟨rfl, _, rfl, ?_⟩
                  refine ⟨?_, rfl⟩
                  first
                  | (rw [if_pos y0]; done)
                  | (rw [if_neg z0, if_pos y3]; done)
                  | (rw [if_neg z0, if_neg z3, if_pos y4]; done)
                  | (rw [if_neg z0, if_neg z3, if_neg z4, if_pos y1]; done)
                  | (rw [if_neg z0, if_neg z3, if_neg z4, if_neg z1, if_pos y2]; done)
                  | (rw [if_neg z0, if_neg z3, if_neg z4, if_neg z1, if_neg z2]; done)
            · refine g_aload_n C (pc := 110) dX12_lineNow_110 0 rfl ?_
              refine g_aload_n C (pc := 111) dX12_lineNow_111 0 rfl ?_
              refine g_getI C (pc := 112) fl_RX12_120 (by decide) (by first | assumption | rfl | omega) (by first | assumption | rfl | omega) dX12_lineNow_112 ?_
              refine g_bipush C (pc := 115) 6 dX12_lineNow_115 (by decide) ?_
              refine g_iadd C (pc := 117) dX12_lineNow_117 ?_
              refine g_callVI C (pc := 118) mf_X12_look lk_RX12_129 (c_X12_look n ρ I L tb (f9 + 6) _ hn9 hms htb (by omega) (by rw [hfr, show (6 : Int32) = nI 6 from rfl, nI_add])) (by decide) (Nat.le_refl _) rfl (by first | assumption | rfl | omega) rfl (by first | assumption | rfl | omega) (Nat.le_of_ble_eq_true rfl) dX12_lineNow_118 (fun v118 I118 h118 => ?_)
              obtain ⟨e118, rfl⟩ := h118
              refine g_bipush C (pc := 121) 101 dX12_lineNow_121 (by decide) ?_
              refine g_icmp_ne C (pc := 123) 128 dX12_lineNow_123 (by decide) (fun c123 => ?_) (fun c123 => ?_)
              · have z1 : ¬ isN tb 1 f9 e9 = true := fun h => c123 (e118.trans ((nmL_1 heL htt).mp h).2.2)
                refine g_aload_n C (pc := 128) dX12_lineNow_128 0 rfl ?_
                refine g_iconst C (pc := 129) 5 dX12_lineNow_129 (by decide) ?_
                refine g_bipush C (pc := 130) 112 dX12_lineNow_130 (by decide) ?_
                refine g_bipush C (pc := 132) 105 dX12_lineNow_132 (by decide) ?_
                refine g_bipush C (pc := 134) 101 dX12_lineNow_134 (by decide) ?_
                refine g_callVI C (pc := 136) mf_X12_is lk_RX12_133 (c_X12_is n ρ I L tb e9 f9 5 _ _ _ _ hn9 hms htb hpo hfr hfe (by omega) rfl (by decide)) (by decide) (Nat.le_refl _) rfl (by first | assumption | rfl | omega) rfl (by first | assumption | rfl | omega) (Nat.le_of_ble_eq_true rfl) dX12_lineNow_136 (fun v136 I136 h136 => ?_)
                obtain ⟨e136, rfl⟩ := h136
                refine g_if_eq C (pc := 139) 158 dX12_lineNow_139 (by decide) (fun c139 => ?_) (fun c139 => ?_)
                · have z2 : ¬ isN tb 2 f9 e9 = true := fun h => bI_0.mp (e136.symm.trans c139) ((nmL_2 heL htt).mp h).1
                  refine g_bipush C (pc := 158) (-4) dX12_lineNow_158 (by decide) ?_
                  refine g_iret C hR (pc := 160) rfl dX12_lineNow_160 ?_
                  refine ⟨rfl, _, rfl, ?_⟩
                  refine ⟨?_, rfl⟩
                  first
                  | (rw [if_pos y0]; done)
                  | (rw [if_neg z0, if_pos y3]; done)
                  | (rw [if_neg z0, if_neg z3, if_pos y4]; done)
                  | (rw [if_neg z0, if_neg z3, if_neg z4, if_pos y1]; done)
                  | (rw [if_neg z0, if_neg z3, if_neg z4, if_neg z1, if_pos y2]; done)
                  | (rw [if_neg z0, if_neg z3, if_neg z4, if_neg z1, if_neg z2]; done)
                · refine g_aload_n C (pc := 142) dX12_lineNow_142 0 rfl ?_
                  refine g_bipush C (pc := 143) 99 dX12_lineNow_143 (by decide) ?_
                  refine g_bipush C (pc := 145) 101 dX12_lineNow_145 (by decide) ?_
                  refine g_iconst C (pc := 147) 0 dX12_lineNow_147 (by decide) ?_
                  refine g_callVI C (pc := 148) mf_X12_ends lk_RX12_137 (c_X12_ends n ρ I L tb f9 _ _ _ hn9 hms htb hfr (by omega)) (by decide) (Nat.le_refl _) rfl (by first | assumption | rfl | omega) rfl (by first | assumption | rfl | omega) (Nat.le_of_ble_eq_true rfl) dX12_lineNow_148 (fun v148 I148 h148 => ?_)
                  obtain ⟨e148, rfl⟩ := h148
                  refine g_if_eq C (pc := 151) 158 dX12_lineNow_151 (by decide) (fun c151 => ?_) (fun c151 => ?_)
                  · have z2 : ¬ isN tb 2 f9 e9 = true := fun h => bI_0.mp (e148.symm.trans c151) ((nmL_2 heL htt).mp h).2
                    refine g_bipush C (pc := 158) (-4) dX12_lineNow_158 (by decide) ?_
                    refine g_iret C hR (pc := 160) rfl dX12_lineNow_160 ?_
                    refine ⟨rfl, _, rfl, ?_⟩
                    refine ⟨?_, rfl⟩
                    first
                    | (rw [if_pos y0]; done)
                    | (rw [if_neg z0, if_pos y3]; done)
                    | (rw [if_neg z0, if_neg z3, if_pos y4]; done)
                    | (rw [if_neg z0, if_neg z3, if_neg z4, if_pos y1]; done)
                    | (rw [if_neg z0, if_neg z3, if_neg z4, if_neg z1, if_pos y2]; done)
                    | (rw [if_neg z0, if_neg z3, if_neg z4, if_neg z1, if_neg z2]; done)
                  · have y2 : isN tb 2 f9 e9 = true := (nmL_2 heL htt).mpr ⟨bI_1.mp (fun h => c139 (e136.trans h)), bI_1.mp (fun h => c151 (e148.trans h))⟩
                    refine g_iconst C (pc := 154) 4 dX12_lineNow_154 (by decide) ?_
                    refine g_goto C (pc := 155) 160 dX12_lineNow_155 (by decide) ?_
                    refine g_iret C hR (pc := 160) rfl dX12_lineNow_160 ?_
                    refine ⟨rfl, _, rfl, ?_⟩
                    refine ⟨?_, rfl⟩
                    first
                    | (rw [if_pos y0]; done)
                    | (rw [if_neg z0, if_pos y3]; done)
                    | (rw [if_neg z0, if_neg z3, if_pos y4]; done)
                    | (rw [if_neg z0, if_neg z3, if_neg z4, if_pos y1]; done)
                    | (rw [if_neg z0, if_neg z3, if_neg z4, if_neg z1, if_pos y2]; done)
                    | (rw [if_neg z0, if_neg z3, if_neg z4, if_neg z1, if_neg z2]; done)
              · have y1 : isN tb 1 f9 e9 = true := (nmL_1 heL htt).mpr ⟨bI_1.mp (fun h => c94 (e91.trans h)), bI_1.mp (fun h => c107 (e104.trans h)), e118.symm.trans c123⟩
                refine g_iconst C (pc := 126) 3 dX12_lineNow_126 (by decide) ?_
                refine g_iret C hR (pc := 127) rfl dX12_lineNow_127 ?_
                refine ⟨rfl, _, rfl, ?_⟩
                refine ⟨?_, rfl⟩
                first
                | (rw [if_pos y0]; done)
                | (rw [if_neg z0, if_pos y3]; done)
                | (rw [if_neg z0, if_neg z3, if_pos y4]; done)
                | (rw [if_neg z0, if_neg z3, if_neg z4, if_pos y1]; done)
                | (rw [if_neg z0, if_neg z3, if_neg z4, if_neg z1, if_pos y2]; done)
                | (rw [if_neg z0, if_neg z3, if_neg z4, if_neg z1, if_neg z2]; done)
        · refine g_aload_n C (pc := 69) dX12_lineNow_69 0 rfl ?_
          refine g_bipush C (pc := 70) 110 dX12_lineNow_70 (by decide) ?_
          refine g_iconst C (pc := 72) 0 dX12_lineNow_72 (by decide) ?_
          refine g_iconst C (pc := 73) 0 dX12_lineNow_73 (by decide) ?_
          refine g_callVI C (pc := 74) mf_X12_ends lk_RX12_137 (c_X12_ends n ρ I L tb f9 _ _ _ hn9 hms htb hfr (by omega)) (by decide) (Nat.le_refl _) rfl (by first | assumption | rfl | omega) rfl (by first | assumption | rfl | omega) (Nat.le_of_ble_eq_true rfl) dX12_lineNow_74 (fun v74 I74 h74 => ?_)
          obtain ⟨e74, rfl⟩ := h74
          refine g_if_eq C (pc := 77) 82 dX12_lineNow_77 (by decide) (fun c77 => ?_) (fun c77 => ?_)
          · have z4 : ¬ isN tb 4 f9 e9 = true := fun h => bI_0.mp (e74.symm.trans c77) ((nmL_4 heL htt).mp h).2
            refine g_aload_n C (pc := 82) dX12_lineNow_82 0 rfl ?_
            refine g_bipush C (pc := 83) 7 dX12_lineNow_83 (by decide) ?_
            refine g_bipush C (pc := 85) 115 dX12_lineNow_85 (by decide) ?_
            refine g_bipush C (pc := 87) 116 dX12_lineNow_87 (by decide) ?_
            refine g_bipush C (pc := 89) 101 dX12_lineNow_89 (by decide) ?_
            refine g_callVI C (pc := 91) mf_X12_is lk_RX12_133 (c_X12_is n ρ I L tb e9 f9 7 _ _ _ _ hn9 hms htb hpo hfr hfe (by omega) rfl (by decide)) (by decide) (Nat.le_refl _) rfl (by first | assumption | rfl | omega) rfl (by first | assumption | rfl | omega) (Nat.le_of_ble_eq_true rfl) dX12_lineNow_91 (fun v91 I91 h91 => ?_)
            obtain ⟨e91, rfl⟩ := h91
            refine g_if_eq C (pc := 94) 128 dX12_lineNow_94 (by decide) (fun c94 => ?_) (fun c94 => ?_)
            · have z1 : ¬ isN tb 1 f9 e9 = true := fun h => bI_0.mp (e91.symm.trans c94) ((nmL_1 heL htt).mp h).1
              refine g_aload_n C (pc := 128) dX12_lineNow_128 0 rfl ?_
              refine g_iconst C (pc := 129) 5 dX12_lineNow_129 (by decide) ?_
              refine g_bipush C (pc := 130) 112 dX12_lineNow_130 (by decide) ?_
              refine g_bipush C (pc := 132) 105 dX12_lineNow_132 (by decide) ?_
              refine g_bipush C (pc := 134) 101 dX12_lineNow_134 (by decide) ?_
              refine g_callVI C (pc := 136) mf_X12_is lk_RX12_133 (c_X12_is n ρ I L tb e9 f9 5 _ _ _ _ hn9 hms htb hpo hfr hfe (by omega) rfl (by decide)) (by decide) (Nat.le_refl _) rfl (by first | assumption | rfl | omega) rfl (by first | assumption | rfl | omega) (Nat.le_of_ble_eq_true rfl) dX12_lineNow_136 (fun v136 I136 h136 => ?_)
              obtain ⟨e136, rfl⟩ := h136
              refine g_if_eq C (pc := 139) 158 dX12_lineNow_139 (by decide) (fun c139 => ?_) (fun c139 => ?_)
              · have z2 : ¬ isN tb 2 f9 e9 = true := fun h => bI_0.mp (e136.symm.trans c139) ((nmL_2 heL htt).mp h).1
                refine g_bipush C (pc := 158) (-4) dX12_lineNow_158 (by decide) ?_
                refine g_iret C hR (pc := 160) rfl dX12_lineNow_160 ?_
                refine ⟨rfl, _, rfl, ?_⟩
                refine ⟨?_, rfl⟩
                first
                | (rw [if_pos y0]; done)
                | (rw [if_neg z0, if_pos y3]; done)
                | (rw [if_neg z0, if_neg z3, if_pos y4]; done)
                | (rw [if_neg z0, if_neg z3, if_neg z4, if_pos y1]; done)
                | (rw [if_neg z0, if_neg z3, if_neg z4, if_neg z1, if_pos y2]; done)
                | (rw [if_neg z0, if_neg z3, if_neg z4, if_neg z1, if_neg z2]; done)
              · refine g_aload_n C (pc := 142) dX12_lineNow_142 0 rfl ?_
                refine g_bipush C (pc := 143) 99 dX12_lineNow_143 (by decide) ?_
                refine g_bipush C (pc := 145) 101 dX12_lineNow_145 (by decide) ?_
                refine g_iconst C (pc := 147) 0 dX12_lineNow_147 (by decide) ?_
                refine g_callVI C (pc := 148) mf_X12_ends lk_RX12_137 (c_X12_ends n ρ I L tb f9 _ _ _ hn9 hms htb hfr (by omega)) (by decide) (Nat.le_refl _) rfl (by first | assumption | rfl | omega) rfl (by first | assumption | rfl | omega) (Nat.le_of_ble_eq_true rfl) dX12_lineNow_148 (fun v148 I148 h148 => ?_)
                obtain ⟨e148, rfl⟩ := h148
                refine g_if_eq C (pc := 151) 158 dX12_lineNow_151 (by decide) (fun c151 => ?_) (fun c151 => ?_)
                · have z2 : ¬ isN tb 2 f9 e9 = true := fun h => bI_0.mp (e148.symm.trans c151) ((nmL_2 heL htt).mp h).2
                  refine g_bipush C (pc := 158) (-4) dX12_lineNow_158 (by decide) ?_
                  refine g_iret C hR (pc := 160) rfl dX12_lineNow_160 ?_
                  refine ⟨rfl, _, rfl, ?_⟩
                  refine ⟨?_, rfl⟩
                  first
                  | (rw [if_pos y0]; done)
                  | (rw [if_neg z0, if_pos y3]; done)
                  | (rw [if_neg z0, if_neg z3, if_pos y4]; done)
                  | (rw [if_neg z0, if_neg z3, if_neg z4, if_pos y1]; done)
                  | (rw [if_neg z0, if_neg z3, if_neg z4, if_neg z1, if_pos y2]; done)
                  | (rw [if_neg z0, if_neg z3, if_neg z4, if_neg z1, if_neg z2]; done)
                · have y2 : isN tb 2 f9 e9 = true := (nmL_2 heL htt).mpr ⟨bI_1.mp (fun h => c139 (e136.trans h)), bI_1.mp (fun h => c151 (e148.trans h))⟩
                  refine g_iconst C (pc := 154) 4 dX12_lineNow_154 (by decide) ?_
                  refine g_goto C (pc := 155) 160 dX12_lineNow_155 (by decide) ?_
                  refine g_iret C hR (pc := 160) rfl dX12_lineNow_160 ?_
                  refine ⟨rfl, _, rfl, ?_⟩
                  refine ⟨?_, rfl⟩
                  first
                  | (rw [if_pos y0]; done)
                  | (rw [if_neg z0, if_pos y3]; done)
                  | (rw [if_neg z0, if_neg z3, if_pos y4]; done)
                  | (rw [if_neg z0, if_neg z3, if_neg z4, if_pos y1]; done)
                  | (rw [if_neg z0, if_neg z3, if_neg z4, if_neg z1, if_pos y2]; done)
                  | (rw [if_neg z0, if_neg z3, if_neg z4, if_neg z1, if_neg z2]; done)
            · refine g_aload_n C (pc := 97) dX12_lineNow_97 0 rfl ?_
              refine g_bipush C (pc := 98) 101 dX12_lineNow_98 (by decide) ?_
              refine g_bipush C (pc := 100) 112 dX12_lineNow_100 (by decide) ?_
              refine g_bipush C (pc := 102) 108 dX12_lineNow_102 (by decide) ?_
              refine g_callVI C (pc := 104) mf_X12_ends lk_RX12_137 (c_X12_ends n ρ I L tb f9 _ _ _ hn9 hms htb hfr (by omega)) (by decide) (Nat.le_refl _) rfl (by first | assumption | rfl | omega) rfl (by first | assumption | rfl | omega) (Nat.le_of_ble_eq_true rfl) dX12_lineNow_104 (fun v104 I104 h104 => ?_)
              obtain ⟨e104, rfl⟩ := h104
              refine g_if_eq C (pc := 107) 128 dX12_lineNow_107 (by decide) (fun c107 => ?_) (fun c107 => ?_)
              · have z1 : ¬ isN tb 1 f9 e9 = true := fun h => bI_0.mp (e104.symm.trans c107) ((nmL_1 heL htt).mp h).2.1
                refine g_aload_n C (pc := 128) dX12_lineNow_128 0 rfl ?_
                refine g_iconst C (pc := 129) 5 dX12_lineNow_129 (by decide) ?_
                refine g_bipush C (pc := 130) 112 dX12_lineNow_130 (by decide) ?_
                refine g_bipush C (pc := 132) 105 dX12_lineNow_132 (by decide) ?_
                refine g_bipush C (pc := 134) 101 dX12_lineNow_134 (by decide) ?_
                refine g_callVI C (pc := 136) mf_X12_is lk_RX12_133 (c_X12_is n ρ I L tb e9 f9 5 _ _ _ _ hn9 hms htb hpo hfr hfe (by omega) rfl (by decide)) (by decide) (Nat.le_refl _) rfl (by first | assumption | rfl | omega) rfl (by first | assumption | rfl | omega) (Nat.le_of_ble_eq_true rfl) dX12_lineNow_136 (fun v136 I136 h136 => ?_)
                obtain ⟨e136, rfl⟩ := h136
                refine g_if_eq C (pc := 139) 158 dX12_lineNow_139 (by decide) (fun c139 => ?_) (fun c139 => ?_)
                · have z2 : ¬ isN tb 2 f9 e9 = true := fun h => bI_0.mp (e136.symm.trans c139) ((nmL_2 heL htt).mp h).1
                  refine g_bipush C (pc := 158) (-4) dX12_lineNow_158 (by decide) ?_
                  refine g_iret C hR (pc := 160) rfl dX12_lineNow_160 ?_
                  refine ⟨rfl, _, rfl, ?_⟩
                  refine ⟨?_, rfl⟩
                  first
                  | (rw [if_pos y0]; done)
                  | (rw [if_neg z0, if_pos y3]; done)
                  | (rw [if_neg z0, if_neg z3, if_pos y4]; done)
                  | (rw [if_neg z0, if_neg z3, if_neg z4, if_pos y1]; done)
                  | (rw [if_neg z0, if_neg z3, if_neg z4, if_neg z1, if_pos y2]; done)
                  | (rw [if_neg z0, if_neg z3, if_neg z4, if_neg z1, if_neg z2]; done)
                · refine g_aload_n C (pc := 142) dX12_lineNow_142 0 rfl ?_
                  refine g_bipush C (pc := 143) 99 dX12_lineNow_143 (by decide) ?_
                  refine g_bipush C (pc := 145) 101 dX12_lineNow_145 (by decide) ?_
                  refine g_iconst C (pc := 147) 0 dX12_lineNow_147 (by decide) ?_
                  refine g_callVI C (pc := 148) mf_X12_ends lk_RX12_137 (c_X12_ends n ρ I L tb f9 _ _ _ hn9 hms htb hfr (by omega)) (by decide) (Nat.le_refl _) rfl (by first | assumption | rfl | omega) rfl (by first | assumption | rfl | omega) (Nat.le_of_ble_eq_true rfl) dX12_lineNow_148 (fun v148 I148 h148 => ?_)
                  obtain ⟨e148, rfl⟩ := h148
                  refine g_if_eq C (pc := 151) 158 dX12_lineNow_151 (by decide) (fun c151 => ?_) (fun c151 => ?_)
                  · have z2 : ¬ isN tb 2 f9 e9 = true := fun h => bI_0.mp (e148.symm.trans c151) ((nmL_2 heL htt).mp h).2
                    refine g_bipush C (pc := 158) (-4) dX12_lineNow_158 (by decide) ?_
                    refine g_iret C hR (pc := 160) rfl dX12_lineNow_160 ?_
                    refine ⟨rfl, _, rfl, ?_⟩
                    refine ⟨?_, rfl⟩
                    first
                    | (rw [if_pos y0]; done)
                    | (rw [if_neg z0, if_pos y3]; done)
                    | (rw [if_neg z0, if_neg z3, if_pos y4]; done)
                    | (rw [if_neg z0, if_neg z3, if_neg z4, if_pos y1]; done)
                    | (rw [if_neg z0, if_neg z3, if_neg z4, if_neg z1, if_pos y2]; done)
                    | (rw [if_neg z0, if_neg z3, if_neg z4, if_neg z1, if_neg z2]; done)
                  · have y2 : isN tb 2 f9 e9 = true := (nmL_2 heL htt).mpr ⟨bI_1.mp (fun h => c139 (e136.trans h)), bI_1.mp (fun h => c151 (e148.trans h))⟩
                    refine g_iconst C (pc := 154) 4 dX12_lineNow_154 (by decide) ?_
                    refine g_goto C (pc := 155) 160 dX12_lineNow_155 (by decide) ?_
                    refine g_iret C hR (pc := 160) rfl dX12_lineNow_160 ?_
                    refine ⟨rfl, _, rfl, ?_⟩
                    refine ⟨?_, rfl⟩
                    first
                    | (rw [if_pos y0]; done)
                    | (rw [if_neg z0, if_pos y3]; done)
                    | (rw [if_neg z0, if_neg z3, if_pos y4]; done)
                    | (rw [if_neg z0, if_neg z3, if_neg z4, if_pos y1]; done)
                    | (rw [if_neg z0, if_neg z3, if_neg z4, if_neg z1, if_pos y2]; done)
                    | (rw [if_neg z0, if_neg z3, if_neg z4, if_neg z1, if_neg z2]; done)
              · refine g_aload_n C (pc := 110) dX12_lineNow_110 0 rfl ?_
                refine g_aload_n C (pc := 111) dX12_lineNow_111 0 rfl ?_
                refine g_getI C (pc := 112) fl_RX12_120 (by decide) (by first | assumption | rfl | omega) (by first | assumption | rfl | omega) dX12_lineNow_112 ?_
                refine g_bipush C (pc := 115) 6 dX12_lineNow_115 (by decide) ?_
                refine g_iadd C (pc := 117) dX12_lineNow_117 ?_
                refine g_callVI C (pc := 118) mf_X12_look lk_RX12_129 (c_X12_look n ρ I L tb (f9 + 6) _ hn9 hms htb (by omega) (by rw [hfr, show (6 : Int32) = nI 6 from rfl, nI_add])) (by decide) (Nat.le_refl _) rfl (by first | assumption | rfl | omega) rfl (by first | assumption | rfl | omega) (Nat.le_of_ble_eq_true rfl) dX12_lineNow_118 (fun v118 I118 h118 => ?_)
                obtain ⟨e118, rfl⟩ := h118
                refine g_bipush C (pc := 121) 101 dX12_lineNow_121 (by decide) ?_
                refine g_icmp_ne C (pc := 123) 128 dX12_lineNow_123 (by decide) (fun c123 => ?_) (fun c123 => ?_)
                · have z1 : ¬ isN tb 1 f9 e9 = true := fun h => c123 (e118.trans ((nmL_1 heL htt).mp h).2.2)
                  refine g_aload_n C (pc := 128) dX12_lineNow_128 0 rfl ?_
                  refine g_iconst C (pc := 129) 5 dX12_lineNow_129 (by decide) ?_
                  refine g_bipush C (pc := 130) 112 dX12_lineNow_130 (by decide) ?_
                  refine g_bipush C (pc := 132) 105 dX12_lineNow_132 (by decide) ?_
                  refine g_bipush C (pc := 134) 101 dX12_lineNow_134 (by decide) ?_
                  refine g_callVI C (pc := 136) mf_X12_is lk_RX12_133 (c_X12_is n ρ I L tb e9 f9 5 _ _ _ _ hn9 hms htb hpo hfr hfe (by omega) rfl (by decide)) (by decide) (Nat.le_refl _) rfl (by first | assumption | rfl | omega) rfl (by first | assumption | rfl | omega) (Nat.le_of_ble_eq_true rfl) dX12_lineNow_136 (fun v136 I136 h136 => ?_)
                  obtain ⟨e136, rfl⟩ := h136
                  refine g_if_eq C (pc := 139) 158 dX12_lineNow_139 (by decide) (fun c139 => ?_) (fun c139 => ?_)
                  · have z2 : ¬ isN tb 2 f9 e9 = true := fun h => bI_0.mp (e136.symm.trans c139) ((nmL_2 heL htt).mp h).1
                    refine g_bipush C (pc := 158) (-4) dX12_lineNow_158 (by decide) ?_
                    refine g_iret C hR (pc := 160) rfl dX12_lineNow_160 ?_
                    refine ⟨rfl, _, rfl, ?_⟩
                    refine ⟨?_, rfl⟩
                    first
                    | (rw [if_pos y0]; done)
                    | (rw [if_neg z0, if_pos y3]; done)
                    | (rw [if_neg z0, if_neg z3, if_pos y4]; done)
                    | (rw [if_neg z0, if_neg z3, if_neg z4, if_pos y1]; done)
                    | (rw [if_neg z0, if_neg z3, if_neg z4, if_neg z1, if_pos y2]; done)
                    | (rw [if_neg z0, if_neg z3, if_neg z4, if_neg z1, if_neg z2]; done)
                  · refine g_aload_n C (pc := 142) dX12_lineNow_142 0 rfl ?_
                    refine g_bipush C (pc := 143) 99 dX12_lineNow_143 (by decide) ?_
                    refine g_bipush C (pc := 145) 101 dX12_lineNow_145 (by decide) ?_
                    refine g_iconst C (pc := 147) 0 dX12_lineNow_147 (by decide) ?_
                    refine g_callVI C (pc := 148) mf_X12_ends lk_RX12_137 (c_X12_ends n ρ I L tb f9 _ _ _ hn9 hms htb hfr (by omega)) (by decide) (Nat.le_refl _) rfl (by first | assumption | rfl | omega) rfl (by first | assumption | rfl | omega) (Nat.le_of_ble_eq_true rfl) dX12_lineNow_148 (fun v148 I148 h148 => ?_)
                    obtain ⟨e148, rfl⟩ := h148
                    refine g_if_eq C (pc := 151) 158 dX12_lineNow_151 (by decide) (fun c151 => ?_) (fun c151 => ?_)
                    · have z2 : ¬ isN tb 2 f9 e9 = true := fun h => bI_0.mp (e148.symm.trans c151) ((nmL_2 heL htt).mp h).2
                      refine g_bipush C (pc := 158) (-4) dX12_lineNow_158 (by decide) ?_
                      refine g_iret C hR (pc := 160) rfl dX12_lineNow_160 ?_
                      refine ⟨rfl, _, rfl, ?_⟩
                      refine ⟨?_, rfl⟩
                      first
                      | (rw [if_pos y0]; done)
                      | (rw [if_neg z0, if_pos y3]; done)
                      | (rw [if_neg z0, if_neg z3, if_pos y4]; done)
                      | (rw [if_neg z0, if_neg z3, if_neg z4, if_pos y1]; done)
                      | (rw [if_neg z0, if_neg z3, if_neg z4, if_neg z1, if_pos y2]; done)
                      | (rw [if_neg z0, if_neg z3, if_neg z4, if_neg z1, if_neg z2]; done)
                    · have y2 : isN tb 2 f9 e9 = true := (nmL_2 heL htt).mpr ⟨bI_1.mp (fun h => c139 (e136.trans h)), bI_1.mp (fun h => c151 (e148.trans h))⟩
                      refine g_iconst C (pc := 154) 4 dX12_lineNow_154 (by decide) ?_
                      refine g_goto C (pc := 155) 160 dX12_lineNow_155 (by decide) ?_
                      refine g_iret C hR (pc := 160) rfl dX12_lineNow_160 ?_
                      refine ⟨rfl, _, rfl, ?_⟩
                      refine ⟨?_, rfl⟩
                      first
                      | (rw [if_pos y0]; done)
                      | (rw [if_neg z0, if_pos y3]; done)
                      | (rw [if_neg z0, if_neg z3, if_pos y4]; done)
                      | (rw [if_neg z0, if_neg z3, if_neg z4, if_pos y1]; done)
                      | (rw [if_neg z0, if_neg z3, if_neg z4, if_neg z1, if_pos y2]; done)
                      | (rw [if_neg z0, if_neg z3, if_neg z4, if_neg z1, if_neg z2]; done)
                · have y1 : isN tb 1 f9 e9 = true := (nmL_1 heL htt).mpr ⟨bI_1.mp (fun h => c94 (e91.trans h)), bI_1.mp (fun h => c107 (e104.trans h)), e118.symm.trans c123⟩
                  refine g_iconst C (pc := 126) 3 dX12_lineNow_126 (by decide) ?_
                  refine g_iret C hR (pc := 127) rfl dX12_lineNow_127 ?_
                  refine ⟨rfl, _, rfl, ?_⟩
                  refine ⟨?_, rfl⟩
                  first
                  | (rw [if_pos y0]; done)
                  | (rw [if_neg z0, if_pos y3]; done)
                  | (rw [if_neg z0, if_neg z3, if_pos y4]; done)
                  | (rw [if_neg z0, if_neg z3, if_neg z4, if_pos y1]; done)
                  | (rw [if_neg z0, if_neg z3, if_neg z4, if_neg z1, if_pos y2]; done)
                  | (rw [if_neg z0, if_neg z3, if_neg z4, if_neg z1, if_neg z2]; done)
          · have y4 : isN tb 4 f9 e9 = true := (nmL_4 heL htt).mpr ⟨bI_1.mp (fun h => c66 (e63.trans h)), bI_1.mp (fun h => c77 (e74.trans h))⟩
            refine g_iconst C (pc := 80) 2 dX12_lineNow_80 (by decide) ?_
            refine g_iret C hR (pc := 81) rfl dX12_lineNow_81 ?_
            refine ⟨rfl, _, rfl, ?_⟩
            refine ⟨?_, rfl⟩
            first
            | (rw [if_pos y0]; done)
            | (rw [if_neg z0, if_pos y3]; done)
            | (rw [if_neg z0, if_neg z3, if_pos y4]; done)
            | (rw [if_neg z0, if_neg z3, if_neg z4, if_pos y1]; done)
            | (rw [if_neg z0, if_neg z3, if_neg z4, if_neg z1, if_pos y2]; done)
            | (rw [if_neg z0, if_neg z3, if_neg z4, if_neg z1, if_neg z2]; done)
      · have y3 : isN tb 3 f9 e9 = true := (nmL_3 heL htt).mpr ⟨bI_1.mp (fun h => c39 (e36.trans h)), bI_1.mp (fun h => c50 (e47.trans h))⟩
        refine g_iconst C (pc := 53) 1 dX12_lineNow_53 (by decide) ?_
        refine g_iret C hR (pc := 54) rfl dX12_lineNow_54 ?_
        refine ⟨rfl, _, rfl, ?_⟩
        refine ⟨?_, rfl⟩
        first
        | (rw [if_pos y0]; done)
        | (rw [if_neg z0, if_pos y3]; done)
        | (rw [if_neg z0, if_neg z3, if_pos y4]; done)
        | (rw [if_neg z0, if_neg z3, if_neg z4, if_pos y1]; done)
        | (rw [if_neg z0, if_neg z3, if_neg z4, if_neg z1, if_pos y2]; done)
        | (rw [if_neg z0, if_neg z3, if_neg z4, if_neg z1, if_neg z2]; done)
  · refine g_aload_n C (pc := 14) dX12_lineNow_14 0 rfl ?_
    refine g_bipush C (pc := 15) 114 dX12_lineNow_15 (by decide) ?_
    refine g_bipush C (pc := 17) 100 dX12_lineNow_17 (by decide) ?_
    refine g_iconst C (pc := 19) 0 dX12_lineNow_19 (by decide) ?_
    refine g_callVI C (pc := 20) mf_X12_ends lk_RX12_137 (c_X12_ends n ρ I L tb f9 _ _ _ hn9 hms htb hfr (by omega)) (by decide) (Nat.le_refl _) rfl (by first | assumption | rfl | omega) rfl (by first | assumption | rfl | omega) (Nat.le_of_ble_eq_true rfl) dX12_lineNow_20 (fun v20 I20 h20 => ?_)
    obtain ⟨e20, rfl⟩ := h20
    refine g_if_eq C (pc := 23) 28 dX12_lineNow_23 (by decide) (fun c23 => ?_) (fun c23 => ?_)
    · have z0 : ¬ isN tb 0 f9 e9 = true := fun h => bI_0.mp (e20.symm.trans c23) ((nmL_0 heL htt).mp h).2
      refine g_aload_n C (pc := 28) dX12_lineNow_28 0 rfl ?_
      refine g_iconst C (pc := 29) 4 dX12_lineNow_29 (by decide) ?_
      refine g_bipush C (pc := 30) 111 dX12_lineNow_30 (by decide) ?_
      refine g_bipush C (pc := 32) 100 dX12_lineNow_32 (by decide) ?_
      refine g_bipush C (pc := 34) 100 dX12_lineNow_34 (by decide) ?_
      refine g_callVI C (pc := 36) mf_X12_is lk_RX12_133 (c_X12_is n ρ I L tb e9 f9 4 _ _ _ _ hn9 hms htb hpo hfr hfe (by omega) rfl (by decide)) (by decide) (Nat.le_refl _) rfl (by first | assumption | rfl | omega) rfl (by first | assumption | rfl | omega) (Nat.le_of_ble_eq_true rfl) dX12_lineNow_36 (fun v36 I36 h36 => ?_)
      obtain ⟨e36, rfl⟩ := h36
      refine g_if_eq C (pc := 39) 55 dX12_lineNow_39 (by decide) (fun c39 => ?_) (fun c39 => ?_)
      · have z3 : ¬ isN tb 3 f9 e9 = true := fun h => bI_0.mp (e36.symm.trans c39) ((nmL_3 heL htt).mp h).1
        refine g_aload_n C (pc := 55) dX12_lineNow_55 0 rfl ?_
        refine g_iconst C (pc := 56) 4 dX12_lineNow_56 (by decide) ?_
        refine g_bipush C (pc := 57) 116 dX12_lineNow_57 (by decide) ?_
        refine g_bipush C (pc := 59) 117 dX12_lineNow_59 (by decide) ?_
        refine g_bipush C (pc := 61) 114 dX12_lineNow_61 (by decide) ?_
        refine g_callVI C (pc := 63) mf_X12_is lk_RX12_133 (c_X12_is n ρ I L tb e9 f9 4 _ _ _ _ hn9 hms htb hpo hfr hfe (by omega) rfl (by decide)) (by decide) (Nat.le_refl _) rfl (by first | assumption | rfl | omega) rfl (by first | assumption | rfl | omega) (Nat.le_of_ble_eq_true rfl) dX12_lineNow_63 (fun v63 I63 h63 => ?_)
        obtain ⟨e63, rfl⟩ := h63
        refine g_if_eq C (pc := 66) 82 dX12_lineNow_66 (by decide) (fun c66 => ?_) (fun c66 => ?_)
        · have z4 : ¬ isN tb 4 f9 e9 = true := fun h => bI_0.mp (e63.symm.trans c66) ((nmL_4 heL htt).mp h).1
          refine g_aload_n C (pc := 82) dX12_lineNow_82 0 rfl ?_
          refine g_bipush C (pc := 83) 7 dX12_lineNow_83 (by decide) ?_
          refine g_bipush C (pc := 85) 115 dX12_lineNow_85 (by decide) ?_
          refine g_bipush C (pc := 87) 116 dX12_lineNow_87 (by decide) ?_
          refine g_bipush C (pc := 89) 101 dX12_lineNow_89 (by decide) ?_
          refine g_callVI C (pc := 91) mf_X12_is lk_RX12_133 (c_X12_is n ρ I L tb e9 f9 7 _ _ _ _ hn9 hms htb hpo hfr hfe (by omega) rfl (by decide)) (by decide) (Nat.le_refl _) rfl (by first | assumption | rfl | omega) rfl (by first | assumption | rfl | omega) (Nat.le_of_ble_eq_true rfl) dX12_lineNow_91 (fun v91 I91 h91 => ?_)
          obtain ⟨e91, rfl⟩ := h91
          refine g_if_eq C (pc := 94) 128 dX12_lineNow_94 (by decide) (fun c94 => ?_) (fun c94 => ?_)
          · have z1 : ¬ isN tb 1 f9 e9 = true := fun h => bI_0.mp (e91.symm.trans c94) ((nmL_1 heL htt).mp h).1
            refine g_aload_n C (pc := 128) dX12_lineNow_128 0 rfl ?_
            refine g_iconst C (pc := 129) 5 dX12_lineNow_129 (by decide) ?_
            refine g_bipush C (pc := 130) 112 dX12_lineNow_130 (by decide) ?_
            refine g_bipush C (pc := 132) 105 dX12_lineNow_132 (by decide) ?_
            refine g_bipush C (pc := 134) 101 dX12_lineNow_134 (by decide) ?_
            refine g_callVI C (pc := 136) mf_X12_is lk_RX12_133 (c_X12_is n ρ I L tb e9 f9 5 _ _ _ _ hn9 hms htb hpo hfr hfe (by omega) rfl (by decide)) (by decide) (Nat.le_refl _) rfl (by first | assumption | rfl | omega) rfl (by first | assumption | rfl | omega) (Nat.le_of_ble_eq_true rfl) dX12_lineNow_136 (fun v136 I136 h136 => ?_)
            obtain ⟨e136, rfl⟩ := h136
            refine g_if_eq C (pc := 139) 158 dX12_lineNow_139 (by decide) (fun c139 => ?_) (fun c139 => ?_)
            · have z2 : ¬ isN tb 2 f9 e9 = true := fun h => bI_0.mp (e136.symm.trans c139) ((nmL_2 heL htt).mp h).1
              refine g_bipush C (pc := 158) (-4) dX12_lineNow_158 (by decide) ?_
              refine g_iret C hR (pc := 160) rfl dX12_lineNow_160 ?_
              refine ⟨rfl, _, rfl, ?_⟩
              refine ⟨?_, rfl⟩
              first
              | (rw [if_pos y0]; done)
              | (rw [if_neg z0, if_pos y3]; done)
              | (rw [if_neg z0, if_neg z3, if_pos y4]; done)
              | (rw [if_neg z0, if_neg z3, if_neg z4, if_pos y1]; done)
              | (rw [if_neg z0, if_neg z3, if_neg z4, if_neg z1, if_pos y2]; done)
              | (rw [if_neg z0, if_neg z3, if_neg z4, if_neg z1, if_neg z2]; done)
            · refine g_aload_n C (pc := 142) dX12_lineNow_142 0 rfl ?_
              refine g_bipush C (pc := 143) 99 dX12_lineNow_143 (by decide) ?_
              refine g_bipush C (pc := 145) 101 dX12_lineNow_145 (by decide) ?_
              refine g_iconst C (pc := 147) 0 dX12_lineNow_147 (by decide) ?_
              refine g_callVI C (pc := 148) mf_X12_ends lk_RX12_137 (c_X12_ends n ρ I L tb f9 _ _ _ hn9 hms htb hfr (by omega)) (by decide) (Nat.le_refl _) rfl (by first | assumption | rfl | omega) rfl (by first | assumption | rfl | omega) (Nat.le_of_ble_eq_true rfl) dX12_lineNow_148 (fun v148 I148 h148 => ?_)
              obtain ⟨e148, rfl⟩ := h148
              refine g_if_eq C (pc := 151) 158 dX12_lineNow_151 (by decide) (fun c151 => ?_) (fun c151 => ?_)
              · have z2 : ¬ isN tb 2 f9 e9 = true := fun h => bI_0.mp (e148.symm.trans c151) ((nmL_2 heL htt).mp h).2
                refine g_bipush C (pc := 158) (-4) dX12_lineNow_158 (by decide) ?_
                refine g_iret C hR (pc := 160) rfl dX12_lineNow_160 ?_
                refine ⟨rfl, _, rfl, ?_⟩
                refine ⟨?_, rfl⟩
                first
                | (rw [if_pos y0]; done)
                | (rw [if_neg z0, if_pos y3]; done)
                | (rw [if_neg z0, if_neg z3, if_pos y4]; done)
                | (rw [if_neg z0, if_neg z3, if_neg z4, if_pos y1]; done)
                | (rw [if_neg z0, if_neg z3, if_neg z4, if_neg z1, if_pos y2]; done)
                | (rw [if_neg z0, if_neg z3, if_neg z4, if_neg z1, if_neg z2]; done)
              · have y2 : isN tb 2 f9 e9 = true := (nmL_2 heL htt).mpr ⟨bI_1.mp (fun h => c139 (e136.trans h)), bI_1.mp (fun h => c151 (e148.trans h))⟩
                refine g_iconst C (pc := 154) 4 dX12_lineNow_154 (by decide) ?_
                refine g_goto C (pc := 155) 160 dX12_lineNow_155 (by decide) ?_
                refine g_iret C hR (pc := 160) rfl dX12_lineNow_160 ?_
                refine ⟨rfl, _, rfl, ?_⟩
                refine ⟨?_, rfl⟩
                first
                | (rw [if_pos y0]; done)
                | (rw [if_neg z0, if_pos y3]; done)
                | (rw [if_neg z0, if_neg z3, if_pos y4]; done)
                | (rw [if_neg z0, if_neg z3, if_neg z4, if_pos y1]; done)
                | (rw [if_neg z0, if_neg z3, if_neg z4, if_neg z1, if_pos y2]; done)
                | (rw [if_neg z0, if_neg z3, if_neg z4, if_neg z1, if_neg z2]; done)
          · refine g_aload_n C (pc := 97) dX12_lineNow_97 0 rfl ?_
            refine g_bipush C (pc := 98) 101 dX12_lineNow_98 (by decide) ?_
            refine g_bipush C (pc := 100) 112 dX12_lineNow_100 (by decide) ?_
            refine g_bipush C (pc := 102) 108 dX12_lineNow_102 (by decide) ?_
            refine g_callVI C (pc := 104) mf_X12_ends lk_RX12_137 (c_X12_ends n ρ I L tb f9 _ _ _ hn9 hms htb hfr (by omega)) (by decide) (Nat.le_refl _) rfl (by first | assumption | rfl | omega) rfl (by first | assumption | rfl | omega) (Nat.le_of_ble_eq_true rfl) dX12_lineNow_104 (fun v104 I104 h104 => ?_)
            obtain ⟨e104, rfl⟩ := h104
            refine g_if_eq C (pc := 107) 128 dX12_lineNow_107 (by decide) (fun c107 => ?_) (fun c107 => ?_)
            · have z1 : ¬ isN tb 1 f9 e9 = true := fun h => bI_0.mp (e104.symm.trans c107) ((nmL_1 heL htt).mp h).2.1
              refine g_aload_n C (pc := 128) dX12_lineNow_128 0 rfl ?_
              refine g_iconst C (pc := 129) 5 dX12_lineNow_129 (by decide) ?_
              refine g_bipush C (pc := 130) 112 dX12_lineNow_130 (by decide) ?_
              refine g_bipush C (pc := 132) 105 dX12_lineNow_132 (by decide) ?_
              refine g_bipush C (pc := 134) 101 dX12_lineNow_134 (by decide) ?_
              refine g_callVI C (pc := 136) mf_X12_is lk_RX12_133 (c_X12_is n ρ I L tb e9 f9 5 _ _ _ _ hn9 hms htb hpo hfr hfe (by omega) rfl (by decide)) (by decide) (Nat.le_refl _) rfl (by first | assumption | rfl | omega) rfl (by first | assumption | rfl | omega) (Nat.le_of_ble_eq_true rfl) dX12_lineNow_136 (fun v136 I136 h136 => ?_)
              obtain ⟨e136, rfl⟩ := h136
              refine g_if_eq C (pc := 139) 158 dX12_lineNow_139 (by decide) (fun c139 => ?_) (fun c139 => ?_)
              · have z2 : ¬ isN tb 2 f9 e9 = true := fun h => bI_0.mp (e136.symm.trans c139) ((nmL_2 heL htt).mp h).1
                refine g_bipush C (pc := 158) (-4) dX12_lineNow_158 (by decide) ?_
                refine g_iret C hR (pc := 160) rfl dX12_lineNow_160 ?_
                refine ⟨rfl, _, rfl, ?_⟩
                refine ⟨?_, rfl⟩
                first
                | (rw [if_pos y0]; done)
                | (rw [if_neg z0, if_pos y3]; done)
                | (rw [if_neg z0, if_neg z3, if_pos y4]; done)
                | (rw [if_neg z0, if_neg z3, if_neg z4, if_pos y1]; done)
                | (rw [if_neg z0, if_neg z3, if_neg z4, if_neg z1, if_pos y2]; done)
                | (rw [if_neg z0, if_neg z3, if_neg z4, if_neg z1, if_neg z2]; done)
              · refine g_aload_n C (pc := 142) dX12_lineNow_142 0 rfl ?_
                refine g_bipush C (pc := 143) 99 dX12_lineNow_143 (by decide) ?_
                refine g_bipush C (pc := 145) 101 dX12_lineNow_145 (by decide) ?_
                refine g_iconst C (pc := 147) 0 dX12_lineNow_147 (by decide) ?_
                refine g_callVI C (pc := 148) mf_X12_ends lk_RX12_137 (c_X12_ends n ρ I L tb f9 _ _ _ hn9 hms htb hfr (by omega)) (by decide) (Nat.le_refl _) rfl (by first | assumption | rfl | omega) rfl (by first | assumption | rfl | omega) (Nat.le_of_ble_eq_true rfl) dX12_lineNow_148 (fun v148 I148 h148 => ?_)
                obtain ⟨e148, rfl⟩ := h148
                refine g_if_eq C (pc := 151) 158 dX12_lineNow_151 (by decide) (fun c151 => ?_) (fun c151 => ?_)
                · have z2 : ¬ isN tb 2 f9 e9 = true := fun h => bI_0.mp (e148.symm.trans c151) ((nmL_2 heL htt).mp h).2
                  refine g_bipush C (pc := 158) (-4) dX12_lineNow_158 (by decide) ?_
                  refine g_iret C hR (pc := 160) rfl dX12_lineNow_160 ?_
                  refine ⟨rfl, _, rfl, ?_⟩
                  refine ⟨?_, rfl⟩
                  first
                  | (rw [if_pos y0]; done)
                  | (rw [if_neg z0, if_pos y3]; done)
                  | (rw [if_neg z0, if_neg z3, if_pos y4]; done)
                  | (rw [if_neg z0, if_neg z3, if_neg z4, if_pos y1]; done)
                  | (rw [if_neg z0, if_neg z3, if_neg z4, if_neg z1, if_pos y2]; done)
                  | (rw [if_neg z0, if_neg z3, if_neg z4, if_neg z1, if_neg z2]; done)
                · have y2 : isN tb 2 f9 e9 = true := (nmL_2 heL htt).mpr ⟨bI_1.mp (fun h => c139 (e136.trans h)), bI_1.mp (fun h => c151 (e148.trans h))⟩
                  refine g_iconst C (pc := 154) 4 dX12_lineNow_154 (by decide) ?_
                  refine g_goto C (pc := 155) 160 dX12_lineNow_155 (by decide) ?_
                  refine g_iret C hR (pc := 160) rfl dX12_lineNow_160 ?_
                  refine ⟨rfl, _, rfl, ?_⟩
                  refine ⟨?_, rfl⟩
                  first
                  | (rw [if_pos y0]; done)
                  | (rw [if_neg z0, if_pos y3]; done)
                  | (rw [if_neg z0, if_neg z3, if_pos y4]; done)
                  | (rw [if_neg z0, if_neg z3, if_neg z4, if_pos y1]; done)
                  | (rw [if_neg z0, if_neg z3, if_neg z4, if_neg z1, if_pos y2]; done)
                  | (rw [if_neg z0, if_neg z3, if_neg z4, if_neg z1, if_neg z2]; done)
            · refine g_aload_n C (pc := 110) dX12_lineNow_110 0 rfl ?_
              refine g_aload_n C (pc := 111) dX12_lineNow_111 0 rfl ?_
              refine g_getI C (pc := 112) fl_RX12_120 (by decide) (by first | assumption | rfl | omega) (by first | assumption | rfl | omega) dX12_lineNow_112 ?_
              refine g_bipush C (pc := 115) 6 dX12_lineNow_115 (by decide) ?_
              refine g_iadd C (pc := 117) dX12_lineNow_117 ?_
              refine g_callVI C (pc := 118) mf_X12_look lk_RX12_129 (c_X12_look n ρ I L tb (f9 + 6) _ hn9 hms htb (by omega) (by rw [hfr, show (6 : Int32) = nI 6 from rfl, nI_add])) (by decide) (Nat.le_refl _) rfl (by first | assumption | rfl | omega) rfl (by first | assumption | rfl | omega) (Nat.le_of_ble_eq_true rfl) dX12_lineNow_118 (fun v118 I118 h118 => ?_)
              obtain ⟨e118, rfl⟩ := h118
              refine g_bipush C (pc := 121) 101 dX12_lineNow_121 (by decide) ?_
              refine g_icmp_ne C (pc := 123) 128 dX12_lineNow_123 (by decide) (fun c123 => ?_) (fun c123 => ?_)
              · have z1 : ¬ isN tb 1 f9 e9 = true := fun h => c123 (e118.trans ((nmL_1 heL htt).mp h).2.2)
                refine g_aload_n C (pc := 128) dX12_lineNow_128 0 rfl ?_
                refine g_iconst C (pc := 129) 5 dX12_lineNow_129 (by decide) ?_
                refine g_bipush C (pc := 130) 112 dX12_lineNow_130 (by decide) ?_
                refine g_bipush C (pc := 132) 105 dX12_lineNow_132 (by decide) ?_
                refine g_bipush C (pc := 134) 101 dX12_lineNow_134 (by decide) ?_
                refine g_callVI C (pc := 136) mf_X12_is lk_RX12_133 (c_X12_is n ρ I L tb e9 f9 5 _ _ _ _ hn9 hms htb hpo hfr hfe (by omega) rfl (by decide)) (by decide) (Nat.le_refl _) rfl (by first | assumption | rfl | omega) rfl (by first | assumption | rfl | omega) (Nat.le_of_ble_eq_true rfl) dX12_lineNow_136 (fun v136 I136 h136 => ?_)
                obtain ⟨e136, rfl⟩ := h136
                refine g_if_eq C (pc := 139) 158 dX12_lineNow_139 (by decide) (fun c139 => ?_) (fun c139 => ?_)
                · have z2 : ¬ isN tb 2 f9 e9 = true := fun h => bI_0.mp (e136.symm.trans c139) ((nmL_2 heL htt).mp h).1
                  refine g_bipush C (pc := 158) (-4) dX12_lineNow_158 (by decide) ?_
                  refine g_iret C hR (pc := 160) rfl dX12_lineNow_160 ?_
                  refine ⟨rfl, _, rfl, ?_⟩
                  refine ⟨?_, rfl⟩
                  first
                  | (rw [if_pos y0]; done)
                  | (rw [if_neg z0, if_pos y3]; done)
                  | (rw [if_neg z0, if_neg z3, if_pos y4]; done)
                  | (rw [if_neg z0, if_neg z3, if_neg z4, if_pos y1]; done)
                  | (rw [if_neg z0, if_neg z3, if_neg z4, if_neg z1, if_pos y2]; done)
                  | (rw [if_neg z0, if_neg z3, if_neg z4, if_neg z1, if_neg z2]; done)
                · refine g_aload_n C (pc := 142) dX12_lineNow_142 0 rfl ?_
                  refine g_bipush C (pc := 143) 99 dX12_lineNow_143 (by decide) ?_
                  refine g_bipush C (pc := 145) 101 dX12_lineNow_145 (by decide) ?_
                  refine g_iconst C (pc := 147) 0 dX12_lineNow_147 (by decide) ?_
                  refine g_callVI C (pc := 148) mf_X12_ends lk_RX12_137 (c_X12_ends n ρ I L tb f9 _ _ _ hn9 hms htb hfr (by omega)) (by decide) (Nat.le_refl _) rfl (by first | assumption | rfl | omega) rfl (by first | assumption | rfl | omega) (Nat.le_of_ble_eq_true rfl) dX12_lineNow_148 (fun v148 I148 h148 => ?_)
                  obtain ⟨e148, rfl⟩ := h148
                  refine g_if_eq C (pc := 151) 158 dX12_lineNow_151 (by decide) (fun c151 => ?_) (fun c151 => ?_)
                  · have z2 : ¬ isN tb 2 f9 e9 = true := fun h => bI_0.mp (e148.symm.trans c151) ((nmL_2 heL htt).mp h).2
                    refine g_bipush C (pc := 158) (-4) dX12_lineNow_158 (by decide) ?_
                    refine g_iret C hR (pc := 160) rfl dX12_lineNow_160 ?_
                    refine ⟨rfl, _, rfl, ?_⟩
                    refine ⟨?_, rfl⟩
                    first
                    | (rw [if_pos y0]; done)
                    | (rw [if_neg z0, if_pos y3]; done)
                    | (rw [if_neg z0, if_neg z3, if_pos y4]; done)
                    | (rw [if_neg z0, if_neg z3, if_neg z4, if_pos y1]; done)
                    | (rw [if_neg z0, if_neg z3, if_neg z4, if_neg z1, if_pos y2]; done)
                    | (rw [if_neg z0, if_neg z3, if_neg z4, if_neg z1, if_neg z2]; done)
                  · have y2 : isN tb 2 f9 e9 = true := (nmL_2 heL htt).mpr ⟨bI_1.mp (fun h => c139 (e136.trans h)), bI_1.mp (fun h => c151 (e148.trans h))⟩
                    refine g_iconst C (pc := 154) 4 dX12_lineNow_154 (by decide) ?_
                    refine g_goto C (pc := 155) 160 dX12_lineNow_155 (by decide) ?_
                    refine g_iret C hR (pc := 160) rfl dX12_lineNow_160 ?_
                    refine ⟨rfl, _, rfl, ?_⟩
                    refine ⟨?_, rfl⟩
                    first
                    | (rw [if_pos y0]; done)
                    | (rw [if_neg z0, if_pos y3]; done)
                    | (rw [if_neg z0, if_neg z3, if_pos y4]; done)
                    | (rw [if_neg z0, if_neg z3, if_neg z4, if_pos y1]; done)
                    | (rw [if_neg z0, if_neg z3, if_neg z4, if_neg z1, if_pos y2]; done)
                    | (rw [if_neg z0, if_neg z3, if_neg z4, if_neg z1, if_neg z2]; done)
              · have y1 : isN tb 1 f9 e9 = true := (nmL_1 heL htt).mpr ⟨bI_1.mp (fun h => c94 (e91.trans h)), bI_1.mp (fun h => c107 (e104.trans h)), e118.symm.trans c123⟩
                refine g_iconst C (pc := 126) 3 dX12_lineNow_126 (by decide) ?_
                refine g_iret C hR (pc := 127) rfl dX12_lineNow_127 ?_
                refine ⟨rfl, _, rfl, ?_⟩
                refine ⟨?_, rfl⟩
                first
                | (rw [if_pos y0]; done)
                | (rw [if_neg z0, if_pos y3]; done)
                | (rw [if_neg z0, if_neg z3, if_pos y4]; done)
                | (rw [if_neg z0, if_neg z3, if_neg z4, if_pos y1]; done)
                | (rw [if_neg z0, if_neg z3, if_neg z4, if_neg z1, if_pos y2]; done)
                | (rw [if_neg z0, if_neg z3, if_neg z4, if_neg z1, if_neg z2]; done)
        · refine g_aload_n C (pc := 69) dX12_lineNow_69 0 rfl ?_
          refine g_bipush C (pc := 70) 110 dX12_lineNow_70 (by decide) ?_
          refine g_iconst C (pc := 72) 0 dX12_lineNow_72 (by decide) ?_
          refine g_iconst C (pc := 73) 0 dX12_lineNow_73 (by decide) ?_
          refine g_callVI C (pc := 74) mf_X12_ends lk_RX12_137 (c_X12_ends n ρ I L tb f9 _ _ _ hn9 hms htb hfr (by omega)) (by decide) (Nat.le_refl _) rfl (by first | assumption | rfl | omega) rfl (by first | assumption | rfl | omega) (Nat.le_of_ble_eq_true rfl) dX12_lineNow_74 (fun v74 I74 h74 => ?_)
          obtain ⟨e74, rfl⟩ := h74
          refine g_if_eq C (pc := 77) 82 dX12_lineNow_77 (by decide) (fun c77 => ?_) (fun c77 => ?_)
          · have z4 : ¬ isN tb 4 f9 e9 = true := fun h => bI_0.mp (e74.symm.trans c77) ((nmL_4 heL htt).mp h).2
            refine g_aload_n C (pc := 82) dX12_lineNow_82 0 rfl ?_
            refine g_bipush C (pc := 83) 7 dX12_lineNow_83 (by decide) ?_
            refine g_bipush C (pc := 85) 115 dX12_lineNow_85 (by decide) ?_
            refine g_bipush C (pc := 87) 116 dX12_lineNow_87 (by decide) ?_
            refine g_bipush C (pc := 89) 101 dX12_lineNow_89 (by decide) ?_
            refine g_callVI C (pc := 91) mf_X12_is lk_RX12_133 (c_X12_is n ρ I L tb e9 f9 7 _ _ _ _ hn9 hms htb hpo hfr hfe (by omega) rfl (by decide)) (by decide) (Nat.le_refl _) rfl (by first | assumption | rfl | omega) rfl (by first | assumption | rfl | omega) (Nat.le_of_ble_eq_true rfl) dX12_lineNow_91 (fun v91 I91 h91 => ?_)
            obtain ⟨e91, rfl⟩ := h91
            refine g_if_eq C (pc := 94) 128 dX12_lineNow_94 (by decide) (fun c94 => ?_) (fun c94 => ?_)
            · have z1 : ¬ isN tb 1 f9 e9 = true := fun h => bI_0.mp (e91.symm.trans c94) ((nmL_1 heL htt).mp h).1
              refine g_aload_n C (pc := 128) dX12_lineNow_128 0 rfl ?_
              refine g_iconst C (pc := 129) 5 dX12_lineNow_129 (by decide) ?_
              refine g_bipush C (pc := 130) 112 dX12_lineNow_130 (by decide) ?_
              refine g_bipush C (pc := 132) 105 dX12_lineNow_132 (by decide) ?_
              refine g_bipush C (pc := 134) 101 dX12_lineNow_134 (by decide) ?_
              refine g_callVI C (pc := 136) mf_X12_is lk_RX12_133 (c_X12_is n ρ I L tb e9 f9 5 _ _ _ _ hn9 hms htb hpo hfr hfe (by omega) rfl (by decide)) (by decide) (Nat.le_refl _) rfl (by first | assumption | rfl | omega) rfl (by first | assumption | rfl | omega) (Nat.le_of_ble_eq_true rfl) dX12_lineNow_136 (fun v136 I136 h136 => ?_)
              obtain ⟨e136, rfl⟩ := h136
              refine g_if_eq C (pc := 139) 158 dX12_lineNow_139 (by decide) (fun c139 => ?_) (fun c139 => ?_)
              · have z2 : ¬ isN tb 2 f9 e9 = true := fun h => bI_0.mp (e136.symm.trans c139) ((nmL_2 heL htt).mp h).1
                refine g_bipush C (pc := 158) (-4) dX12_lineNow_158 (by decide) ?_
                refine g_iret C hR (pc := 160) rfl dX12_lineNow_160 ?_
                refine ⟨rfl, _, rfl, ?_⟩
                refine ⟨?_, rfl⟩
                first
                | (rw [if_pos y0]; done)
                | (rw [if_neg z0, if_pos y3]; done)
                | (rw [if_neg z0, if_neg z3, if_pos y4]; done)
                | (rw [if_neg z0, if_neg z3, if_neg z4, if_pos y1]; done)
                | (rw [if_neg z0, if_neg z3, if_neg z4, if_neg z1, if_pos y2]; done)
                | (rw [if_neg z0, if_neg z3, if_neg z4, if_neg z1, if_neg z2]; done)
              · refine g_aload_n C (pc := 142) dX12_lineNow_142 0 rfl ?_
                refine g_bipush C (pc := 143) 99 dX12_lineNow_143 (by decide) ?_
                refine g_bipush C (pc := 145) 101 dX12_lineNow_145 (by decide) ?_
                refine g_iconst C (pc := 147) 0 dX12_lineNow_147 (by decide) ?_
                refine g_callVI C (pc := 148) mf_X12_ends lk_RX12_137 (c_X12_ends n ρ I L tb f9 _ _ _ hn9 hms htb hfr (by omega)) (by decide) (Nat.le_refl _) rfl (by first | assumption | rfl | omega) rfl (by first | assumption | rfl | omega) (Nat.le_of_ble_eq_true rfl) dX12_lineNow_148 (fun v148 I148 h148 => ?_)
                obtain ⟨e148, rfl⟩ := h148
                refine g_if_eq C (pc := 151) 158 dX12_lineNow_151 (by decide) (fun c151 => ?_) (fun c151 => ?_)
                · have z2 : ¬ isN tb 2 f9 e9 = true := fun h => bI_0.mp (e148.symm.trans c151) ((nmL_2 heL htt).mp h).2
                  refine g_bipush C (pc := 158) (-4) dX12_lineNow_158 (by decide) ?_
                  refine g_iret C hR (pc := 160) rfl dX12_lineNow_160 ?_
                  refine ⟨rfl, _, rfl, ?_⟩
                  refine ⟨?_, rfl⟩
                  first
                  | (rw [if_pos y0]; done)
                  | (rw [if_neg z0, if_pos y3]; done)
                  | (rw [if_neg z0, if_neg z3, if_pos y4]; done)
                  | (rw [if_neg z0, if_neg z3, if_neg z4, if_pos y1]; done)
                  | (rw [if_neg z0, if_neg z3, if_neg z4, if_neg z1, if_pos y2]; done)
                  | (rw [if_neg z0, if_neg z3, if_neg z4, if_neg z1, if_neg z2]; done)
                · have y2 : isN tb 2 f9 e9 = true := (nmL_2 heL htt).mpr ⟨bI_1.mp (fun h => c139 (e136.trans h)), bI_1.mp (fun h => c151 (e148.trans h))⟩
                  refine g_iconst C (pc := 154) 4 dX12_lineNow_154 (by decide) ?_
                  refine g_goto C (pc := 155) 160 dX12_lineNow_155 (by decide) ?_
                  refine g_iret C hR (pc := 160) rfl dX12_lineNow_160 ?_
                  refine ⟨rfl, _, rfl, ?_⟩
                  refine ⟨?_, rfl⟩
                  first
                  | (rw [if_pos y0]; done)
                  | (rw [if_neg z0, if_pos y3]; done)
                  | (rw [if_neg z0, if_neg z3, if_pos y4]; done)
                  | (rw [if_neg z0, if_neg z3, if_neg z4, if_pos y1]; done)
                  | (rw [if_neg z0, if_neg z3, if_neg z4, if_neg z1, if_pos y2]; done)
                  | (rw [if_neg z0, if_neg z3, if_neg z4, if_neg z1, if_neg z2]; done)
            · refine g_aload_n C (pc := 97) dX12_lineNow_97 0 rfl ?_
              refine g_bipush C (pc := 98) 101 dX12_lineNow_98 (by decide) ?_
              refine g_bipush C (pc := 100) 112 dX12_lineNow_100 (by decide) ?_
              refine g_bipush C (pc := 102) 108 dX12_lineNow_102 (by decide) ?_
              refine g_callVI C (pc := 104) mf_X12_ends lk_RX12_137 (c_X12_ends n ρ I L tb f9 _ _ _ hn9 hms htb hfr (by omega)) (by decide) (Nat.le_refl _) rfl (by first | assumption | rfl | omega) rfl (by first | assumption | rfl | omega) (Nat.le_of_ble_eq_true rfl) dX12_lineNow_104 (fun v104 I104 h104 => ?_)
              obtain ⟨e104, rfl⟩ := h104
              refine g_if_eq C (pc := 107) 128 dX12_lineNow_107 (by decide) (fun c107 => ?_) (fun c107 => ?_)
              · have z1 : ¬ isN tb 1 f9 e9 = true := fun h => bI_0.mp (e104.symm.trans c107) ((nmL_1 heL htt).mp h).2.1
                refine g_aload_n C (pc := 128) dX12_lineNow_128 0 rfl ?_
                refine g_iconst C (pc := 129) 5 dX12_lineNow_129 (by decide) ?_
                refine g_bipush C (pc := 130) 112 dX12_lineNow_130 (by decide) ?_
                refine g_bipush C (pc := 132) 105 dX12_lineNow_132 (by decide) ?_
                refine g_bipush C (pc := 134) 101 dX12_lineNow_134 (by decide) ?_
                refine g_callVI C (pc := 136) mf_X12_is lk_RX12_133 (c_X12_is n ρ I L tb e9 f9 5 _ _ _ _ hn9 hms htb hpo hfr hfe (by omega) rfl (by decide)) (by decide) (Nat.le_refl _) rfl (by first | assumption | rfl | omega) rfl (by first | assumption | rfl | omega) (Nat.le_of_ble_eq_true rfl) dX12_lineNow_136 (fun v136 I136 h136 => ?_)
                obtain ⟨e136, rfl⟩ := h136
                refine g_if_eq C (pc := 139) 158 dX12_lineNow_139 (by decide) (fun c139 => ?_) (fun c139 => ?_)
                · have z2 : ¬ isN tb 2 f9 e9 = true := fun h => bI_0.mp (e136.symm.trans c139) ((nmL_2 heL htt).mp h).1
                  refine g_bipush C (pc := 158) (-4) dX12_lineNow_158 (by decide) ?_
                  refine g_iret C hR (pc := 160) rfl dX12_lineNow_160 ?_
                  refine ⟨rfl, _, rfl, ?_⟩
                  refine ⟨?_, rfl⟩
                  first
                  | (rw [if_pos y0]; done)
                  | (rw [if_neg z0, if_pos y3]; done)
                  | (rw [if_neg z0, if_neg z3, if_pos y4]; done)
                  | (rw [if_neg z0, if_neg z3, if_neg z4, if_pos y1]; done)
                  | (rw [if_neg z0, if_neg z3, if_neg z4, if_neg z1, if_pos y2]; done)
                  | (rw [if_neg z0, if_neg z3, if_neg z4, if_neg z1, if_neg z2]; done)
                · refine g_aload_n C (pc := 142) dX12_lineNow_142 0 rfl ?_
                  refine g_bipush C (pc := 143) 99 dX12_lineNow_143 (by decide) ?_
                  refine g_bipush C (pc := 145) 101 dX12_lineNow_145 (by decide) ?_
                  refine g_iconst C (pc := 147) 0 dX12_lineNow_147 (by decide) ?_
                  refine g_callVI C (pc := 148) mf_X12_ends lk_RX12_137 (c_X12_ends n ρ I L tb f9 _ _ _ hn9 hms htb hfr (by omega)) (by decide) (Nat.le_refl _) rfl (by first | assumption | rfl | omega) rfl (by first | assumption | rfl | omega) (Nat.le_of_ble_eq_true rfl) dX12_lineNow_148 (fun v148 I148 h148 => ?_)
                  obtain ⟨e148, rfl⟩ := h148
                  refine g_if_eq C (pc := 151) 158 dX12_lineNow_151 (by decide) (fun c151 => ?_) (fun c151 => ?_)
                  · have z2 : ¬ isN tb 2 f9 e9 = true := fun h => bI_0.mp (e148.symm.trans c151) ((nmL_2 heL htt).mp h).2
                    refine g_bipush C (pc := 158) (-4) dX12_lineNow_158 (by decide) ?_
                    refine g_iret C hR (pc := 160) rfl dX12_lineNow_160 ?_
                    refine ⟨rfl, _, rfl, ?_⟩
                    refine ⟨?_, rfl⟩
                    first
                    | (rw [if_pos y0]; done)
                    | (rw [if_neg z0, if_pos y3]; done)
                    | (rw [if_neg z0, if_neg z3, if_pos y4]; done)
                    | (rw [if_neg z0, if_neg z3, if_neg z4, if_pos y1]; done)
                    | (rw [if_neg z0, if_neg z3, if_neg z4, if_neg z1, if_pos y2]; done)
                    | (rw [if_neg z0, if_neg z3, if_neg z4, if_neg z1, if_neg z2]; done)
                  · have y2 : isN tb 2 f9 e9 = true := (nmL_2 heL htt).mpr ⟨bI_1.mp (fun h => c139 (e136.trans h)), bI_1.mp (fun h => c151 (e148.trans h))⟩
                    refine g_iconst C (pc := 154) 4 dX12_lineNow_154 (by decide) ?_
                    refine g_goto C (pc := 155) 160 dX12_lineNow_155 (by decide) ?_
                    refine g_iret C hR (pc := 160) rfl dX12_lineNow_160 ?_
                    refine ⟨rfl, _, rfl, ?_⟩
                    refine ⟨?_, rfl⟩
                    first
                    | (rw [if_pos y0]; done)
                    | (rw [if_neg z0, if_pos y3]; done)
                    | (rw [if_neg z0, if_neg z3, if_pos y4]; done)
                    | (rw [if_neg z0, if_neg z3, if_neg z4, if_pos y1]; done)
                    | (rw [if_neg z0, if_neg z3, if_neg z4, if_neg z1, if_pos y2]; done)
                    | (rw [if_neg z0, if_neg z3, if_neg z4, if_neg z1, if_neg z2]; done)
              · refine g_aload_n C (pc := 110) dX12_lineNow_110 0 rfl ?_
                refine g_aload_n C (pc := 111) dX12_lineNow_111 0 rfl ?_
                refine g_getI C (pc := 112) fl_RX12_120 (by decide) (by first | assumption | rfl | omega) (by first | assumption | rfl | omega) dX12_lineNow_112 ?_
                refine g_bipush C (pc := 115) 6 dX12_lineNow_115 (by decide) ?_
                refine g_iadd C (pc := 117) dX12_lineNow_117 ?_
                refine g_callVI C (pc := 118) mf_X12_look lk_RX12_129 (c_X12_look n ρ I L tb (f9 + 6) _ hn9 hms htb (by omega) (by rw [hfr, show (6 : Int32) = nI 6 from rfl, nI_add])) (by decide) (Nat.le_refl _) rfl (by first | assumption | rfl | omega) rfl (by first | assumption | rfl | omega) (Nat.le_of_ble_eq_true rfl) dX12_lineNow_118 (fun v118 I118 h118 => ?_)
                obtain ⟨e118, rfl⟩ := h118
                refine g_bipush C (pc := 121) 101 dX12_lineNow_121 (by decide) ?_
                refine g_icmp_ne C (pc := 123) 128 dX12_lineNow_123 (by decide) (fun c123 => ?_) (fun c123 => ?_)
                · have z1 : ¬ isN tb 1 f9 e9 = true := fun h => c123 (e118.trans ((nmL_1 heL htt).mp h).2.2)
                  refine g_aload_n C (pc := 128) dX12_lineNow_128 0 rfl ?_
                  refine g_iconst C (pc := 129) 5 dX12_lineNow_129 (by decide) ?_
                  refine g_bipush C (pc := 130) 112 dX12_lineNow_130 (by decide) ?_
                  refine g_bipush C (pc := 132) 105 dX12_lineNow_132 (by decide) ?_
                  refine g_bipush C (pc := 134) 101 dX12_lineNow_134 (by decide) ?_
                  refine g_callVI C (pc := 136) mf_X12_is lk_RX12_133 (c_X12_is n ρ I L tb e9 f9 5 _ _ _ _ hn9 hms htb hpo hfr hfe (by omega) rfl (by decide)) (by decide) (Nat.le_refl _) rfl (by first | assumption | rfl | omega) rfl (by first | assumption | rfl | omega) (Nat.le_of_ble_eq_true rfl) dX12_lineNow_136 (fun v136 I136 h136 => ?_)
                  obtain ⟨e136, rfl⟩ := h136
                  refine g_if_eq C (pc := 139) 158 dX12_lineNow_139 (by decide) (fun c139 => ?_) (fun c139 => ?_)
                  · have z2 : ¬ isN tb 2 f9 e9 = true := fun h => bI_0.mp (e136.symm.trans c139) ((nmL_2 heL htt).mp h).1
                    refine g_bipush C (pc := 158) (-4) dX12_lineNow_158 (by decide) ?_
                    refine g_iret C hR (pc := 160) rfl dX12_lineNow_160 ?_
                    refine ⟨rfl, _, rfl, ?_⟩
                    refine ⟨?_, rfl⟩
                    first
                    | (rw [if_pos y0]; done)
                    | (rw [if_neg z0, if_pos y3]; done)
                    | (rw [if_neg z0, if_neg z3, if_pos y4]; done)
                    | (rw [if_neg z0, if_neg z3, if_neg z4, if_pos y1]; done)
                    | (rw [if_neg z0, if_neg z3, if_neg z4, if_neg z1, if_pos y2]; done)
                    | (rw [if_neg z0, if_neg z3, if_neg z4, if_neg z1, if_neg z2]; done)
                  · refine g_aload_n C (pc := 142) dX12_lineNow_142 0 rfl ?_
                    refine g_bipush C (pc := 143) 99 dX12_lineNow_143 (by decide) ?_
                    refine g_bipush C (pc := 145) 101 dX12_lineNow_145 (by decide) ?_
                    refine g_iconst C (pc := 147) 0 dX12_lineNow_147 (by decide) ?_
                    refine g_callVI C (pc := 148) mf_X12_ends lk_RX12_137 (c_X12_ends n ρ I L tb f9 _ _ _ hn9 hms htb hfr (by omega)) (by decide) (Nat.le_refl _) rfl (by first | assumption | rfl | omega) rfl (by first | assumption | rfl | omega) (Nat.le_of_ble_eq_true rfl) dX12_lineNow_148 (fun v148 I148 h148 => ?_)
                    obtain ⟨e148, rfl⟩ := h148
                    refine g_if_eq C (pc := 151) 158 dX12_lineNow_151 (by decide) (fun c151 => ?_) (fun c151 => ?_)
                    · have z2 : ¬ isN tb 2 f9 e9 = true := fun h => bI_0.mp (e148.symm.trans c151) ((nmL_2 heL htt).mp h).2
                      refine g_bipush C (pc := 158) (-4) dX12_lineNow_158 (by decide) ?_
                      refine g_iret C hR (pc := 160) rfl dX12_lineNow_160 ?_
                      refine ⟨rfl, _, rfl, ?_⟩
                      refine ⟨?_, rfl⟩
                      first
                      | (rw [if_pos y0]; done)
                      | (rw [if_neg z0, if_pos y3]; done)
                      | (rw [if_neg z0, if_neg z3, if_pos y4]; done)
                      | (rw [if_neg z0, if_neg z3, if_neg z4, if_pos y1]; done)
                      | (rw [if_neg z0, if_neg z3, if_neg z4, if_neg z1, if_pos y2]; done)
                      | (rw [if_neg z0, if_neg z3, if_neg z4, if_neg z1, if_neg z2]; done)
                    · have y2 : isN tb 2 f9 e9 = true := (nmL_2 heL htt).mpr ⟨bI_1.mp (fun h => c139 (e136.trans h)), bI_1.mp (fun h => c151 (e148.trans h))⟩
                      refine g_iconst C (pc := 154) 4 dX12_lineNow_154 (by decide) ?_
                      refine g_goto C (pc := 155) 160 dX12_lineNow_155 (by decide) ?_
                      refine g_iret C hR (pc := 160) rfl dX12_lineNow_160 ?_
                      refine ⟨rfl, _, rfl, ?_⟩
                      refine ⟨?_, rfl⟩
                      first
                      | (rw [if_pos y0]; done)
                      | (rw [if_neg z0, if_pos y3]; done)
                      | (rw [if_neg z0, if_neg z3, if_pos y4]; done)
                      | (rw [if_neg z0, if_neg z3, if_neg z4, if_pos y1]; done)
                      | (rw [if_neg z0, if_neg z3, if_neg z4, if_neg z1, if_pos y2]; done)
                      | (rw [if_neg z0, if_neg z3, if_neg z4, if_neg z1, if_neg z2]; done)
                · have y1 : isN tb 1 f9 e9 = true := (nmL_1 heL htt).mpr ⟨bI_1.mp (fun h => c94 (e91.trans h)), bI_1.mp (fun h => c107 (e104.trans h)), e118.symm.trans c123⟩
                  refine g_iconst C (pc := 126) 3 dX12_lineNow_126 (by decide) ?_
                  refine g_iret C hR (pc := 127) rfl dX12_lineNow_127 ?_
                  refine ⟨rfl, _, rfl, ?_⟩
                  refine ⟨?_, rfl⟩
                  first
                  | (rw [if_pos y0]; done)
                  | (rw [if_neg z0, if_pos y3]; done)
                  | (rw [if_neg z0, if_neg z3, if_pos y4]; done)
                  | (rw [if_neg z0, if_neg z3, if_neg z4, if_pos y1]; done)
                  | (rw [if_neg z0, if_neg z3, if_neg z4, if_neg z1, if_pos y2]; done)
                  | (rw [if_neg z0, if_neg z3, if_neg z4, if_neg z1, if_neg z2]; done)
          · have y4 : isN tb 4 f9 e9 = true := (nmL_4 heL htt).mpr ⟨bI_1.mp (fun h => c66 (e63.trans h)), bI_1.mp (fun h => c77 (e74.trans h))⟩
            refine g_iconst C (pc := 80) 2 dX12_lineNow_80 (by decide) ?_
            refine g_iret C hR (pc := 81) rfl dX12_lineNow_81 ?_
            refine ⟨rfl, _, rfl, ?_⟩
            refine ⟨?_, rfl⟩
            first
            | (rw [if_pos y0]; done)
            | (rw [if_neg z0, if_pos y3]; done)
            | (rw [if_neg z0, if_neg z3, if_pos y4]; done)
            | (rw [if_neg z0, if_neg z3, if_neg z4, if_pos y1]; done)
            | (rw [if_neg z0, if_neg z3, if_neg z4, if_neg z1, if_pos y2]; done)
            | (rw [if_neg z0, if_neg z3, if_neg z4, if_neg z1, if_neg z2]; done)
      · refine g_aload_n C (pc := 42) dX12_lineNow_42 0 rfl ?_
        refine g_bipush C (pc := 43) 115 dX12_lineNow_43 (by decide) ?_
        refine g_iconst C (pc := 45) 0 dX12_lineNow_45 (by decide) ?_
        refine g_iconst C (pc := 46) 0 dX12_lineNow_46 (by decide) ?_
        refine g_callVI C (pc := 47) mf_X12_ends lk_RX12_137 (c_X12_ends n ρ I L tb f9 _ _ _ hn9 hms htb hfr (by omega)) (by decide) (Nat.le_refl _) rfl (by first | assumption | rfl | omega) rfl (by first | assumption | rfl | omega) (Nat.le_of_ble_eq_true rfl) dX12_lineNow_47 (fun v47 I47 h47 => ?_)
        obtain ⟨e47, rfl⟩ := h47
        refine g_if_eq C (pc := 50) 55 dX12_lineNow_50 (by decide) (fun c50 => ?_) (fun c50 => ?_)
        · have z3 : ¬ isN tb 3 f9 e9 = true := fun h => bI_0.mp (e47.symm.trans c50) ((nmL_3 heL htt).mp h).2
          refine g_aload_n C (pc := 55) dX12_lineNow_55 0 rfl ?_
          refine g_iconst C (pc := 56) 4 dX12_lineNow_56 (by decide) ?_
          refine g_bipush C (pc := 57) 116 dX12_lineNow_57 (by decide) ?_
          refine g_bipush C (pc := 59) 117 dX12_lineNow_59 (by decide) ?_
          refine g_bipush C (pc := 61) 114 dX12_lineNow_61 (by decide) ?_
          refine g_callVI C (pc := 63) mf_X12_is lk_RX12_133 (c_X12_is n ρ I L tb e9 f9 4 _ _ _ _ hn9 hms htb hpo hfr hfe (by omega) rfl (by decide)) (by decide) (Nat.le_refl _) rfl (by first | assumption | rfl | omega) rfl (by first | assumption | rfl | omega) (Nat.le_of_ble_eq_true rfl) dX12_lineNow_63 (fun v63 I63 h63 => ?_)
          obtain ⟨e63, rfl⟩ := h63
          refine g_if_eq C (pc := 66) 82 dX12_lineNow_66 (by decide) (fun c66 => ?_) (fun c66 => ?_)
          · have z4 : ¬ isN tb 4 f9 e9 = true := fun h => bI_0.mp (e63.symm.trans c66) ((nmL_4 heL htt).mp h).1
            refine g_aload_n C (pc := 82) dX12_lineNow_82 0 rfl ?_
            refine g_bipush C (pc := 83) 7 dX12_lineNow_83 (by decide) ?_
            refine g_bipush C (pc := 85) 115 dX12_lineNow_85 (by decide) ?_
            refine g_bipush C (pc := 87) 116 dX12_lineNow_87 (by decide) ?_
            refine g_bipush C (pc := 89) 101 dX12_lineNow_89 (by decide) ?_
            refine g_callVI C (pc := 91) mf_X12_is lk_RX12_133 (c_X12_is n ρ I L tb e9 f9 7 _ _ _ _ hn9 hms htb hpo hfr hfe (by omega) rfl (by decide)) (by decide) (Nat.le_refl _) rfl (by first | assumption | rfl | omega) rfl (by first | assumption | rfl | omega) (Nat.le_of_ble_eq_true rfl) dX12_lineNow_91 (fun v91 I91 h91 => ?_)
            obtain ⟨e91, rfl⟩ := h91
            refine g_if_eq C (pc := 94) 128 dX12_lineNow_94 (by decide) (fun c94 => ?_) (fun c94 => ?_)
            · have z1 : ¬ isN tb 1 f9 e9 = true := fun h => bI_0.mp (e91.symm.trans c94) ((nmL_1 heL htt).mp h).1
              refine g_aload_n C (pc := 128) dX12_lineNow_128 0 rfl ?_
              refine g_iconst C (pc := 129) 5 dX12_lineNow_129 (by decide) ?_
              refine g_bipush C (pc := 130) 112 dX12_lineNow_130 (by decide) ?_
              refine g_bipush C (pc := 132) 105 dX12_lineNow_132 (by decide) ?_
              refine g_bipush C (pc := 134) 101 dX12_lineNow_134 (by decide) ?_
              refine g_callVI C (pc := 136) mf_X12_is lk_RX12_133 (c_X12_is n ρ I L tb e9 f9 5 _ _ _ _ hn9 hms htb hpo hfr hfe (by omega) rfl (by decide)) (by decide) (Nat.le_refl _) rfl (by first | assumption | rfl | omega) rfl (by first | assumption | rfl | omega) (Nat.le_of_ble_eq_true rfl) dX12_lineNow_136 (fun v136 I136 h136 => ?_)
              obtain ⟨e136, rfl⟩ := h136
              refine g_if_eq C (pc := 139) 158 dX12_lineNow_139 (by decide) (fun c139 => ?_) (fun c139 => ?_)
              · have z2 : ¬ isN tb 2 f9 e9 = true := fun h => bI_0.mp (e136.symm.trans c139) ((nmL_2 heL htt).mp h).1
                refine g_bipush C (pc := 158) (-4) dX12_lineNow_158 (by decide) ?_
                refine g_iret C hR (pc := 160) rfl dX12_lineNow_160 ?_
                refine ⟨rfl, _, rfl, ?_⟩
                refine ⟨?_, rfl⟩
                first
                | (rw [if_pos y0]; done)
                | (rw [if_neg z0, if_pos y3]; done)
                | (rw [if_neg z0, if_neg z3, if_pos y4]; done)
                | (rw [if_neg z0, if_neg z3, if_neg z4, if_pos y1]; done)
                | (rw [if_neg z0, if_neg z3, if_neg z4, if_neg z1, if_pos y2]; done)
                | (rw [if_neg z0, if_neg z3, if_neg z4, if_neg z1, if_neg z2]; done)
              · refine g_aload_n C (pc := 142) dX12_lineNow_142 0 rfl ?_
                refine g_bipush C (pc := 143) 99 dX12_lineNow_143 (by decide) ?_
                refine g_bipush C (pc := 145) 101 dX12_lineNow_145 (by decide) ?_
                refine g_iconst C (pc := 147) 0 dX12_lineNow_147 (by decide) ?_
                refine g_callVI C (pc := 148) mf_X12_ends lk_RX12_137 (c_X12_ends n ρ I L tb f9 _ _ _ hn9 hms htb hfr (by omega)) (by decide) (Nat.le_refl _) rfl (by first | assumption | rfl | omega) rfl (by first | assumption | rfl | omega) (Nat.le_of_ble_eq_true rfl) dX12_lineNow_148 (fun v148 I148 h148 => ?_)
                obtain ⟨e148, rfl⟩ := h148
                refine g_if_eq C (pc := 151) 158 dX12_lineNow_151 (by decide) (fun c151 => ?_) (fun c151 => ?_)
                · have z2 : ¬ isN tb 2 f9 e9 = true := fun h => bI_0.mp (e148.symm.trans c151) ((nmL_2 heL htt).mp h).2
                  refine g_bipush C (pc := 158) (-4) dX12_lineNow_158 (by decide) ?_
                  refine g_iret C hR (pc := 160) rfl dX12_lineNow_160 ?_
                  refine ⟨rfl, _, rfl, ?_⟩
                  refine ⟨?_, rfl⟩
                  first
                  | (rw [if_pos y0]; done)
                  | (rw [if_neg z0, if_pos y3]; done)
                  | (rw [if_neg z0, if_neg z3, if_pos y4]; done)
                  | (rw [if_neg z0, if_neg z3, if_neg z4, if_pos y1]; done)
                  | (rw [if_neg z0, if_neg z3, if_neg z4, if_neg z1, if_pos y2]; done)
                  | (rw [if_neg z0, if_neg z3, if_neg z4, if_neg z1, if_neg z2]; done)
                · have y2 : isN tb 2 f9 e9 = true := (nmL_2 heL htt).mpr ⟨bI_1.mp (fun h => c139 (e136.trans h)), bI_1.mp (fun h => c151 (e148.trans h))⟩
                  refine g_iconst C (pc := 154) 4 dX12_lineNow_154 (by decide) ?_
                  refine g_goto C (pc := 155) 160 dX12_lineNow_155 (by decide) ?_
                  refine g_iret C hR (pc := 160) rfl dX12_lineNow_160 ?_
                  refine ⟨rfl, _, rfl, ?_⟩
                  refine ⟨?_, rfl⟩
                  first
                  | (rw [if_pos y0]; done)
                  | (rw [if_neg z0, if_pos y3]; done)
                  | (rw [if_neg z0, if_neg z3, if_pos y4]; done)
                  | (rw [if_neg z0, if_neg z3, if_neg z4, if_pos y1]; done)
                  | (rw [if_neg z0, if_neg z3, if_neg z4, if_neg z1, if_pos y2]; done)
                  | (rw [if_neg z0, if_neg z3, if_neg z4, if_neg z1, if_neg z2]; done)
            · refine g_aload_n C (pc := 97) dX12_lineNow_97 0 rfl ?_
              refine g_bipush C (pc := 98) 101 dX12_lineNow_98 (by decide) ?_
              refine g_bipush C (pc := 100) 112 dX12_lineNow_100 (by decide) ?_
              refine g_bipush C (pc := 102) 108 dX12_lineNow_102 (by decide) ?_
              refine g_callVI C (pc := 104) mf_X12_ends lk_RX12_137 (c_X12_ends n ρ I L tb f9 _ _ _ hn9 hms htb hfr (by omega)) (by decide) (Nat.le_refl _) rfl (by first | assumption | rfl | omega) rfl (by first | assumption | rfl | omega) (Nat.le_of_ble_eq_true rfl) dX12_lineNow_104 (fun v104 I104 h104 => ?_)
              obtain ⟨e104, rfl⟩ := h104
              refine g_if_eq C (pc := 107) 128 dX12_lineNow_107 (by decide) (fun c107 => ?_) (fun c107 => ?_)
              · have z1 : ¬ isN tb 1 f9 e9 = true := fun h => bI_0.mp (e104.symm.trans c107) ((nmL_1 heL htt).mp h).2.1
                refine g_aload_n C (pc := 128) dX12_lineNow_128 0 rfl ?_
                refine g_iconst C (pc := 129) 5 dX12_lineNow_129 (by decide) ?_
                refine g_bipush C (pc := 130) 112 dX12_lineNow_130 (by decide) ?_
                refine g_bipush C (pc := 132) 105 dX12_lineNow_132 (by decide) ?_
                refine g_bipush C (pc := 134) 101 dX12_lineNow_134 (by decide) ?_
                refine g_callVI C (pc := 136) mf_X12_is lk_RX12_133 (c_X12_is n ρ I L tb e9 f9 5 _ _ _ _ hn9 hms htb hpo hfr hfe (by omega) rfl (by decide)) (by decide) (Nat.le_refl _) rfl (by first | assumption | rfl | omega) rfl (by first | assumption | rfl | omega) (Nat.le_of_ble_eq_true rfl) dX12_lineNow_136 (fun v136 I136 h136 => ?_)
                obtain ⟨e136, rfl⟩ := h136
                refine g_if_eq C (pc := 139) 158 dX12_lineNow_139 (by decide) (fun c139 => ?_) (fun c139 => ?_)
                · have z2 : ¬ isN tb 2 f9 e9 = true := fun h => bI_0.mp (e136.symm.trans c139) ((nmL_2 heL htt).mp h).1
                  refine g_bipush C (pc := 158) (-4) dX12_lineNow_158 (by decide) ?_
                  refine g_iret C hR (pc := 160) rfl dX12_lineNow_160 ?_
                  refine ⟨rfl, _, rfl, ?_⟩
                  refine ⟨?_, rfl⟩
                  first
                  | (rw [if_pos y0]; done)
                  | (rw [if_neg z0, if_pos y3]; done)
                  | (rw [if_neg z0, if_neg z3, if_pos y4]; done)
                  | (rw [if_neg z0, if_neg z3, if_neg z4, if_pos y1]; done)
                  | (rw [if_neg z0, if_neg z3, if_neg z4, if_neg z1, if_pos y2]; done)
                  | (rw [if_neg z0, if_neg z3, if_neg z4, if_neg z1, if_neg z2]; done)
                · refine g_aload_n C (pc := 142) dX12_lineNow_142 0 rfl ?_
                  refine g_bipush C (pc := 143) 99 dX12_lineNow_143 (by decide) ?_
                  refine g_bipush C (pc := 145) 101 dX12_lineNow_145 (by decide) ?_
                  refine g_iconst C (pc := 147) 0 dX12_lineNow_147 (by decide) ?_
                  refine g_callVI C (pc := 148) mf_X12_ends lk_RX12_137 (c_X12_ends n ρ I L tb f9 _ _ _ hn9 hms htb hfr (by omega)) (by decide) (Nat.le_refl _) rfl (by first | assumption | rfl | omega) rfl (by first | assumption | rfl | omega) (Nat.le_of_ble_eq_true rfl) dX12_lineNow_148 (fun v148 I148 h148 => ?_)
                  obtain ⟨e148, rfl⟩ := h148
                  refine g_if_eq C (pc := 151) 158 dX12_lineNow_151 (by decide) (fun c151 => ?_) (fun c151 => ?_)
                  · have z2 : ¬ isN tb 2 f9 e9 = true := fun h => bI_0.mp (e148.symm.trans c151) ((nmL_2 heL htt).mp h).2
                    refine g_bipush C (pc := 158) (-4) dX12_lineNow_158 (by decide) ?_
                    refine g_iret C hR (pc := 160) rfl dX12_lineNow_160 ?_
                    refine ⟨rfl, _, rfl, ?_⟩
                    refine ⟨?_, rfl⟩
                    first
                    | (rw [if_pos y0]; done)
                    | (rw [if_neg z0, if_pos y3]; done)
                    | (rw [if_neg z0, if_neg z3, if_pos y4]; done)
                    | (rw [if_neg z0, if_neg z3, if_neg z4, if_pos y1]; done)
                    | (rw [if_neg z0, if_neg z3, if_neg z4, if_neg z1, if_pos y2]; done)
                    | (rw [if_neg z0, if_neg z3, if_neg z4, if_neg z1, if_neg z2]; done)
                  · have y2 : isN tb 2 f9 e9 = true := (nmL_2 heL htt).mpr ⟨bI_1.mp (fun h => c139 (e136.trans h)), bI_1.mp (fun h => c151 (e148.trans h))⟩
                    refine g_iconst C (pc := 154) 4 dX12_lineNow_154 (by decide) ?_
                    refine g_goto C (pc := 155) 160 dX12_lineNow_155 (by decide) ?_
                    refine g_iret C hR (pc := 160) rfl dX12_lineNow_160 ?_
                    refine ⟨rfl, _, rfl, ?_⟩
                    refine ⟨?_, rfl⟩
                    first
                    | (rw [if_pos y0]; done)
                    | (rw [if_neg z0, if_pos y3]; done)
                    | (rw [if_neg z0, if_neg z3, if_pos y4]; done)
                    | (rw [if_neg z0, if_neg z3, if_neg z4, if_pos y1]; done)
                    | (rw [if_neg z0, if_neg z3, if_neg z4, if_neg z1, if_pos y2]; done)
                    | (rw [if_neg z0, if_neg z3, if_neg z4, if_neg z1, if_neg z2]; done)
              · refine g_aload_n C (pc := 110) dX12_lineNow_110 0 rfl ?_
                refine g_aload_n C (pc := 111) dX12_lineNow_111 0 rfl ?_
                refine g_getI C (pc := 112) fl_RX12_120 (by decide) (by first | assumption | rfl | omega) (by first | assumption | rfl | omega) dX12_lineNow_112 ?_
                refine g_bipush C (pc := 115) 6 dX12_lineNow_115 (by decide) ?_
                refine g_iadd C (pc := 117) dX12_lineNow_117 ?_
                refine g_callVI C (pc := 118) mf_X12_look lk_RX12_129 (c_X12_look n ρ I L tb (f9 + 6) _ hn9 hms htb (by omega) (by rw [hfr, show (6 : Int32) = nI 6 from rfl, nI_add])) (by decide) (Nat.le_refl _) rfl (by first | assumption | rfl | omega) rfl (by first | assumption | rfl | omega) (Nat.le_of_ble_eq_true rfl) dX12_lineNow_118 (fun v118 I118 h118 => ?_)
                obtain ⟨e118, rfl⟩ := h118
                refine g_bipush C (pc := 121) 101 dX12_lineNow_121 (by decide) ?_
                refine g_icmp_ne C (pc := 123) 128 dX12_lineNow_123 (by decide) (fun c123 => ?_) (fun c123 => ?_)
                · have z1 : ¬ isN tb 1 f9 e9 = true := fun h => c123 (e118.trans ((nmL_1 heL htt).mp h).2.2)
                  refine g_aload_n C (pc := 128) dX12_lineNow_128 0 rfl ?_
                  refine g_iconst C (pc := 129) 5 dX12_lineNow_129 (by decide) ?_
                  refine g_bipush C (pc := 130) 112 dX12_lineNow_130 (by decide) ?_
                  refine g_bipush C (pc := 132) 105 dX12_lineNow_132 (by decide) ?_
                  refine g_bipush C (pc := 134) 101 dX12_lineNow_134 (by decide) ?_
                  refine g_callVI C (pc := 136) mf_X12_is lk_RX12_133 (c_X12_is n ρ I L tb e9 f9 5 _ _ _ _ hn9 hms htb hpo hfr hfe (by omega) rfl (by decide)) (by decide) (Nat.le_refl _) rfl (by first | assumption | rfl | omega) rfl (by first | assumption | rfl | omega) (Nat.le_of_ble_eq_true rfl) dX12_lineNow_136 (fun v136 I136 h136 => ?_)
                  obtain ⟨e136, rfl⟩ := h136
                  refine g_if_eq C (pc := 139) 158 dX12_lineNow_139 (by decide) (fun c139 => ?_) (fun c139 => ?_)
                  · have z2 : ¬ isN tb 2 f9 e9 = true := fun h => bI_0.mp (e136.symm.trans c139) ((nmL_2 heL htt).mp h).1
                    refine g_bipush C (pc := 158) (-4) dX12_lineNow_158 (by decide) ?_
                    refine g_iret C hR (pc := 160) rfl dX12_lineNow_160 ?_
                    refine ⟨rfl, _, rfl, ?_⟩
                    refine ⟨?_, rfl⟩
                    first
                    | (rw [if_pos y0]; done)
                    | (rw [if_neg z0, if_pos y3]; done)
                    | (rw [if_neg z0, if_neg z3, if_pos y4]; done)
                    | (rw [if_neg z0, if_neg z3, if_neg z4, if_pos y1]; done)
                    | (rw [if_neg z0, if_neg z3, if_neg z4, if_neg z1, if_pos y2]; done)
                    | (rw [if_neg z0, if_neg z3, if_neg z4, if_neg z1, if_neg z2]; done)
                  · refine g_aload_n C (pc := 142) dX12_lineNow_142 0 rfl ?_
                    refine g_bipush C (pc := 143) 99 dX12_lineNow_143 (by decide) ?_
                    refine g_bipush C (pc := 145) 101 dX12_lineNow_145 (by decide) ?_
                    refine g_iconst C (pc := 147) 0 dX12_lineNow_147 (by decide) ?_
                    refine g_callVI C (pc := 148) mf_X12_ends lk_RX12_137 (c_X12_ends n ρ I L tb f9 _ _ _ hn9 hms htb hfr (by omega)) (by decide) (Nat.le_refl _) rfl (by first | assumption | rfl | omega) rfl (by first | assumption | rfl | omega) (Nat.le_of_ble_eq_true rfl) dX12_lineNow_148 (fun v148 I148 h148 => ?_)
                    obtain ⟨e148, rfl⟩ := h148
                    refine g_if_eq C (pc := 151) 158 dX12_lineNow_151 (by decide) (fun c151 => ?_) (fun c151 => ?_)
                    · have z2 : ¬ isN tb 2 f9 e9 = true := fun h => bI_0.mp (e148.symm.trans c151) ((nmL_2 heL htt).mp h).2
                      refine g_bipush C (pc := 158) (-4) dX12_lineNow_158 (by decide) ?_
                      refine g_iret C hR (pc := 160) rfl dX12_lineNow_160 ?_
                      refine ⟨rfl, _, rfl, ?_⟩
                      refine ⟨?_, rfl⟩
                      first
                      | (rw [if_pos y0]; done)
                      | (rw [if_neg z0, if_pos y3]; done)
                      | (rw [if_neg z0, if_neg z3, if_pos y4]; done)
                      | (rw [if_neg z0, if_neg z3, if_neg z4, if_pos y1]; done)
                      | (rw [if_neg z0, if_neg z3, if_neg z4, if_neg z1, if_pos y2]; done)
                      | (rw [if_neg z0, if_neg z3, if_neg z4, if_neg z1, if_neg z2]; done)
                    · have y2 : isN tb 2 f9 e9 = true := (nmL_2 heL htt).mpr ⟨bI_1.mp (fun h => c139 (e136.trans h)), bI_1.mp (fun h => c151 (e148.trans h))⟩
                      refine g_iconst C (pc := 154) 4 dX12_lineNow_154 (by decide) ?_
                      refine g_goto C (pc := 155) 160 dX12_lineNow_155 (by decide) ?_
                      refine g_iret C hR (pc := 160) rfl dX12_lineNow_160 ?_
                      refine ⟨rfl, _, rfl, ?_⟩
                      refine ⟨?_, rfl⟩
                      first
                      | (rw [if_pos y0]; done)
                      | (rw [if_neg z0, if_pos y3]; done)
                      | (rw [if_neg z0, if_neg z3, if_pos y4]; done)
                      | (rw [if_neg z0, if_neg z3, if_neg z4, if_pos y1]; done)
                      | (rw [if_neg z0, if_neg z3, if_neg z4, if_neg z1, if_pos y2]; done)
                      | (rw [if_neg z0, if_neg z3, if_neg z4, if_neg z1, if_neg z2]; done)
                · have y1 : isN tb 1 f9 e9 = true := (nmL_1 heL htt).mpr ⟨bI_1.mp (fun h => c94 (e91.trans h)), bI_1.mp (fun h => c107 (e104.trans h)), e118.symm.trans c123⟩
                  refine g_iconst C (pc := 126) 3 dX12_lineNow_126 (by decide) ?_
                  refine g_iret C hR (pc := 127) rfl dX12_lineNow_127 ?_
                  refine ⟨rfl, _, rfl, ?_⟩
                  refine ⟨?_, rfl⟩
                  first
                  | (rw [if_pos y0]; done)
                  | (rw [if_neg z0, if_pos y3]; done)
                  | (rw [if_neg z0, if_neg z3, if_pos y4]; done)
                  | (rw [if_neg z0, if_neg z3, if_neg z4, if_pos y1]; done)
                  | (rw [if_neg z0, if_neg z3, if_neg z4, if_neg z1, if_pos y2]; done)
                  | (rw [if_neg z0, if_neg z3, if_neg z4, if_neg z1, if_neg z2]; done)
          · refine g_aload_n C (pc := 69) dX12_lineNow_69 0 rfl ?_
            refine g_bipush C (pc := 70) 110 dX12_lineNow_70 (by decide) ?_
            refine g_iconst C (pc := 72) 0 dX12_lineNow_72 (by decide) ?_
            refine g_iconst C (pc := 73) 0 dX12_lineNow_73 (by decide) ?_
            refine g_callVI C (pc := 74) mf_X12_ends lk_RX12_137 (c_X12_ends n ρ I L tb f9 _ _ _ hn9 hms htb hfr (by omega)) (by decide) (Nat.le_refl _) rfl (by first | assumption | rfl | omega) rfl (by first | assumption | rfl | omega) (Nat.le_of_ble_eq_true rfl) dX12_lineNow_74 (fun v74 I74 h74 => ?_)
            obtain ⟨e74, rfl⟩ := h74
            refine g_if_eq C (pc := 77) 82 dX12_lineNow_77 (by decide) (fun c77 => ?_) (fun c77 => ?_)
            · have z4 : ¬ isN tb 4 f9 e9 = true := fun h => bI_0.mp (e74.symm.trans c77) ((nmL_4 heL htt).mp h).2
              refine g_aload_n C (pc := 82) dX12_lineNow_82 0 rfl ?_
              refine g_bipush C (pc := 83) 7 dX12_lineNow_83 (by decide) ?_
              refine g_bipush C (pc := 85) 115 dX12_lineNow_85 (by decide) ?_
              refine g_bipush C (pc := 87) 116 dX12_lineNow_87 (by decide) ?_
              refine g_bipush C (pc := 89) 101 dX12_lineNow_89 (by decide) ?_
              refine g_callVI C (pc := 91) mf_X12_is lk_RX12_133 (c_X12_is n ρ I L tb e9 f9 7 _ _ _ _ hn9 hms htb hpo hfr hfe (by omega) rfl (by decide)) (by decide) (Nat.le_refl _) rfl (by first | assumption | rfl | omega) rfl (by first | assumption | rfl | omega) (Nat.le_of_ble_eq_true rfl) dX12_lineNow_91 (fun v91 I91 h91 => ?_)
              obtain ⟨e91, rfl⟩ := h91
              refine g_if_eq C (pc := 94) 128 dX12_lineNow_94 (by decide) (fun c94 => ?_) (fun c94 => ?_)
              · have z1 : ¬ isN tb 1 f9 e9 = true := fun h => bI_0.mp (e91.symm.trans c94) ((nmL_1 heL htt).mp h).1
                refine g_aload_n C (pc := 128) dX12_lineNow_128 0 rfl ?_
                refine g_iconst C (pc := 129) 5 dX12_lineNow_129 (by decide) ?_
                refine g_bipush C (pc := 130) 112 dX12_lineNow_130 (by decide) ?_
                refine g_bipush C (pc := 132) 105 dX12_lineNow_132 (by decide) ?_
                refine g_bipush C (pc := 134) 101 dX12_lineNow_134 (by decide) ?_
                refine g_callVI C (pc := 136) mf_X12_is lk_RX12_133 (c_X12_is n ρ I L tb e9 f9 5 _ _ _ _ hn9 hms htb hpo hfr hfe (by omega) rfl (by decide)) (by decide) (Nat.le_refl _) rfl (by first | assumption | rfl | omega) rfl (by first | assumption | rfl | omega) (Nat.le_of_ble_eq_true rfl) dX12_lineNow_136 (fun v136 I136 h136 => ?_)
                obtain ⟨e136, rfl⟩ := h136
                refine g_if_eq C (pc := 139) 158 dX12_lineNow_139 (by decide) (fun c139 => ?_) (fun c139 => ?_)
                · have z2 : ¬ isN tb 2 f9 e9 = true := fun h => bI_0.mp (e136.symm.trans c139) ((nmL_2 heL htt).mp h).1
                  refine g_bipush C (pc := 158) (-4) dX12_lineNow_158 (by decide) ?_
                  refine g_iret C hR (pc := 160) rfl dX12_lineNow_160 ?_
                  refine ⟨rfl, _, rfl, ?_⟩
                  refine ⟨?_, rfl⟩
                  first
                  | (rw [if_pos y0]; done)
                  | (rw [if_neg z0, if_pos y3]; done)
                  | (rw [if_neg z0, if_neg z3, if_pos y4]; done)
                  | (rw [if_neg z0, if_neg z3, if_neg z4, if_pos y1]; done)
                  | (rw [if_neg z0, if_neg z3, if_neg z4, if_neg z1, if_pos y2]; done)
                  | (rw [if_neg z0, if_neg z3, if_neg z4, if_neg z1, if_neg z2]; done)
                · refine g_aload_n C (pc := 142) dX12_lineNow_142 0 rfl ?_
                  refine g_bipush C (pc := 143) 99 dX12_lineNow_143 (by decide) ?_
                  refine g_bipush C (pc := 145) 101 dX12_lineNow_145 (by decide) ?_
                  refine g_iconst C (pc := 147) 0 dX12_lineNow_147 (by decide) ?_
                  refine g_callVI C (pc := 148) mf_X12_ends lk_RX12_137 (c_X12_ends n ρ I L tb f9 _ _ _ hn9 hms htb hfr (by omega)) (by decide) (Nat.le_refl _) rfl (by first | assumption | rfl | omega) rfl (by first | assumption | rfl | omega) (Nat.le_of_ble_eq_true rfl) dX12_lineNow_148 (fun v148 I148 h148 => ?_)
                  obtain ⟨e148, rfl⟩ := h148
                  refine g_if_eq C (pc := 151) 158 dX12_lineNow_151 (by decide) (fun c151 => ?_) (fun c151 => ?_)
                  · have z2 : ¬ isN tb 2 f9 e9 = true := fun h => bI_0.mp (e148.symm.trans c151) ((nmL_2 heL htt).mp h).2
                    refine g_bipush C (pc := 158) (-4) dX12_lineNow_158 (by decide) ?_
                    refine g_iret C hR (pc := 160) rfl dX12_lineNow_160 ?_
                    refine ⟨rfl, _, rfl, ?_⟩
                    refine ⟨?_, rfl⟩
                    first
                    | (rw [if_pos y0]; done)
                    | (rw [if_neg z0, if_pos y3]; done)
                    | (rw [if_neg z0, if_neg z3, if_pos y4]; done)
                    | (rw [if_neg z0, if_neg z3, if_neg z4, if_pos y1]; done)
                    | (rw [if_neg z0, if_neg z3, if_neg z4, if_neg z1, if_pos y2]; done)
                    | (rw [if_neg z0, if_neg z3, if_neg z4, if_neg z1, if_neg z2]; done)
                  · have y2 : isN tb 2 f9 e9 = true := (nmL_2 heL htt).mpr ⟨bI_1.mp (fun h => c139 (e136.trans h)), bI_1.mp (fun h => c151 (e148.trans h))⟩
                    refine g_iconst C (pc := 154) 4 dX12_lineNow_154 (by decide) ?_
                    refine g_goto C (pc := 155) 160 dX12_lineNow_155 (by decide) ?_
                    refine g_iret C hR (pc := 160) rfl dX12_lineNow_160 ?_
                    refine ⟨rfl, _, rfl, ?_⟩
                    refine ⟨?_, rfl⟩
                    first
                    | (rw [if_pos y0]; done)
                    | (rw [if_neg z0, if_pos y3]; done)
                    | (rw [if_neg z0, if_neg z3, if_pos y4]; done)
                    | (rw [if_neg z0, if_neg z3, if_neg z4, if_pos y1]; done)
                    | (rw [if_neg z0, if_neg z3, if_neg z4, if_neg z1, if_pos y2]; done)
                    | (rw [if_neg z0, if_neg z3, if_neg z4, if_neg z1, if_neg z2]; done)
              · refine g_aload_n C (pc := 97) dX12_lineNow_97 0 rfl ?_
                refine g_bipush C (pc := 98) 101 dX12_lineNow_98 (by decide) ?_
                refine g_bipush C (pc := 100) 112 dX12_lineNow_100 (by decide) ?_
                refine g_bipush C (pc := 102) 108 dX12_lineNow_102 (by decide) ?_
                refine g_callVI C (pc := 104) mf_X12_ends lk_RX12_137 (c_X12_ends n ρ I L tb f9 _ _ _ hn9 hms htb hfr (by omega)) (by decide) (Nat.le_refl _) rfl (by first | assumption | rfl | omega) rfl (by first | assumption | rfl | omega) (Nat.le_of_ble_eq_true rfl) dX12_lineNow_104 (fun v104 I104 h104 => ?_)
                obtain ⟨e104, rfl⟩ := h104
                refine g_if_eq C (pc := 107) 128 dX12_lineNow_107 (by decide) (fun c107 => ?_) (fun c107 => ?_)
                · have z1 : ¬ isN tb 1 f9 e9 = true := fun h => bI_0.mp (e104.symm.trans c107) ((nmL_1 heL htt).mp h).2.1
                  refine g_aload_n C (pc := 128) dX12_lineNow_128 0 rfl ?_
                  refine g_iconst C (pc := 129) 5 dX12_lineNow_129 (by decide) ?_
                  refine g_bipush C (pc := 130) 112 dX12_lineNow_130 (by decide) ?_
                  refine g_bipush C (pc := 132) 105 dX12_lineNow_132 (by decide) ?_
                  refine g_bipush C (pc := 134) 101 dX12_lineNow_134 (by decide) ?_
                  refine g_callVI C (pc := 136) mf_X12_is lk_RX12_133 (c_X12_is n ρ I L tb e9 f9 5 _ _ _ _ hn9 hms htb hpo hfr hfe (by omega) rfl (by decide)) (by decide) (Nat.le_refl _) rfl (by first | assumption | rfl | omega) rfl (by first | assumption | rfl | omega) (Nat.le_of_ble_eq_true rfl) dX12_lineNow_136 (fun v136 I136 h136 => ?_)
                  obtain ⟨e136, rfl⟩ := h136
                  refine g_if_eq C (pc := 139) 158 dX12_lineNow_139 (by decide) (fun c139 => ?_) (fun c139 => ?_)
                  · have z2 : ¬ isN tb 2 f9 e9 = true := fun h => bI_0.mp (e136.symm.trans c139) ((nmL_2 heL htt).mp h).1
                    refine g_bipush C (pc := 158) (-4) dX12_lineNow_158 (by decide) ?_
                    refine g_iret C hR (pc := 160) rfl dX12_lineNow_160 ?_
                    refine ⟨rfl, _, rfl, ?_⟩
                    refine ⟨?_, rfl⟩
                    first
                    | (rw [if_pos y0]; done)
                    | (rw [if_neg z0, if_pos y3]; done)
                    | (rw [if_neg z0, if_neg z3, if_pos y4]; done)
                    | (rw [if_neg z0, if_neg z3, if_neg z4, if_pos y1]; done)
                    | (rw [if_neg z0, if_neg z3, if_neg z4, if_neg z1, if_pos y2]; done)
                    | (rw [if_neg z0, if_neg z3, if_neg z4, if_neg z1, if_neg z2]; done)
                  · refine g_aload_n C (pc := 142) dX12_lineNow_142 0 rfl ?_
                    refine g_bipush C (pc := 143) 99 dX12_lineNow_143 (by decide) ?_
                    refine g_bipush C (pc := 145) 101 dX12_lineNow_145 (by decide) ?_
                    refine g_iconst C (pc := 147) 0 dX12_lineNow_147 (by decide) ?_
                    refine g_callVI C (pc := 148) mf_X12_ends lk_RX12_137 (c_X12_ends n ρ I L tb f9 _ _ _ hn9 hms htb hfr (by omega)) (by decide) (Nat.le_refl _) rfl (by first | assumption | rfl | omega) rfl (by first | assumption | rfl | omega) (Nat.le_of_ble_eq_true rfl) dX12_lineNow_148 (fun v148 I148 h148 => ?_)
                    obtain ⟨e148, rfl⟩ := h148
                    refine g_if_eq C (pc := 151) 158 dX12_lineNow_151 (by decide) (fun c151 => ?_) (fun c151 => ?_)
                    · have z2 : ¬ isN tb 2 f9 e9 = true := fun h => bI_0.mp (e148.symm.trans c151) ((nmL_2 heL htt).mp h).2
                      refine g_bipush C (pc := 158) (-4) dX12_lineNow_158 (by decide) ?_
                      refine g_iret C hR (pc := 160) rfl dX12_lineNow_160 ?_
                      refine ⟨rfl, _, rfl, ?_⟩
                      refine ⟨?_, rfl⟩
                      first
                      | (rw [if_pos y0]; done)
                      | (rw [if_neg z0, if_pos y3]; done)
                      | (rw [if_neg z0, if_neg z3, if_pos y4]; done)
                      | (rw [if_neg z0, if_neg z3, if_neg z4, if_pos y1]; done)
                      | (rw [if_neg z0, if_neg z3, if_neg z4, if_neg z1, if_pos y2]; done)
                      | (rw [if_neg z0, if_neg z3, if_neg z4, if_neg z1, if_neg z2]; done)
                    · have y2 : isN tb 2 f9 e9 = true := (nmL_2 heL htt).mpr ⟨bI_1.mp (fun h => c139 (e136.trans h)), bI_1.mp (fun h => c151 (e148.trans h))⟩
                      refine g_iconst C (pc := 154) 4 dX12_lineNow_154 (by decide) ?_
                      refine g_goto C (pc := 155) 160 dX12_lineNow_155 (by decide) ?_
                      refine g_iret C hR (pc := 160) rfl dX12_lineNow_160 ?_
                      refine ⟨rfl, _, rfl, ?_⟩
                      refine ⟨?_, rfl⟩
                      first
                      | (rw [if_pos y0]; done)
                      | (rw [if_neg z0, if_pos y3]; done)
                      | (rw [if_neg z0, if_neg z3, if_pos y4]; done)
                      | (rw [if_neg z0, if_neg z3, if_neg z4, if_pos y1]; done)
                      | (rw [if_neg z0, if_neg z3, if_neg z4, if_neg z1, if_pos y2]; done)
                      | (rw [if_neg z0, if_neg z3, if_neg z4, if_neg z1, if_neg z2]; done)
                · refine g_aload_n C (pc := 110) dX12_lineNow_110 0 rfl ?_
                  refine g_aload_n C (pc := 111) dX12_lineNow_111 0 rfl ?_
                  refine g_getI C (pc := 112) fl_RX12_120 (by decide) (by first | assumption | rfl | omega) (by first | assumption | rfl | omega) dX12_lineNow_112 ?_
                  refine g_bipush C (pc := 115) 6 dX12_lineNow_115 (by decide) ?_
                  refine g_iadd C (pc := 117) dX12_lineNow_117 ?_
                  refine g_callVI C (pc := 118) mf_X12_look lk_RX12_129 (c_X12_look n ρ I L tb (f9 + 6) _ hn9 hms htb (by omega) (by rw [hfr, show (6 : Int32) = nI 6 from rfl, nI_add])) (by decide) (Nat.le_refl _) rfl (by first | assumption | rfl | omega) rfl (by first | assumption | rfl | omega) (Nat.le_of_ble_eq_true rfl) dX12_lineNow_118 (fun v118 I118 h118 => ?_)
                  obtain ⟨e118, rfl⟩ := h118
                  refine g_bipush C (pc := 121) 101 dX12_lineNow_121 (by decide) ?_
                  refine g_icmp_ne C (pc := 123) 128 dX12_lineNow_123 (by decide) (fun c123 => ?_) (fun c123 => ?_)
                  · have z1 : ¬ isN tb 1 f9 e9 = true := fun h => c123 (e118.trans ((nmL_1 heL htt).mp h).2.2)
                    refine g_aload_n C (pc := 128) dX12_lineNow_128 0 rfl ?_
                    refine g_iconst C (pc := 129) 5 dX12_lineNow_129 (by decide) ?_
                    refine g_bipush C (pc := 130) 112 dX12_lineNow_130 (by decide) ?_
                    refine g_bipush C (pc := 132) 105 dX12_lineNow_132 (by decide) ?_
                    refine g_bipush C (pc := 134) 101 dX12_lineNow_134 (by decide) ?_
                    refine g_callVI C (pc := 136) mf_X12_is lk_RX12_133 (c_X12_is n ρ I L tb e9 f9 5 _ _ _ _ hn9 hms htb hpo hfr hfe (by omega) rfl (by decide)) (by decide) (Nat.le_refl _) rfl (by first | assumption | rfl | omega) rfl (by first | assumption | rfl | omega) (Nat.le_of_ble_eq_true rfl) dX12_lineNow_136 (fun v136 I136 h136 => ?_)
                    obtain ⟨e136, rfl⟩ := h136
                    refine g_if_eq C (pc := 139) 158 dX12_lineNow_139 (by decide) (fun c139 => ?_) (fun c139 => ?_)
                    · have z2 : ¬ isN tb 2 f9 e9 = true := fun h => bI_0.mp (e136.symm.trans c139) ((nmL_2 heL htt).mp h).1
                      refine g_bipush C (pc := 158) (-4) dX12_lineNow_158 (by decide) ?_
                      refine g_iret C hR (pc := 160) rfl dX12_lineNow_160 ?_
                      refine ⟨rfl, _, rfl, ?_⟩
                      refine ⟨?_, rfl⟩
                      first
                      | (rw [if_pos y0]; done)
                      | (rw [if_neg z0, if_pos y3]; done)
                      | (rw [if_neg z0, if_neg z3, if_pos y4]; done)
                      | (rw [if_neg z0, if_neg z3, if_neg z4, if_pos y1]; done)
                      | (rw [if_neg z0, if_neg z3, if_neg z4, if_neg z1, if_pos y2]; done)
                      | (rw [if_neg z0, if_neg z3, if_neg z4, if_neg z1, if_neg z2]; done)
                    · refine g_aload_n C (pc := 142) dX12_lineNow_142 0 rfl ?_
                      refine g_bipush C (pc := 143) 99 dX12_lineNow_143 (by decide) ?_
                      refine g_bipush C (pc := 145) 101 dX12_lineNow_145 (by decide) ?_
                      refine g_iconst C (pc := 147) 0 dX12_lineNow_147 (by decide) ?_
                      refine g_callVI C (pc := 148) mf_X12_ends lk_RX12_137 (c_X12_ends n ρ I L tb f9 _ _ _ hn9 hms htb hfr (by omega)) (by decide) (Nat.le_refl _) rfl (by first | assumption | rfl | omega) rfl (by first | assumption | rfl | omega) (Nat.le_of_ble_eq_true rfl) dX12_lineNow_148 (fun v148 I148 h148 => ?_)
                      obtain ⟨e148, rfl⟩ := h148
                      refine g_if_eq C (pc := 151) 158 dX12_lineNow_151 (by decide) (fun c151 => ?_) (fun c151 => ?_)
                      · have z2 : ¬ isN tb 2 f9 e9 = true := fun h => bI_0.mp (e148.symm.trans c151) ((nmL_2 heL htt).mp h).2
                        refine g_bipush C (pc := 158) (-4) dX12_lineNow_158 (by decide) ?_
                        refine g_iret C hR (pc := 160) rfl dX12_lineNow_160 ?_
                        refine ⟨rfl, _, rfl, ?_⟩
                        refine ⟨?_, rfl⟩
                        first
                        | (rw [if_pos y0]; done)
                        | (rw [if_neg z0, if_pos y3]; done)
                        | (rw [if_neg z0, if_neg z3, if_pos y4]; done)
                        | (rw [if_neg z0, if_neg z3, if_neg z4, if_pos y1]; done)
                        | (rw [if_neg z0, if_neg z3, if_neg z4, if_neg z1, if_pos y2]; done)
                        | (rw [if_neg z0, if_neg z3, if_neg z4, if_neg z1, if_neg z2]; done)
                      · have y2 : isN tb 2 f9 e9 = true := (nmL_2 heL htt).mpr ⟨bI_1.mp (fun h => c139 (e136.trans h)), bI_1.mp (fun h => c151 (e148.trans h))⟩
                        refine g_iconst C (pc := 154) 4 dX12_lineNow_154 (by decide) ?_
                        refine g_goto C (pc := 155) 160 dX12_lineNow_155 (by decide) ?_
                        refine g_iret C hR (pc := 160) rfl dX12_lineNow_160 ?_
                        refine ⟨rfl, _, rfl, ?_⟩
                        refine ⟨?_, rfl⟩
                        first
                        | (rw [if_pos y0]; done)
                        | (rw [if_neg z0, if_pos y3]; done)
                        | (rw [if_neg z0, if_neg z3, if_pos y4]; done)
                        | (rw [if_neg z0, if_neg z3, if_neg z4, if_pos y1]; done)
                        | (rw [if_neg z0, if_neg z3, if_neg z4, if_neg z1, if_pos y2]; done)
                        | (rw [if_neg z0, if_neg z3, if_neg z4, if_neg z1, if_neg z2]; done)
                  · have y1 : isN tb 1 f9 e9 = true := (nmL_1 heL htt).mpr ⟨bI_1.mp (fun h => c94 (e91.trans h)), bI_1.mp (fun h => c107 (e104.trans h)), e118.symm.trans c123⟩
                    refine g_iconst C (pc := 126) 3 dX12_lineNow_126 (by decide) ?_
                    refine g_iret C hR (pc := 127) rfl dX12_lineNow_127 ?_
                    refine ⟨rfl, _, rfl, ?_⟩
                    refine ⟨?_, rfl⟩
                    first
                    | (rw [if_pos y0]; done)
                    | (rw [if_neg z0, if_pos y3]; done)
                    | (rw [if_neg z0, if_neg z3, if_pos y4]; done)
                    | (rw [if_neg z0, if_neg z3, if_neg z4, if_pos y1]; done)
                    | (rw [if_neg z0, if_neg z3, if_neg z4, if_neg z1, if_pos y2]; done)
                    | (rw [if_neg z0, if_neg z3, if_neg z4, if_neg z1, if_neg z2]; done)
            · have y4 : isN tb 4 f9 e9 = true := (nmL_4 heL htt).mpr ⟨bI_1.mp (fun h => c66 (e63.trans h)), bI_1.mp (fun h => c77 (e74.trans h))⟩
              refine g_iconst C (pc := 80) 2 dX12_lineNow_80 (by decide) ?_
              refine g_iret C hR (pc := 81) rfl dX12_lineNow_81 ?_
              refine ⟨rfl, _, rfl, ?_⟩
              refine ⟨?_, rfl⟩
              first
              | (rw [if_pos y0]; done)
              | (rw [if_neg z0, if_pos y3]; done)
              | (rw [if_neg z0, if_neg z3, if_pos y4]; done)
              | (rw [if_neg z0, if_neg z3, if_neg z4, if_pos y1]; done)
              | (rw [if_neg z0, if_neg z3, if_neg z4, if_neg z1, if_pos y2]; done)
              | (rw [if_neg z0, if_neg z3, if_neg z4, if_neg z1, if_neg z2]; done)
        · have y3 : isN tb 3 f9 e9 = true := (nmL_3 heL htt).mpr ⟨bI_1.mp (fun h => c39 (e36.trans h)), bI_1.mp (fun h => c50 (e47.trans h))⟩
          refine g_iconst C (pc := 53) 1 dX12_lineNow_53 (by decide) ?_
          refine g_iret C hR (pc := 54) rfl dX12_lineNow_54 ?_
          refine ⟨rfl, _, rfl, ?_⟩
          refine ⟨?_, rfl⟩
          first
          | (rw [if_pos y0]; done)
          | (rw [if_neg z0, if_pos y3]; done)
          | (rw [if_neg z0, if_neg z3, if_pos y4]; done)
          | (rw [if_neg z0, if_neg z3, if_neg z4, if_pos y1]; done)
          | (rw [if_neg z0, if_neg z3, if_neg z4, if_neg z1, if_pos y2]; done)
          | (rw [if_neg z0, if_neg z3, if_neg z4, if_neg z1, if_neg z2]; done)
    · have y0 : isN tb 0 f9 e9 = true := (nmL_0 heL htt).mpr ⟨bI_1.mp (fun h => c11 (e8.trans h)), bI_1.mp (fun h => c23 (e20.trans h))⟩
      refine g_iconst C (pc := 26) 0 dX12_lineNow_26 (by decide) ?_
      refine g_iret C hR (pc := 27) rfl dX12_lineNow_27 ?_
      refine ⟨rfl, _, rfl, ?_⟩
      refine ⟨?_, rfl⟩
      first
      | (rw [if_pos y0]; done)
      | (rw [if_neg z0, if_pos y3]; done)
      | (rw [if_neg z0, if_neg z3, if_pos y4]; done)
      | (rw [if_neg z0, if_neg z3, if_neg z4, if_pos y1]; done)
      | (rw [if_neg z0, if_neg z3, if_neg z4, if_neg z1, if_pos y2]; done)
      | (rw [if_neg z0, if_neg z3, if_neg z4, if_neg z1, if_neg z2]; done)
set_option maxHeartbeats 1600000 in
theorem c_X12_kindNow (n : Nat) (ρ : Rho) (I : Mem) (L : Nat) (tb : Nat → Nat) (e9 f9 : Nat) (hn9 : n ≤ 999) (hms : MS n ρ) (htb : TbM I L tb) (hpo : I 97 17 = nI e9) (hfr : I 97 18 = nI f9) (hfe : f9 ≤ e9) (heL : e9 ≤ L) : MI yX12_kindNow cX12_kindNow 1 (some .int) 2 [.ref 97] n ρ I (fun v I1 => v = (if isN tb 5 f9 e9 = true then 0 else if isN tb 6 f9 e9 = true then 1 else if isN tb 7 f9 e9 = true then 2 else if isN tb 8 f9 e9 = true then 3 else -4) ∧ I = I1) := by
  refine MG.of (by decide +kernel) (Nat.le_of_ble_eq_true rfl) hn9 ?_
  intro κ C hR
  show G κ n ρ 0 [(0, .ref 97)] [] I
  obtain ⟨mn, ⟨m0, m1, m5, m6, m7, m11, m12, m15⟩, ⟨m23, m24, m26, m27, m28, m30, m31, m32, m33⟩, ⟨m38, m39, m40, m42⟩⟩ := id hms
  have hL3 := htb.2.1
  have htt : ∀ p, p < L → tb p < 256 := fun p hp => (htb.2.2 p hp).2
  refine g_aload_n C (pc := 0) dX12_kindNow_0 0 rfl ?_
  refine g_iconst C (pc := 1) 4 dX12_kindNow_1 (by decide) ?_
  refine g_bipush C (pc := 2) 107 dX12_kindNow_2 (by decide) ?_
  refine g_bipush C (pc := 4) 105 dX12_kindNow_4 (by decide) ?_
  refine g_bipush C (pc := 6) 110 dX12_kindNow_6 (by decide) ?_
  refine g_callVI C (pc := 8) mf_X12_is lk_RX12_133 (c_X12_is n ρ I L tb e9 f9 4 _ _ _ _ hn9 hms htb hpo hfr hfe (by omega) rfl (by decide)) (by decide) (Nat.le_refl _) rfl (by first | assumption | rfl | omega) rfl (by first | assumption | rfl | omega) (Nat.le_of_ble_eq_true rfl) dX12_kindNow_8 (fun v8 I8 h8 => ?_)
  obtain ⟨e8, rfl⟩ := h8
  refine g_if_eq C (pc := 11) 27 dX12_kindNow_11 (by decide) (fun c11 => ?_) (fun c11 => ?_)
  · have z5 : ¬ isN tb 5 f9 e9 = true := fun h => bI_0.mp (e8.symm.trans c11) ((nmL_5 heL htt).mp h).1
    refine g_aload_n C (pc := 27) dX12_kindNow_27 0 rfl ?_
    refine g_iconst C (pc := 28) 3 dX12_kindNow_28 (by decide) ?_
    refine g_bipush C (pc := 29) 109 dX12_kindNow_29 (by decide) ?_
    refine g_bipush C (pc := 31) 97 dX12_kindNow_31 (by decide) ?_
    refine g_bipush C (pc := 33) 110 dX12_kindNow_33 (by decide) ?_
    refine g_callVI C (pc := 35) mf_X12_is lk_RX12_133 (c_X12_is n ρ I L tb e9 f9 3 _ _ _ _ hn9 hms htb hpo hfr hfe (by omega) rfl (by decide)) (by decide) (Nat.le_refl _) rfl (by first | assumption | rfl | omega) rfl (by first | assumption | rfl | omega) (Nat.le_of_ble_eq_true rfl) dX12_kindNow_35 (fun v35 I35 h35 => ?_)
    obtain ⟨e35, rfl⟩ := h35
    refine g_if_eq C (pc := 38) 43 dX12_kindNow_38 (by decide) (fun c38 => ?_) (fun c38 => ?_)
    · have z6 : ¬ isN tb 6 f9 e9 = true := fun h => bI_0.mp (e35.symm.trans c38) ((nmL_6 heL htt).mp h)
      refine g_aload_n C (pc := 43) dX12_kindNow_43 0 rfl ?_
      refine g_bipush C (pc := 44) 6 dX12_kindNow_44 (by decide) ?_
      refine g_bipush C (pc := 46) 114 dX12_kindNow_46 (by decide) ?_
      refine g_bipush C (pc := 48) 117 dX12_kindNow_48 (by decide) ?_
      refine g_bipush C (pc := 50) 110 dX12_kindNow_50 (by decide) ?_
      refine g_callVI C (pc := 52) mf_X12_is lk_RX12_133 (c_X12_is n ρ I L tb e9 f9 6 _ _ _ _ hn9 hms htb hpo hfr hfe (by omega) rfl (by decide)) (by decide) (Nat.le_refl _) rfl (by first | assumption | rfl | omega) rfl (by first | assumption | rfl | omega) (Nat.le_of_ble_eq_true rfl) dX12_kindNow_52 (fun v52 I52 h52 => ?_)
      obtain ⟨e52, rfl⟩ := h52
      refine g_if_eq C (pc := 55) 73 dX12_kindNow_55 (by decide) (fun c55 => ?_) (fun c55 => ?_)
      · have z7 : ¬ isN tb 7 f9 e9 = true := fun h => bI_0.mp (e52.symm.trans c55) ((nmL_7 heL htt).mp h).1
        refine g_aload_n C (pc := 73) dX12_kindNow_73 0 rfl ?_
        refine g_bipush C (pc := 74) 7 dX12_kindNow_74 (by decide) ?_
        refine g_bipush C (pc := 76) 115 dX12_kindNow_76 (by decide) ?_
        refine g_bipush C (pc := 78) 112 dX12_kindNow_78 (by decide) ?_
        refine g_bipush C (pc := 80) 97 dX12_kindNow_80 (by decide) ?_
        refine g_callVI C (pc := 82) mf_X12_is lk_RX12_133 (c_X12_is n ρ I L tb e9 f9 7 _ _ _ _ hn9 hms htb hpo hfr hfe (by omega) rfl (by decide)) (by decide) (Nat.le_refl _) rfl (by first | assumption | rfl | omega) rfl (by first | assumption | rfl | omega) (Nat.le_of_ble_eq_true rfl) dX12_kindNow_82 (fun v82 I82 h82 => ?_)
        obtain ⟨e82, rfl⟩ := h82
        refine g_if_eq C (pc := 85) 121 dX12_kindNow_85 (by decide) (fun c85 => ?_) (fun c85 => ?_)
        · have z8 : ¬ isN tb 8 f9 e9 = true := fun h => bI_0.mp (e82.symm.trans c85) ((nmL_8 heL htt).mp h).1
          refine g_bipush C (pc := 121) (-4) dX12_kindNow_121 (by decide) ?_
          refine g_iret C hR (pc := 123) rfl dX12_kindNow_123 ?_
          refine ⟨rfl, _, rfl, ?_⟩
          refine ⟨?_, rfl⟩
          first
          | (rw [if_pos y5]; done)
          | (rw [if_neg z5, if_pos y6]; done)
          | (rw [if_neg z5, if_neg z6, if_pos y7]; done)
          | (rw [if_neg z5, if_neg z6, if_neg z7, if_pos y8]; done)
          | (rw [if_neg z5, if_neg z6, if_neg z7, if_neg z8]; done)
        · refine g_aload_n C (pc := 88) dX12_kindNow_88 0 rfl ?_
          refine g_bipush C (pc := 89) 114 dX12_kindNow_89 (by decide) ?_
          refine g_bipush C (pc := 91) 114 dX12_kindNow_91 (by decide) ?_
          refine g_bipush C (pc := 93) 111 dX12_kindNow_93 (by decide) ?_
          refine g_callVI C (pc := 95) mf_X12_ends lk_RX12_137 (c_X12_ends n ρ I L tb f9 _ _ _ hn9 hms htb hfr (by omega)) (by decide) (Nat.le_refl _) rfl (by first | assumption | rfl | omega) rfl (by first | assumption | rfl | omega) (Nat.le_of_ble_eq_true rfl) dX12_kindNow_95 (fun v95 I95 h95 => ?_)
          obtain ⟨e95, rfl⟩ := h95
          refine g_if_eq C (pc := 98) 121 dX12_kindNow_98 (by decide) (fun c98 => ?_) (fun c98 => ?_)
          · have z8 : ¬ isN tb 8 f9 e9 = true := fun h => bI_0.mp (e95.symm.trans c98) ((nmL_8 heL htt).mp h).2.1
            refine g_bipush C (pc := 121) (-4) dX12_kindNow_121 (by decide) ?_
            refine g_iret C hR (pc := 123) rfl dX12_kindNow_123 ?_
            refine ⟨rfl, _, rfl, ?_⟩
            refine ⟨?_, rfl⟩
            first
            | (rw [if_pos y5]; done)
            | (rw [if_neg z5, if_pos y6]; done)
            | (rw [if_neg z5, if_neg z6, if_pos y7]; done)
            | (rw [if_neg z5, if_neg z6, if_neg z7, if_pos y8]; done)
            | (rw [if_neg z5, if_neg z6, if_neg z7, if_neg z8]; done)
          · refine g_aload_n C (pc := 101) dX12_kindNow_101 0 rfl ?_
            refine g_aload_n C (pc := 102) dX12_kindNow_102 0 rfl ?_
            refine g_getI C (pc := 103) fl_RX12_120 (by decide) (by first | assumption | rfl | omega) (by first | assumption | rfl | omega) dX12_kindNow_103 ?_
            refine g_bipush C (pc := 106) 6 dX12_kindNow_106 (by decide) ?_
            refine g_iadd C (pc := 108) dX12_kindNow_108 ?_
            refine g_callVI C (pc := 109) mf_X12_look lk_RX12_129 (c_X12_look n ρ I L tb (f9 + 6) _ hn9 hms htb (by omega) (by rw [hfr, show (6 : Int32) = nI 6 from rfl, nI_add])) (by decide) (Nat.le_refl _) rfl (by first | assumption | rfl | omega) rfl (by first | assumption | rfl | omega) (Nat.le_of_ble_eq_true rfl) dX12_kindNow_109 (fun v109 I109 h109 => ?_)
            obtain ⟨e109, rfl⟩ := h109
            refine g_bipush C (pc := 112) 119 dX12_kindNow_112 (by decide) ?_
            refine g_icmp_ne C (pc := 114) 121 dX12_kindNow_114 (by decide) (fun c114 => ?_) (fun c114 => ?_)
            · have z8 : ¬ isN tb 8 f9 e9 = true := fun h => c114 (e109.trans ((nmL_8 heL htt).mp h).2.2)
              refine g_bipush C (pc := 121) (-4) dX12_kindNow_121 (by decide) ?_
              refine g_iret C hR (pc := 123) rfl dX12_kindNow_123 ?_
              refine ⟨rfl, _, rfl, ?_⟩
              refine ⟨?_, rfl⟩
              first
              | (rw [if_pos y5]; done)
              | (rw [if_neg z5, if_pos y6]; done)
              | (rw [if_neg z5, if_neg z6, if_pos y7]; done)
              | (rw [if_neg z5, if_neg z6, if_neg z7, if_pos y8]; done)
              | (rw [if_neg z5, if_neg z6, if_neg z7, if_neg z8]; done)
            · have y8 : isN tb 8 f9 e9 = true := (nmL_8 heL htt).mpr ⟨bI_1.mp (fun h => c85 (e82.trans h)), bI_1.mp (fun h => c98 (e95.trans h)), e109.symm.trans c114⟩
              refine g_iconst C (pc := 117) 3 dX12_kindNow_117 (by decide) ?_
              refine g_goto C (pc := 118) 123 dX12_kindNow_118 (by decide) ?_
              refine g_iret C hR (pc := 123) rfl dX12_kindNow_123 ?_
              refine ⟨rfl, _, rfl, ?_⟩
              refine ⟨?_, rfl⟩
              first
              | (rw [if_pos y5]; done)
              | (rw [if_neg z5, if_pos y6]; done)
              | (rw [if_neg z5, if_neg z6, if_pos y7]; done)
              | (rw [if_neg z5, if_neg z6, if_neg z7, if_pos y8]; done)
              | (rw [if_neg z5, if_neg z6, if_neg z7, if_neg z8]; done)
      · refine g_aload_n C (pc := 58) dX12_kindNow_58 0 rfl ?_
        refine g_bipush C (pc := 59) 110 dX12_kindNow_59 (by decide) ?_
        refine g_bipush C (pc := 61) 101 dX12_kindNow_61 (by decide) ?_
        refine g_bipush C (pc := 63) 114 dX12_kindNow_63 (by decide) ?_
        refine g_callVI C (pc := 65) mf_X12_ends lk_RX12_137 (c_X12_ends n ρ I L tb f9 _ _ _ hn9 hms htb hfr (by omega)) (by decide) (Nat.le_refl _) rfl (by first | assumption | rfl | omega) rfl (by first | assumption | rfl | omega) (Nat.le_of_ble_eq_true rfl) dX12_kindNow_65 (fun v65 I65 h65 => ?_)
        obtain ⟨e65, rfl⟩ := h65
        refine g_if_eq C (pc := 68) 73 dX12_kindNow_68 (by decide) (fun c68 => ?_) (fun c68 => ?_)
        · have z7 : ¬ isN tb 7 f9 e9 = true := fun h => bI_0.mp (e65.symm.trans c68) ((nmL_7 heL htt).mp h).2
          refine g_aload_n C (pc := 73) dX12_kindNow_73 0 rfl ?_
          refine g_bipush C (pc := 74) 7 dX12_kindNow_74 (by decide) ?_
          refine g_bipush C (pc := 76) 115 dX12_kindNow_76 (by decide) ?_
          refine g_bipush C (pc := 78) 112 dX12_kindNow_78 (by decide) ?_
          refine g_bipush C (pc := 80) 97 dX12_kindNow_80 (by decide) ?_
          refine g_callVI C (pc := 82) mf_X12_is lk_RX12_133 (c_X12_is n ρ I L tb e9 f9 7 _ _ _ _ hn9 hms htb hpo hfr hfe (by omega) rfl (by decide)) (by decide) (Nat.le_refl _) rfl (by first | assumption | rfl | omega) rfl (by first | assumption | rfl | omega) (Nat.le_of_ble_eq_true rfl) dX12_kindNow_82 (fun v82 I82 h82 => ?_)
          obtain ⟨e82, rfl⟩ := h82
          refine g_if_eq C (pc := 85) 121 dX12_kindNow_85 (by decide) (fun c85 => ?_) (fun c85 => ?_)
          · have z8 : ¬ isN tb 8 f9 e9 = true := fun h => bI_0.mp (e82.symm.trans c85) ((nmL_8 heL htt).mp h).1
            refine g_bipush C (pc := 121) (-4) dX12_kindNow_121 (by decide) ?_
            refine g_iret C hR (pc := 123) rfl dX12_kindNow_123 ?_
            refine ⟨rfl, _, rfl, ?_⟩
            refine ⟨?_, rfl⟩
            first
            | (rw [if_pos y5]; done)
            | (rw [if_neg z5, if_pos y6]; done)
            | (rw [if_neg z5, if_neg z6, if_pos y7]; done)
            | (rw [if_neg z5, if_neg z6, if_neg z7, if_pos y8]; done)
            | (rw [if_neg z5, if_neg z6, if_neg z7, if_neg z8]; done)
          · refine g_aload_n C (pc := 88) dX12_kindNow_88 0 rfl ?_
            refine g_bipush C (pc := 89) 114 dX12_kindNow_89 (by decide) ?_
            refine g_bipush C (pc := 91) 114 dX12_kindNow_91 (by decide) ?_
            refine g_bipush C (pc := 93) 111 dX12_kindNow_93 (by decide) ?_
            refine g_callVI C (pc := 95) mf_X12_ends lk_RX12_137 (c_X12_ends n ρ I L tb f9 _ _ _ hn9 hms htb hfr (by omega)) (by decide) (Nat.le_refl _) rfl (by first | assumption | rfl | omega) rfl (by first | assumption | rfl | omega) (Nat.le_of_ble_eq_true rfl) dX12_kindNow_95 (fun v95 I95 h95 => ?_)
            obtain ⟨e95, rfl⟩ := h95
            refine g_if_eq C (pc := 98) 121 dX12_kindNow_98 (by decide) (fun c98 => ?_) (fun c98 => ?_)
            · have z8 : ¬ isN tb 8 f9 e9 = true := fun h => bI_0.mp (e95.symm.trans c98) ((nmL_8 heL htt).mp h).2.1
              refine g_bipush C (pc := 121) (-4) dX12_kindNow_121 (by decide) ?_
              refine g_iret C hR (pc := 123) rfl dX12_kindNow_123 ?_
              refine ⟨rfl, _, rfl, ?_⟩
              refine ⟨?_, rfl⟩
              first
              | (rw [if_pos y5]; done)
              | (rw [if_neg z5, if_pos y6]; done)
              | (rw [if_neg z5, if_neg z6, if_pos y7]; done)
              | (rw [if_neg z5, if_neg z6, if_neg z7, if_pos y8]; done)
              | (rw [if_neg z5, if_neg z6, if_neg z7, if_neg z8]; done)
            · refine g_aload_n C (pc := 101) dX12_kindNow_101 0 rfl ?_
              refine g_aload_n C (pc := 102) dX12_kindNow_102 0 rfl ?_
              refine g_getI C (pc := 103) fl_RX12_120 (by decide) (by first | assumption | rfl | omega) (by first | assumption | rfl | omega) dX12_kindNow_103 ?_
              refine g_bipush C (pc := 106) 6 dX12_kindNow_106 (by decide) ?_
              refine g_iadd C (pc := 108) dX12_kindNow_108 ?_
              refine g_callVI C (pc := 109) mf_X12_look lk_RX12_129 (c_X12_look n ρ I L tb (f9 + 6) _ hn9 hms htb (by omega) (by rw [hfr, show (6 : Int32) = nI 6 from rfl, nI_add])) (by decide) (Nat.le_refl _) rfl (by first | assumption | rfl | omega) rfl (by first | assumption | rfl | omega) (Nat.le_of_ble_eq_true rfl) dX12_kindNow_109 (fun v109 I109 h109 => ?_)
              obtain ⟨e109, rfl⟩ := h109
              refine g_bipush C (pc := 112) 119 dX12_kindNow_112 (by decide) ?_
              refine g_icmp_ne C (pc := 114) 121 dX12_kindNow_114 (by decide) (fun c114 => ?_) (fun c114 => ?_)
              · have z8 : ¬ isN tb 8 f9 e9 = true := fun h => c114 (e109.trans ((nmL_8 heL htt).mp h).2.2)
                refine g_bipush C (pc := 121) (-4) dX12_kindNow_121 (by decide) ?_
                refine g_iret C hR (pc := 123) rfl dX12_kindNow_123 ?_
                refine ⟨rfl, _, rfl, ?_⟩
                refine ⟨?_, rfl⟩
                first
                | (rw [if_pos y5]; done)
                | (rw [if_neg z5, if_pos y6]; done)
                | (rw [if_neg z5, if_neg z6, if_pos y7]; done)
                | (rw [if_neg z5, if_neg z6, if_neg z7, if_pos y8]; done)
                | (rw [if_neg z5, if_neg z6, if_neg z7, if_neg z8]; done)
              · have y8 : isN tb 8 f9 e9 = true := (nmL_8 heL htt).mpr ⟨bI_1.mp (fun h => c85 (e82.trans h)), bI_1.mp (fun h => c98 (e95.trans h)), e109.symm.trans c114⟩
                refine g_iconst C (pc := 117) 3 dX12_kindNow_117 (by decide) ?_
                refine g_goto C (pc := 118) 123 dX12_kindNow_118 (by decide) ?_
                refine g_iret C hR (pc := 123) rfl dX12_kindNow_123 ?_
                refine ⟨rfl, _, rfl, ?_⟩
                refine ⟨?_, rfl⟩
                first
                | (rw [if_pos y5]; done)
                | (rw [if_neg z5, if_pos y6]; done)
                | (rw [if_neg z5, if_neg z6, if_pos y7]; done)
                | (rw [if_neg z5, if_neg z6, if_neg z7, if_pos y8]; done)
                | (rw [if_neg z5, if_neg z6, if_neg z7, if_neg z8]; done)
        · have y7 : isN tb 7 f9 e9 = true := (nmL_7 heL htt).mpr ⟨bI_1.mp (fun h => c55 (e52.trans h)), bI_1.mp (fun h => c68 (e65.trans h))⟩
          refine g_iconst C (pc := 71) 2 dX12_kindNow_71 (by decide) ?_
          refine g_iret C hR (pc := 72) rfl dX12_kindNow_72 ?_
          refine ⟨rfl, _, rfl, ?_⟩
          refine ⟨?_, rfl⟩
          first
          | (rw [if_pos y5]; done)
          | (rw [if_neg z5, if_pos y6]; done)
          | (rw [if_neg z5, if_neg z6, if_pos y7]; done)
          | (rw [if_neg z5, if_neg z6, if_neg z7, if_pos y8]; done)
          | (rw [if_neg z5, if_neg z6, if_neg z7, if_neg z8]; done)
    · have y6 : isN tb 6 f9 e9 = true := (nmL_6 heL htt).mpr (bI_1.mp (fun h => c38 (e35.trans h)))
      refine g_iconst C (pc := 41) 1 dX12_kindNow_41 (by decide) ?_
      refine g_iret C hR (pc := 42) rfl dX12_kindNow_42 ?_
      refine ⟨rfl, _, rfl, ?_⟩
      refine ⟨?_, rfl⟩
      first
      | (rw [if_pos y5]; done)
      | (rw [if_neg z5, if_pos y6]; done)
      | (rw [if_neg z5, if_neg z6, if_pos y7]; done)
      | (rw [if_neg z5, if_neg z6, if_neg z7, if_pos y8]; done)
      | (rw [if_neg z5, if_neg z6, if_neg z7, if_neg z8]; done)
  · refine g_aload_n C (pc := 14) dX12_kindNow_14 0 rfl ?_
    refine g_bipush C (pc := 15) 103 dX12_kindNow_15 (by decide) ?_
    refine g_iconst C (pc := 17) 0 dX12_kindNow_17 (by decide) ?_
    refine g_iconst C (pc := 18) 0 dX12_kindNow_18 (by decide) ?_
    refine g_callVI C (pc := 19) mf_X12_ends lk_RX12_137 (c_X12_ends n ρ I L tb f9 _ _ _ hn9 hms htb hfr (by omega)) (by decide) (Nat.le_refl _) rfl (by first | assumption | rfl | omega) rfl (by first | assumption | rfl | omega) (Nat.le_of_ble_eq_true rfl) dX12_kindNow_19 (fun v19 I19 h19 => ?_)
    obtain ⟨e19, rfl⟩ := h19
    refine g_if_eq C (pc := 22) 27 dX12_kindNow_22 (by decide) (fun c22 => ?_) (fun c22 => ?_)
    · have z5 : ¬ isN tb 5 f9 e9 = true := fun h => bI_0.mp (e19.symm.trans c22) ((nmL_5 heL htt).mp h).2
      refine g_aload_n C (pc := 27) dX12_kindNow_27 0 rfl ?_
      refine g_iconst C (pc := 28) 3 dX12_kindNow_28 (by decide) ?_
      refine g_bipush C (pc := 29) 109 dX12_kindNow_29 (by decide) ?_
      refine g_bipush C (pc := 31) 97 dX12_kindNow_31 (by decide) ?_
      refine g_bipush C (pc := 33) 110 dX12_kindNow_33 (by decide) ?_
      refine g_callVI C (pc := 35) mf_X12_is lk_RX12_133 (c_X12_is n ρ I L tb e9 f9 3 _ _ _ _ hn9 hms htb hpo hfr hfe (by omega) rfl (by decide)) (by decide) (Nat.le_refl _) rfl (by first | assumption | rfl | omega) rfl (by first | assumption | rfl | omega) (Nat.le_of_ble_eq_true rfl) dX12_kindNow_35 (fun v35 I35 h35 => ?_)
      obtain ⟨e35, rfl⟩ := h35
      refine g_if_eq C (pc := 38) 43 dX12_kindNow_38 (by decide) (fun c38 => ?_) (fun c38 => ?_)
      · have z6 : ¬ isN tb 6 f9 e9 = true := fun h => bI_0.mp (e35.symm.trans c38) ((nmL_6 heL htt).mp h)
        refine g_aload_n C (pc := 43) dX12_kindNow_43 0 rfl ?_
        refine g_bipush C (pc := 44) 6 dX12_kindNow_44 (by decide) ?_
        refine g_bipush C (pc := 46) 114 dX12_kindNow_46 (by decide) ?_
        refine g_bipush C (pc := 48) 117 dX12_kindNow_48 (by decide) ?_
        refine g_bipush C (pc := 50) 110 dX12_kindNow_50 (by decide) ?_
        refine g_callVI C (pc := 52) mf_X12_is lk_RX12_133 (c_X12_is n ρ I L tb e9 f9 6 _ _ _ _ hn9 hms htb hpo hfr hfe (by omega) rfl (by decide)) (by decide) (Nat.le_refl _) rfl (by first | assumption | rfl | omega) rfl (by first | assumption | rfl | omega) (Nat.le_of_ble_eq_true rfl) dX12_kindNow_52 (fun v52 I52 h52 => ?_)
        obtain ⟨e52, rfl⟩ := h52
        refine g_if_eq C (pc := 55) 73 dX12_kindNow_55 (by decide) (fun c55 => ?_) (fun c55 => ?_)
        · have z7 : ¬ isN tb 7 f9 e9 = true := fun h => bI_0.mp (e52.symm.trans c55) ((nmL_7 heL htt).mp h).1
          refine g_aload_n C (pc := 73) dX12_kindNow_73 0 rfl ?_
          refine g_bipush C (pc := 74) 7 dX12_kindNow_74 (by decide) ?_
          refine g_bipush C (pc := 76) 115 dX12_kindNow_76 (by decide) ?_
          refine g_bipush C (pc := 78) 112 dX12_kindNow_78 (by decide) ?_
          refine g_bipush C (pc := 80) 97 dX12_kindNow_80 (by decide) ?_
          refine g_callVI C (pc := 82) mf_X12_is lk_RX12_133 (c_X12_is n ρ I L tb e9 f9 7 _ _ _ _ hn9 hms htb hpo hfr hfe (by omega) rfl (by decide)) (by decide) (Nat.le_refl _) rfl (by first | assumption | rfl | omega) rfl (by first | assumption | rfl | omega) (Nat.le_of_ble_eq_true rfl) dX12_kindNow_82 (fun v82 I82 h82 => ?_)
          obtain ⟨e82, rfl⟩ := h82
          refine g_if_eq C (pc := 85) 121 dX12_kindNow_85 (by decide) (fun c85 => ?_) (fun c85 => ?_)
          · have z8 : ¬ isN tb 8 f9 e9 = true := fun h => bI_0.mp (e82.symm.trans c85) ((nmL_8 heL htt).mp h).1
            refine g_bipush C (pc := 121) (-4) dX12_kindNow_121 (by decide) ?_
            refine g_iret C hR (pc := 123) rfl dX12_kindNow_123 ?_
            refine ⟨rfl, _, rfl, ?_⟩
            refine ⟨?_, rfl⟩
            first
            | (rw [if_pos y5]; done)
            | (rw [if_neg z5, if_pos y6]; done)
            | (rw [if_neg z5, if_neg z6, if_pos y7]; done)
            | (rw [if_neg z5, if_neg z6, if_neg z7, if_pos y8]; done)
            | (rw [if_neg z5, if_neg z6, if_neg z7, if_neg z8]; done)
          · refine g_aload_n C (pc := 88) dX12_kindNow_88 0 rfl ?_
            refine g_bipush C (pc := 89) 114 dX12_kindNow_89 (by decide) ?_
            refine g_bipush C (pc := 91) 114 dX12_kindNow_91 (by decide) ?_
            refine g_bipush C (pc := 93) 111 dX12_kindNow_93 (by decide) ?_
            refine g_callVI C (pc := 95) mf_X12_ends lk_RX12_137 (c_X12_ends n ρ I L tb f9 _ _ _ hn9 hms htb hfr (by omega)) (by decide) (Nat.le_refl _) rfl (by first | assumption | rfl | omega) rfl (by first | assumption | rfl | omega) (Nat.le_of_ble_eq_true rfl) dX12_kindNow_95 (fun v95 I95 h95 => ?_)
            obtain ⟨e95, rfl⟩ := h95
            refine g_if_eq C (pc := 98) 121 dX12_kindNow_98 (by decide) (fun c98 => ?_) (fun c98 => ?_)
            · have z8 : ¬ isN tb 8 f9 e9 = true := fun h => bI_0.mp (e95.symm.trans c98) ((nmL_8 heL htt).mp h).2.1
              refine g_bipush C (pc := 121) (-4) dX12_kindNow_121 (by decide) ?_
              refine g_iret C hR (pc := 123) rfl dX12_kindNow_123 ?_
              refine ⟨rfl, _, rfl, ?_⟩
              refine ⟨?_, rfl⟩
              first
              | (rw [if_pos y5]; done)
              | (rw [if_neg z5, if_pos y6]; done)
              | (rw [if_neg z5, if_neg z6, if_pos y7]; done)
              | (rw [if_neg z5, if_neg z6, if_neg z7, if_pos y8]; done)
              | (rw [if_neg z5, if_neg z6, if_neg z7, if_neg z8]; done)
            · refine g_aload_n C (pc := 101) dX12_kindNow_101 0 rfl ?_
              refine g_aload_n C (pc := 102) dX12_kindNow_102 0 rfl ?_
              refine g_getI C (pc := 103) fl_RX12_120 (by decide) (by first | assumption | rfl | omega) (by first | assumption | rfl | omega) dX12_kindNow_103 ?_
              refine g_bipush C (pc := 106) 6 dX12_kindNow_106 (by decide) ?_
              refine g_iadd C (pc := 108) dX12_kindNow_108 ?_
              refine g_callVI C (pc := 109) mf_X12_look lk_RX12_129 (c_X12_look n ρ I L tb (f9 + 6) _ hn9 hms htb (by omega) (by rw [hfr, show (6 : Int32) = nI 6 from rfl, nI_add])) (by decide) (Nat.le_refl _) rfl (by first | assumption | rfl | omega) rfl (by first | assumption | rfl | omega) (Nat.le_of_ble_eq_true rfl) dX12_kindNow_109 (fun v109 I109 h109 => ?_)
              obtain ⟨e109, rfl⟩ := h109
              refine g_bipush C (pc := 112) 119 dX12_kindNow_112 (by decide) ?_
              refine g_icmp_ne C (pc := 114) 121 dX12_kindNow_114 (by decide) (fun c114 => ?_) (fun c114 => ?_)
              · have z8 : ¬ isN tb 8 f9 e9 = true := fun h => c114 (e109.trans ((nmL_8 heL htt).mp h).2.2)
                refine g_bipush C (pc := 121) (-4) dX12_kindNow_121 (by decide) ?_
                refine g_iret C hR (pc := 123) rfl dX12_kindNow_123 ?_
                refine ⟨rfl, _, rfl, ?_⟩
                refine ⟨?_, rfl⟩
                first
                | (rw [if_pos y5]; done)
                | (rw [if_neg z5, if_pos y6]; done)
                | (rw [if_neg z5, if_neg z6, if_pos y7]; done)
                | (rw [if_neg z5, if_neg z6, if_neg z7, if_pos y8]; done)
                | (rw [if_neg z5, if_neg z6, if_neg z7, if_neg z8]; done)
              · have y8 : isN tb 8 f9 e9 = true := (nmL_8 heL htt).mpr ⟨bI_1.mp (fun h => c85 (e82.trans h)), bI_1.mp (fun h => c98 (e95.trans h)), e109.symm.trans c114⟩
                refine g_iconst C (pc := 117) 3 dX12_kindNow_117 (by decide) ?_
                refine g_goto C (pc := 118) 123 dX12_kindNow_118 (by decide) ?_
                refine g_iret C hR (pc := 123) rfl dX12_kindNow_123 ?_
                refine ⟨rfl, _, rfl, ?_⟩
                refine ⟨?_, rfl⟩
                first
                | (rw [if_pos y5]; done)
                | (rw [if_neg z5, if_pos y6]; done)
                | (rw [if_neg z5, if_neg z6, if_pos y7]; done)
                | (rw [if_neg z5, if_neg z6, if_neg z7, if_pos y8]; done)
                | (rw [if_neg z5, if_neg z6, if_neg z7, if_neg z8]; done)
        · refine g_aload_n C (pc := 58) dX12_kindNow_58 0 rfl ?_
          refine g_bipush C (pc := 59) 110 dX12_kindNow_59 (by decide) ?_
          refine g_bipush C (pc := 61) 101 dX12_kindNow_61 (by decide) ?_
          refine g_bipush C (pc := 63) 114 dX12_kindNow_63 (by decide) ?_
          refine g_callVI C (pc := 65) mf_X12_ends lk_RX12_137 (c_X12_ends n ρ I L tb f9 _ _ _ hn9 hms htb hfr (by omega)) (by decide) (Nat.le_refl _) rfl (by first | assumption | rfl | omega) rfl (by first | assumption | rfl | omega) (Nat.le_of_ble_eq_true rfl) dX12_kindNow_65 (fun v65 I65 h65 => ?_)
          obtain ⟨e65, rfl⟩ := h65
          refine g_if_eq C (pc := 68) 73 dX12_kindNow_68 (by decide) (fun c68 => ?_) (fun c68 => ?_)
          · have z7 : ¬ isN tb 7 f9 e9 = true := fun h => bI_0.mp (e65.symm.trans c68) ((nmL_7 heL htt).mp h).2
            refine g_aload_n C (pc := 73) dX12_kindNow_73 0 rfl ?_
            refine g_bipush C (pc := 74) 7 dX12_kindNow_74 (by decide) ?_
            refine g_bipush C (pc := 76) 115 dX12_kindNow_76 (by decide) ?_
            refine g_bipush C (pc := 78) 112 dX12_kindNow_78 (by decide) ?_
            refine g_bipush C (pc := 80) 97 dX12_kindNow_80 (by decide) ?_
            refine g_callVI C (pc := 82) mf_X12_is lk_RX12_133 (c_X12_is n ρ I L tb e9 f9 7 _ _ _ _ hn9 hms htb hpo hfr hfe (by omega) rfl (by decide)) (by decide) (Nat.le_refl _) rfl (by first | assumption | rfl | omega) rfl (by first | assumption | rfl | omega) (Nat.le_of_ble_eq_true rfl) dX12_kindNow_82 (fun v82 I82 h82 => ?_)
            obtain ⟨e82, rfl⟩ := h82
            refine g_if_eq C (pc := 85) 121 dX12_kindNow_85 (by decide) (fun c85 => ?_) (fun c85 => ?_)
            · have z8 : ¬ isN tb 8 f9 e9 = true := fun h => bI_0.mp (e82.symm.trans c85) ((nmL_8 heL htt).mp h).1
              refine g_bipush C (pc := 121) (-4) dX12_kindNow_121 (by decide) ?_
              refine g_iret C hR (pc := 123) rfl dX12_kindNow_123 ?_
              refine ⟨rfl, _, rfl, ?_⟩
              refine ⟨?_, rfl⟩
              first
              | (rw [if_pos y5]; done)
              | (rw [if_neg z5, if_pos y6]; done)
              | (rw [if_neg z5, if_neg z6, if_pos y7]; done)
              | (rw [if_neg z5, if_neg z6, if_neg z7, if_pos y8]; done)
              | (rw [if_neg z5, if_neg z6, if_neg z7, if_neg z8]; done)
            · refine g_aload_n C (pc := 88) dX12_kindNow_88 0 rfl ?_
              refine g_bipush C (pc := 89) 114 dX12_kindNow_89 (by decide) ?_
              refine g_bipush C (pc := 91) 114 dX12_kindNow_91 (by decide) ?_
              refine g_bipush C (pc := 93) 111 dX12_kindNow_93 (by decide) ?_
              refine g_callVI C (pc := 95) mf_X12_ends lk_RX12_137 (c_X12_ends n ρ I L tb f9 _ _ _ hn9 hms htb hfr (by omega)) (by decide) (Nat.le_refl _) rfl (by first | assumption | rfl | omega) rfl (by first | assumption | rfl | omega) (Nat.le_of_ble_eq_true rfl) dX12_kindNow_95 (fun v95 I95 h95 => ?_)
              obtain ⟨e95, rfl⟩ := h95
              refine g_if_eq C (pc := 98) 121 dX12_kindNow_98 (by decide) (fun c98 => ?_) (fun c98 => ?_)
              · have z8 : ¬ isN tb 8 f9 e9 = true := fun h => bI_0.mp (e95.symm.trans c98) ((nmL_8 heL htt).mp h).2.1
                refine g_bipush C (pc := 121) (-4) dX12_kindNow_121 (by decide) ?_
                refine g_iret C hR (pc := 123) rfl dX12_kindNow_123 ?_
                refine ⟨rfl, _, rfl, ?_⟩
                refine ⟨?_, rfl⟩
                first
                | (rw [if_pos y5]; done)
                | (rw [if_neg z5, if_pos y6]; done)
                | (rw [if_neg z5, if_neg z6, if_pos y7]; done)
                | (rw [if_neg z5, if_neg z6, if_neg z7, if_pos y8]; done)
                | (rw [if_neg z5, if_neg z6, if_neg z7, if_neg z8]; done)
              · refine g_aload_n C (pc := 101) dX12_kindNow_101 0 rfl ?_
                refine g_aload_n C (pc := 102) dX12_kindNow_102 0 rfl ?_
                refine g_getI C (pc := 103) fl_RX12_120 (by decide) (by first | assumption | rfl | omega) (by first | assumption | rfl | omega) dX12_kindNow_103 ?_
                refine g_bipush C (pc := 106) 6 dX12_kindNow_106 (by decide) ?_
                refine g_iadd C (pc := 108) dX12_kindNow_108 ?_
                refine g_callVI C (pc := 109) mf_X12_look lk_RX12_129 (c_X12_look n ρ I L tb (f9 + 6) _ hn9 hms htb (by omega) (by rw [hfr, show (6 : Int32) = nI 6 from rfl, nI_add])) (by decide) (Nat.le_refl _) rfl (by first | assumption | rfl | omega) rfl (by first | assumption | rfl | omega) (Nat.le_of_ble_eq_true rfl) dX12_kindNow_109 (fun v109 I109 h109 => ?_)
                obtain ⟨e109, rfl⟩ := h109
                refine g_bipush C (pc := 112) 119 dX12_kindNow_112 (by decide) ?_
                refine g_icmp_ne C (pc := 114) 121 dX12_kindNow_114 (by decide) (fun c114 => ?_) (fun c114 => ?_)
                · have z8 : ¬ isN tb 8 f9 e9 = true := fun h => c114 (e109.trans ((nmL_8 heL htt).mp h).2.2)
                  refine g_bipush C (pc := 121) (-4) dX12_kindNow_121 (by decide) ?_
                  refine g_iret C hR (pc := 123) rfl dX12_kindNow_123 ?_
                  refine ⟨rfl, _, rfl, ?_⟩
                  refine ⟨?_, rfl⟩
                  first
                  | (rw [if_pos y5]; done)
                  | (rw [if_neg z5, if_pos y6]; done)
                  | (rw [if_neg z5, if_neg z6, if_pos y7]; done)
                  | (rw [if_neg z5, if_neg z6, if_neg z7, if_pos y8]; done)
                  | (rw [if_neg z5, if_neg z6, if_neg z7, if_neg z8]; done)
                · have y8 : isN tb 8 f9 e9 = true := (nmL_8 heL htt).mpr ⟨bI_1.mp (fun h => c85 (e82.trans h)), bI_1.mp (fun h => c98 (e95.trans h)), e109.symm.trans c114⟩
                  refine g_iconst C (pc := 117) 3 dX12_kindNow_117 (by decide) ?_
                  refine g_goto C (pc := 118) 123 dX12_kindNow_118 (by decide) ?_
                  refine g_iret C hR (pc := 123) rfl dX12_kindNow_123 ?_
                  refine ⟨rfl, _, rfl, ?_⟩
                  refine ⟨?_, rfl⟩
                  first
                  | (rw [if_pos y5]; done)
                  | (rw [if_neg z5, if_pos y6]; done)
                  | (rw [if_neg z5, if_neg z6, if_pos y7]; done)
                  | (rw [if_neg z5, if_neg z6, if_neg z7, if_pos y8]; done)
                  | (rw [if_neg z5, if_neg z6, if_neg z7, if_neg z8]; done)
          · have y7 : isN tb 7 f9 e9 = true := (nmL_7 heL htt).mpr ⟨bI_1.mp (fun h => c55 (e52.trans h)), bI_1.mp (fun h => c68 (e65.trans h))⟩
            refine g_iconst C (pc := 71) 2 dX12_kindNow_71 (by decide) ?_
            refine g_iret C hR (pc := 72) rfl dX12_kindNow_72 ?_
            refine ⟨rfl, _, rfl, ?_⟩
            refine ⟨?_, rfl⟩
            first
            | (rw [if_pos y5]; done)
            | (rw [if_neg z5, if_pos y6]; done)
            | (rw [if_neg z5, if_neg z6, if_pos y7]; done)
            | (rw [if_neg z5, if_neg z6, if_neg z7, if_pos y8]; done)
            | (rw [if_neg z5, if_neg z6, if_neg z7, if_neg z8]; done)
      · have y6 : isN tb 6 f9 e9 = true := (nmL_6 heL htt).mpr (bI_1.mp (fun h => c38 (e35.trans h)))
        refine g_iconst C (pc := 41) 1 dX12_kindNow_41 (by decide) ?_
        refine g_iret C hR (pc := 42) rfl dX12_kindNow_42 ?_
        refine ⟨rfl, _, rfl, ?_⟩
        refine ⟨?_, rfl⟩
        first
        | (rw [if_pos y5]; done)
        | (rw [if_neg z5, if_pos y6]; done)
        | (rw [if_neg z5, if_neg z6, if_pos y7]; done)
        | (rw [if_neg z5, if_neg z6, if_neg z7, if_pos y8]; done)
        | (rw [if_neg z5, if_neg z6, if_neg z7, if_neg z8]; done)
    · have y5 : isN tb 5 f9 e9 = true := (nmL_5 heL htt).mpr ⟨bI_1.mp (fun h => c11 (e8.trans h)), bI_1.mp (fun h => c22 (e19.trans h))⟩
      refine g_iconst C (pc := 25) 0 dX12_kindNow_25 (by decide) ?_
      refine g_iret C hR (pc := 26) rfl dX12_kindNow_26 ?_
      refine ⟨rfl, _, rfl, ?_⟩
      refine ⟨?_, rfl⟩
      first
      | (rw [if_pos y5]; done)
      | (rw [if_neg z5, if_pos y6]; done)
      | (rw [if_neg z5, if_neg z6, if_pos y7]; done)
      | (rw [if_neg z5, if_neg z6, if_neg z7, if_pos y8]; done)
      | (rw [if_neg z5, if_neg z6, if_neg z7, if_neg z8]; done)
