set_option maxHeartbeats 400000 in
theorem c_X12_looked (n : Nat) (ρ : Rho) (I : Mem) (x z : Int32) (hn9 : n ≤ 999) (hms : MS n ρ) : MI yX12_looked cX12_looked 3 (some .int) 1 [.ref 97, .int x, .int z] n ρ I (fun v I1 => (¬ I 97 21 = 0 ∧ v = 0 ∧ I = I1) ∨ (I 97 21 = 0 ∧ ¬ I 97 19 = 2 ∧ v = 0 ∧ wr (wr I 97 21 2) 97 22 (I 97 18) = I1) ∨ (I 97 21 = 0 ∧ I 97 19 = 2 ∧ ¬ (x ≤ I 97 20 ∧ I 97 20 ≤ z) ∧ v = 0 ∧ wr (wr I 97 21 3) 97 22 (I 97 18) = I1) ∨ (I 97 21 = 0 ∧ I 97 19 = 2 ∧ (x ≤ I 97 20 ∧ I 97 20 ≤ z) ∧ v = I 97 20 ∧ I = I1)) := by
  refine MG.of (by decide +kernel) (Nat.le_of_ble_eq_true rfl) hn9 ?_
  intro κ C hR
  show G κ n ρ 0 [(0, .ref 97), (1, .int x), (2, .int z)] [] I
  obtain ⟨mn, ⟨m0, m1, m5, m6, m7, m11, m12, m15⟩, ⟨m23, m24, m26, m27, m28, m30, m31, m32, m33⟩, ⟨m38, m39, m40, m42⟩⟩ := id hms
  refine g_aload_n C (pc := 0) dX12_looked_0 0 rfl ?_
  refine g_getI C (pc := 1) fl_RX12_117 (by decide) (by first | assumption | rfl | omega) (by first | assumption | rfl | omega) dX12_looked_1 ?_
  refine g_if_ne C (pc := 4) 25 dX12_looked_4 (by decide) (fun c4 => ?_) (fun c4 => ?_)
  · refine g_aload_n C (pc := 25) dX12_looked_25 0 rfl ?_
    refine g_getI C (pc := 26) fl_RX12_117 (by decide) (by first | assumption | rfl | omega) (by first | assumption | rfl | omega) dX12_looked_26 ?_
    refine g_if_ne C (pc := 29) 49 dX12_looked_29 (by decide) (fun c29 => ?_) (fun c29 => ?_)
    · refine g_aload_n C (pc := 49) dX12_looked_49 0 rfl ?_
      refine g_getI C (pc := 50) fl_RX12_117 (by decide) (by first | assumption | rfl | omega) (by first | assumption | rfl | omega) dX12_looked_50 ?_
      refine g_if_ne C (pc := 53) 63 dX12_looked_53 (by decide) (fun c53 => ?_) (fun c53 => ?_)
      · refine g_iconst C (pc := 63) 0 dX12_looked_63 (by decide) ?_
        refine g_iret C hR (pc := 64) rfl dX12_looked_64 ?_
        refine ⟨rfl, _, rfl, ?_⟩
        first
        | exact Or.inl ⟨c4, rfl, rfl⟩
        | exact Or.inr (Or.inl ⟨c4, c13, rfl, h22⟩)
        | (subst h22
           have hin : (x.toInt64 ≤ (I 97 20).toInt64 ∧ (I 97 20).toInt64 ≤ z.toInt64) ↔ (x ≤ I 97 20 ∧ I 97 20 ≤ z) := and_congr i2l_le i2l_le
           rcases Decidable.em (x ≤ I 97 20 ∧ I 97 20 ≤ z) with h9 | h9
           · have e1 : v42 = 1 := e42.trans (bI_t (hin.mpr h9))
             rw [if_neg (fun h => absurd (e1.symm.trans h.1) (by decide))] at h46
             subst h46
             first
             | exact Or.inr (Or.inr (Or.inr ⟨c4, c13, h9, rfl, rfl⟩))
             | exact absurd c4 c53
           · have e1 : v42 = 0 := e42.trans (bI_f (fun h => h9 (hin.mp h)))
             rw [if_pos ⟨e1, c4⟩] at h46
             subst h46
             first
             | exact Or.inr (Or.inr (Or.inl ⟨c4, c13, h9, rfl, rfl⟩))
             | (exfalso; rw [wr_sn (by decide), wr_ss] at c53; exact absurd c53 (by decide)))
      · exact absurd c53 c4
    · exact absurd c29 c4
  · refine g_aload_n C (pc := 7) dX12_looked_7 0 rfl ?_
    refine g_aload_n C (pc := 8) dX12_looked_8 0 rfl ?_
    refine g_getI C (pc := 9) fl_RX12_141 (by decide) (by first | assumption | rfl | omega) (by first | assumption | rfl | omega) dX12_looked_9 ?_
    refine g_iconst C (pc := 12) 2 dX12_looked_12 (by decide) ?_
    refine g_icmp_ne C (pc := 13) 20 dX12_looked_13 (by decide) (fun c13 => ?_) (fun c13 => ?_)
    · refine g_iconst C (pc := 20) 0 dX12_looked_20 (by decide) ?_
      refine g_iconst C (pc := 21) 2 dX12_looked_21 (by decide) ?_
      refine g_callVV C (pc := 22) mf_X12_needs lk_RX12_155 (c_X12_needs n ρ I _ 2 hn9 hms) (by decide) (Nat.le_refl _) rfl (by first | assumption | rfl | omega) rfl (by first | assumption | rfl | omega) (Nat.le_of_ble_eq_true rfl) dX12_looked_22 (fun I22 h22 => ?_)
      obtain h22 := h22
      first
      | (rw [if_neg (fun h => absurd h.1 (by decide))] at h22)
      | (rw [if_pos ⟨rfl, c4⟩] at h22)
      refine g_aload_n C (pc := 25) dX12_looked_25 0 rfl ?_
      refine g_getI C (pc := 26) fl_RX12_117 (by decide) (by first | assumption | rfl | omega) (by first | assumption | rfl | omega) dX12_looked_26 ?_
      refine g_if_ne C (pc := 29) 49 dX12_looked_29 (by decide) (fun c29 => ?_) (fun c29 => ?_)
      · refine g_aload_n C (pc := 49) dX12_looked_49 0 rfl ?_
        refine g_getI C (pc := 50) fl_RX12_117 (by decide) (by first | assumption | rfl | omega) (by first | assumption | rfl | omega) dX12_looked_50 ?_
        refine g_if_ne C (pc := 53) 63 dX12_looked_53 (by decide) (fun c53 => ?_) (fun c53 => ?_)
        · refine g_iconst C (pc := 63) 0 dX12_looked_63 (by decide) ?_
          refine g_iret C hR (pc := 64) rfl dX12_looked_64 ?_
          refine ⟨rfl, _, rfl, ?_⟩
          first
          | exact Or.inl ⟨c4, rfl, rfl⟩
          | exact Or.inr (Or.inl ⟨c4, c13, rfl, h22⟩)
          | (subst h22
             have hin : (x.toInt64 ≤ (I 97 20).toInt64 ∧ (I 97 20).toInt64 ≤ z.toInt64) ↔ (x ≤ I 97 20 ∧ I 97 20 ≤ z) := and_congr i2l_le i2l_le
             rcases Decidable.em (x ≤ I 97 20 ∧ I 97 20 ≤ z) with h9 | h9
             · have e1 : v42 = 1 := e42.trans (bI_t (hin.mpr h9))
               rw [if_neg (fun h => absurd (e1.symm.trans h.1) (by decide))] at h46
               subst h46
               first
               | exact Or.inr (Or.inr (Or.inr ⟨c4, c13, h9, rfl, rfl⟩))
               | exact absurd c4 c53
             · have e1 : v42 = 0 := e42.trans (bI_f (fun h => h9 (hin.mp h)))
               rw [if_pos ⟨e1, c4⟩] at h46
               subst h46
               first
               | exact Or.inr (Or.inr (Or.inl ⟨c4, c13, h9, rfl, rfl⟩))
               | (exfalso; rw [wr_sn (by decide), wr_ss] at c53; exact absurd c53 (by decide)))
        · rw [← h22] at c53; exact absurd c53 (by rw [wr_sn (by decide), wr_ss]; decide)
      · rw [← h22] at c29; exact absurd c29 (by rw [wr_sn (by decide), wr_ss]; decide)
    · refine g_iconst C (pc := 16) 1 dX12_looked_16 (by decide) ?_
      refine g_goto C (pc := 17) 21 dX12_looked_17 (by decide) ?_
      refine g_iconst C (pc := 21) 2 dX12_looked_21 (by decide) ?_
      refine g_callVV C (pc := 22) mf_X12_needs lk_RX12_155 (c_X12_needs n ρ I _ 2 hn9 hms) (by decide) (Nat.le_refl _) rfl (by first | assumption | rfl | omega) rfl (by first | assumption | rfl | omega) (Nat.le_of_ble_eq_true rfl) dX12_looked_22 (fun I22 h22 => ?_)
      obtain h22 := h22
      first
      | (rw [if_neg (fun h => absurd h.1 (by decide))] at h22)
      | (rw [if_pos ⟨rfl, c4⟩] at h22)
      refine g_aload_n C (pc := 25) dX12_looked_25 0 rfl ?_
      refine g_getI C (pc := 26) fl_RX12_117 (by decide) (by first | assumption | rfl | omega) (by first | assumption | rfl | omega) dX12_looked_26 ?_
      refine g_if_ne C (pc := 29) 49 dX12_looked_29 (by decide) (fun c29 => ?_) (fun c29 => ?_)
      · rw [← h22] at c29; exact absurd c4 c29
      · refine g_aload_n C (pc := 32) dX12_looked_32 0 rfl ?_
        refine g_aload_n C (pc := 33) dX12_looked_33 0 rfl ?_
        refine g_getI C (pc := 34) fl_RX12_152 (by decide) (by first | assumption | rfl | omega) (by first | assumption | rfl | omega) dX12_looked_34 ?_
        refine g_i2l C (pc := 37) dX12_looked_37 ?_
        refine g_iload_n C (pc := 38) dX12_looked_38 1 rfl ?_
        refine g_i2l C (pc := 39) dX12_looked_39 ?_
        refine g_iload_n C (pc := 40) dX12_looked_40 2 rfl ?_
        refine g_i2l C (pc := 41) dX12_looked_41 ?_
        refine g_callSI C (pc := 42) mf_X12_in lk_RX12_113 (c_X12_in n ρ _ _ _ _ hn9) (by decide) (Nat.le_refl _) rfl (Nat.le_of_ble_eq_true rfl) dX12_looked_42 (fun v42 I42 h42 => ?_)
        obtain ⟨e42, rfl⟩ := h42
        refine g_iconst C (pc := 45) 3 dX12_looked_45 (by decide) ?_
        refine g_callVV C (pc := 46) mf_X12_needs lk_RX12_155 (c_X12_needs n ρ _ _ 3 hn9 hms) (by decide) (Nat.le_refl _) rfl (by first | assumption | rfl | omega) rfl (by first | assumption | rfl | omega) (Nat.le_of_ble_eq_true rfl) dX12_looked_46 (fun I46 h46 => ?_)
        obtain h46 := h46
        refine g_aload_n C (pc := 49) dX12_looked_49 0 rfl ?_
        refine g_getI C (pc := 50) fl_RX12_117 (by decide) (by first | assumption | rfl | omega) (by first | assumption | rfl | omega) dX12_looked_50 ?_
        refine g_if_ne C (pc := 53) 63 dX12_looked_53 (by decide) (fun c53 => ?_) (fun c53 => ?_)
        · refine g_iconst C (pc := 63) 0 dX12_looked_63 (by decide) ?_
          refine g_iret C hR (pc := 64) rfl dX12_looked_64 ?_
          refine ⟨rfl, _, rfl, ?_⟩
          first
          | exact Or.inl ⟨c4, rfl, rfl⟩
          | exact Or.inr (Or.inl ⟨c4, c13, rfl, h22⟩)
          | (subst h22
             have hin : (x.toInt64 ≤ (I 97 20).toInt64 ∧ (I 97 20).toInt64 ≤ z.toInt64) ↔ (x ≤ I 97 20 ∧ I 97 20 ≤ z) := and_congr i2l_le i2l_le
             rcases Decidable.em (x ≤ I 97 20 ∧ I 97 20 ≤ z) with h9 | h9
             · have e1 : v42 = 1 := e42.trans (bI_t (hin.mpr h9))
               rw [if_neg (fun h => absurd (e1.symm.trans h.1) (by decide))] at h46
               subst h46
               first
               | exact Or.inr (Or.inr (Or.inr ⟨c4, c13, h9, rfl, rfl⟩))
               | exact absurd c4 c53
             · have e1 : v42 = 0 := e42.trans (bI_f (fun h => h9 (hin.mp h)))
               rw [if_pos ⟨e1, c4⟩] at h46
               subst h46
               first
               | exact Or.inr (Or.inr (Or.inl ⟨c4, c13, h9, rfl, rfl⟩))
               | (exfalso; rw [wr_sn (by decide), wr_ss] at c53; exact absurd c53 (by decide)))
        · refine g_aload_n C (pc := 56) dX12_looked_56 0 rfl ?_
          refine g_getI C (pc := 57) fl_RX12_152 (by decide) (by first | assumption | rfl | omega) (by first | assumption | rfl | omega) dX12_looked_57 ?_
          refine g_goto C (pc := 60) 64 dX12_looked_60 (by decide) ?_
          refine g_iret C hR (pc := 64) rfl dX12_looked_64 ?_
          refine ⟨rfl, _, rfl, ?_⟩
          first
          | exact Or.inl ⟨c4, rfl, rfl⟩
          | exact Or.inr (Or.inl ⟨c4, c13, rfl, h22⟩)
          | (subst h22
             have hin : (x.toInt64 ≤ (I 97 20).toInt64 ∧ (I 97 20).toInt64 ≤ z.toInt64) ↔ (x ≤ I 97 20 ∧ I 97 20 ≤ z) := and_congr i2l_le i2l_le
             rcases Decidable.em (x ≤ I 97 20 ∧ I 97 20 ≤ z) with h9 | h9
             · have e1 : v42 = 1 := e42.trans (bI_t (hin.mpr h9))
               rw [if_neg (fun h => absurd (e1.symm.trans h.1) (by decide))] at h46
               subst h46
               first
               | exact Or.inr (Or.inr (Or.inr ⟨c4, c13, h9, rfl, rfl⟩))
               | exact absurd c4 c53
             · have e1 : v42 = 0 := e42.trans (bI_f (fun h => h9 (hin.mp h)))
               rw [if_pos ⟨e1, c4⟩] at h46
               subst h46
               first
               | exact Or.inr (Or.inr (Or.inl ⟨c4, c13, h9, rfl, rfl⟩))
               | (exfalso; rw [wr_sn (by decide), wr_ss] at c53; exact absurd c53 (by decide)))
