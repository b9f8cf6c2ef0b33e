theorem inN {x : Int32} {k : Nat} (hk : k < 1000) : (0 ≤ x.toInt64 ∧ x.toInt64 ≤ (nI k - 1).toInt64) ↔ ∃ i, i < k ∧ x = nI i := by
  rcases Nat.eq_zero_or_pos k with h0 | h0
  · subst h0
    constructor
    · intro h9
      have h8 : x.toInt64 ≤ -1 := h9.2
      have a := Int64.le_iff_toInt_le.mp h9.1
      have c := Int64.le_iff_toInt_le.mp h8
      have e1 : (-1 : Int64).toInt = -1 := by decide
      have e0 : (0 : Int64).toInt = 0 := by decide
      omega
    · rintro ⟨i, hi, -⟩; omega
  · refine (inr_iff h0 hk).trans ?_
    constructor
    · rintro ⟨a, c⟩
      exact ⟨x.toInt.toNat, by omega, i32_nat (by omega) (by omega)⟩
    · rintro ⟨i, hi, e⟩
      rw [e, nI_toInt (by omega)]; omega
/-- the sheets, as the reference's heap holds them -/
def ShM (I : Mem) (ln : Nat → Option Nat) (sz : Nat → Nat) (cl : Nat → Nat → Int32) : Prop := ∀ k, k < 4 → I 115 k = oI (ln k) ∧ I 116 k = nI (sz k) ∧ sz k ≤ 40 ∧ (∀ l, ln k = some l → l < 3) ∧ ∀ i, i < sz k → I 117 (40 * k + i) = cl k i
set_option maxHeartbeats 400000 in
theorem c_X12_copies (n : Nat) (ρ : Rho) (I : Mem) (a c9 : Nat) (x z : Int32) (hn9 : n ≤ 999) (hms : MS n ρ) (hx : x = nI a) (hz : z = nI c9) (ha : a ≤ 82) (hc : c9 ≤ 82) (hd : a + 41 ≤ c9 ∨ c9 + 41 ≤ a) : MV yX12_copies cX12_copies 4 none 0 [.ref 97, .int x, .int z] n ρ I (fun I1 => (∀ k, k < 41 → I1 98 (a + k) = I 98 (c9 + k)) ∧ (∀ z, z < a ∨ a + 41 ≤ z → I1 98 z = I 98 z) ∧ ∀ i, i ≠ 98 → I1 i = I i) := by
  refine MG.of (by decide +kernel) (Nat.le_of_ble_eq_true rfl) hn9 ?_
  intro κ C hR
  show G κ n ρ 0 [(0, .ref 97), (1, .int x), (2, .int z)] [] I
  obtain ⟨mn, ⟨m0, m1, m5, m6, m7, m11, m12, m15⟩, ⟨m23, m24, m26, m27, m28, m30, m31, m32, m33⟩, ⟨m38, m39, m40, m42⟩⟩ := id hms
  refine g_iconst C (pc := 0) 0 dX12_copies_0 (by decide) ?_
  refine g_istore_n C (pc := 1) dX12_copies_1 (by decide) (fun v1 => [(3, .int v1), (0, .ref 97), (1, .int x), (2, .int z)]) (fun _ => rfl) (fun v1 ev1 => ?_)
  have L2 : ∀ (k9 : Nat) (j : Nat) (wz3 : Int32) (J : Mem) (hw3 : wz3 = nI j) (hj : j ≤ 41) (hA : ∀ k, k < j → J 98 (a + k) = I 98 (c9 + k)) (hS : ∀ z, z < a ∨ a + j ≤ z → J 98 z = I 98 z) (hF : ∀ i, i ≠ 98 → J i = I i), 41 - j < k9 → G κ n ρ 2 [(3, .int wz3), (0, .ref 97), (1, .int x), (2, .int z)] [] J := by
    intro k9
    induction k9 with
    | zero => intro j wz3 J hw3 hj hA hS hF hm2; exact absurd hm2 (Nat.not_lt_zero _)
    | succ k9 ih2 =>
      intro j wz3 J hw3 hj hA hS hF hm2
      subst hw3
      refine g_iload_n C (pc := 2) dX12_copies_2 0 rfl ?_
      refine g_bipush C (pc := 3) 41 dX12_copies_3 (by decide) ?_
      refine g_icmp_ge C (pc := 5) 30 dX12_copies_5 (by decide) (fun c5 => ?_) (fun c5 => ?_)
      · replace c5 := (nI_leI (a := 41) (b := j) (by decide) (by omega)).mp c5
        refine g_vret C hR (pc := 30) rfl dX12_copies_30 ?_
        refine ⟨rfl, rfl, ?_⟩
        have hj : j = 41 := by omega
        subst hj
        exact ⟨hA, hS, hF⟩
      · replace c5 := (nI_ltI (a := j) (b := 41) (by omega) (by decide)).mp c5
        have hx1 : (x + nI j).toNatClampNeg = a + j := by rw [hx, nI_add]; exact nI_clamp (by omega)
        have hx2 : (z + nI j).toNatClampNeg = c9 + j := by rw [hz, nI_add]; exact nI_clamp (by omega)
        refine g_aload_n C (pc := 8) dX12_copies_8 1 rfl ?_
        refine g_getR C (pc := 9) fl_RX12_7 (by decide) (by first | assumption | rfl | omega) (by first | assumption | rfl | omega) (by first | assumption | rfl | omega) dX12_copies_9 ?_
        refine g_iload_n C (pc := 12) dX12_copies_12 2 rfl ?_
        refine g_iload_n C (pc := 13) dX12_copies_13 0 rfl ?_
        refine g_iadd C (pc := 14) dX12_copies_14 ?_
        refine g_aload_n C (pc := 15) dX12_copies_15 1 rfl ?_
        refine g_getR C (pc := 16) fl_RX12_7 (by decide) (by first | assumption | rfl | omega) (by first | assumption | rfl | omega) (by first | assumption | rfl | omega) dX12_copies_16 ?_
        refine g_iload_n C (pc := 19) dX12_copies_19 3 rfl ?_
        refine g_iload_n C (pc := 20) dX12_copies_20 0 rfl ?_
        refine g_iadd C (pc := 21) dX12_copies_21 ?_
        refine g_iald C (pc := 22) (by first | assumption | rfl | omega) (by first | assumption | rfl | omega) (by rw [hz, nI_add]; exact vp_in_nI (by omega) (by decide)) dX12_copies_22 ?_
        refine g_iast C (pc := 23) (by first | assumption | rfl | omega) (by first | assumption | rfl | omega) hn9 (by rw [hx, nI_add]; exact vp_in_nI (by omega) (by decide)) dX12_copies_23 ?_
        refine g_iinc C (pc := 24) (1) dX12_copies_24 0 rfl (by decide) (by decide) (fun v24 => [(3, .int v24), (0, .ref 97), (1, .int x), (2, .int z)]) (fun _ => rfl) (fun v24 ev24 => ?_)
        refine g_goto C (pc := 27) 2 dX12_copies_27 (by decide) ?_
        refine g_lv C [0, 1, 2, 3] rfl (ih2 (j + 1) _ _ ?_ ?_ ?_ ?_ ?_ (by omega))
        · subst_vars; exact nI_1 _
        · omega
        · intro k hk
          rw [hx1, hx2]
          rcases Nat.lt_or_ge k j with h1 | h1
          · rw [wr_sn (by omega)]; exact hA k h1
          · have : k = j := by omega
            subst this
            rw [wr_ss]; exact hS _ (by omega)
        · intro z hz; rw [hx1, wr_sn (by omega)]; exact hS z (by omega)
        · intro i h1; rw [wr_n h1]; exact hF i h1
  refine g_lv C [0, 1, 2, 3] rfl (L2 (_ + 1) 0 _ _ ?_ ?_ ?_ ?_ ?_ (by first | omega | exact Nat.lt_succ_self _))
  · subst_vars; rfl
  · exact Nat.zero_le _
  · intro k hk; omega
  · intro z _; rfl
  · intro i _; rfl
set_option maxHeartbeats 400000 in
theorem c_X12_keep (n : Nat) (ρ : Rho) (I : Mem) (kp : Nat → Bool) (x : Int32) (hn9 : n ≤ 999) (hms : MS n ρ) (hkp : ∀ k, k < 2 → I 99 k = bI (kp k = true)) : MI yX12_keep cX12_keep 3 (some .int) 1 [.ref 97, .int x] n ρ I (fun v I1 => (∃ k, (k < 2 ∧ x = nI k) ∧ v = bI (kp k = true) ∧ I1 99 = upd (I 99) k 1 ∧ (∀ j, j < 41 → I1 98 (41 * (k + 1) + j) = I 98 j) ∧ (∀ z, z < 41 * (k + 1) ∨ 41 * (k + 1) + 41 ≤ z → I1 98 z = I 98 z) ∧ ∀ i, i ≠ 98 → i ≠ 99 → I1 i = I i) ∨ (¬ (∃ k, (k < 2 ∧ x = nI k)) ∧ v = -1 ∧ I = I1)) := by
  refine MG.of (by decide +kernel) (Nat.le_of_ble_eq_true rfl) hn9 ?_
  intro κ C hR
  show G κ n ρ 0 [(0, .ref 97), (1, .int x)] [] I
  obtain ⟨mn, ⟨m0, m1, m5, m6, m7, m11, m12, m15⟩, ⟨m23, m24, m26, m27, m28, m30, m31, m32, m33⟩, ⟨m38, m39, m40, m42⟩⟩ := id hms
  refine g_iload_n C (pc := 0) dX12_keep_0 1 rfl ?_
  refine g_i2l C (pc := 1) dX12_keep_1 ?_
  refine g_lconst C (pc := 2) 0 dX12_keep_2 (by decide) ?_
  refine g_lconst C (pc := 3) 1 dX12_keep_3 (by decide) ?_
  refine g_callSI C (pc := 4) mf_X12_in lk_RX12_113 (c_X12_in n ρ I _ _ _ hn9) (by decide) (Nat.le_refl _) rfl (Nat.le_of_ble_eq_true rfl) dX12_keep_4 (fun v4 I4 h4 => ?_)
  obtain ⟨e4, rfl⟩ := h4
  refine g_if_ne C (pc := 7) 12 dX12_keep_7 (by decide) (fun c7 => ?_) (fun c7 => ?_)
  · obtain ⟨k, hkl, hkh, hxk⟩ := (inL (x := x) (lo := 0) (hi := 1) (by decide) (by decide)).mp (bI_1.mp (fun h => c7 (e4.trans h)))
    have hcx : x.toNatClampNeg = k := by rw [hxk]; exact nI_clamp (by omega)
    refine g_aload_n C (pc := 12) dX12_keep_12 0 rfl ?_
    refine g_getR C (pc := 13) fl_RX12_13 (by decide) (by first | assumption | rfl | omega) (by first | assumption | rfl | omega) (by first | assumption | rfl | omega) dX12_keep_13 ?_
    refine g_iload_n C (pc := 16) dX12_keep_16 1 rfl ?_
    refine g_zald C (pc := 17) (by first | assumption | rfl | omega) (by first | assumption | rfl | omega) (by rw [hxk]; exact vp_in_nI (by omega) (by decide)) dX12_keep_17 ?_
    refine g_callSI C (pc := 18) mf_X12_flag lk_RX12_189 (c_X12_flag n ρ I _ hn9) (by decide) (Nat.le_refl _) rfl (Nat.le_of_ble_eq_true rfl) dX12_keep_18 (fun v18 I18 h18 => ?_)
    obtain ⟨e18, rfl⟩ := h18
    refine g_istore_n C (pc := 21) dX12_keep_21 (by decide) (fun v21 => [(2, .int v21), (0, .ref 97), (1, .int x)]) (fun _ => rfl) (fun v21 ev21 => ?_)
    refine g_aload_n C (pc := 22) dX12_keep_22 1 rfl ?_
    refine g_getR C (pc := 23) fl_RX12_13 (by decide) (by first | assumption | rfl | omega) (by first | assumption | rfl | omega) (by first | assumption | rfl | omega) dX12_keep_23 ?_
    refine g_iload_n C (pc := 26) dX12_keep_26 2 rfl ?_
    refine g_iconst C (pc := 27) 1 dX12_keep_27 (by decide) ?_
    refine g_zast C (pc := 28) (by first | assumption | rfl | omega) (by first | assumption | rfl | omega) hn9 (by rw [hxk]; exact vp_in_nI (by omega) (by decide)) rfl dX12_keep_28 ?_
    refine g_aload_n C (pc := 29) dX12_keep_29 1 rfl ?_
    refine g_bipush C (pc := 30) 41 dX12_keep_30 (by decide) ?_
    refine g_iload_n C (pc := 32) dX12_keep_32 2 rfl ?_
    refine g_iconst C (pc := 33) 1 dX12_keep_33 (by decide) ?_
    refine g_iadd C (pc := 34) dX12_keep_34 ?_
    refine g_imul C (pc := 35) dX12_keep_35 ?_
    refine g_iconst C (pc := 36) 0 dX12_keep_36 (by decide) ?_
    refine g_callVV C (pc := 37) mf_X12_copies lk_RX12_349 (c_X12_copies n ρ _ (41 * (k + 1)) 0 _ _ hn9 hms (by rw [hxk, show (41 : Int32) = nI 41 from rfl, nI_1, pk_mul]) rfl (by omega) (by decide) (by omega)) (by decide) (Nat.le_refl _) rfl (by first | assumption | rfl | omega) rfl (by first | assumption | rfl | omega) (Nat.le_of_ble_eq_true rfl) dX12_keep_37 (fun I37 h37 => ?_)
    obtain ⟨a37, b37, g37⟩ := h37
    refine g_iload_n C (pc := 40) dX12_keep_40 0 rfl ?_
    refine g_iret C hR (pc := 41) rfl dX12_keep_41 ?_
    refine ⟨rfl, _, rfl, ?_⟩
    refine Or.inl ⟨k, ⟨by omega, hxk⟩, ?_, ?_, fun j hj => ?_, fun z hz => ?_, fun i h1 h2 => ?_⟩
    · rw [ev21, e18, hcx, hkp k (by omega)]
      cases h9 : kp k with
      | true => rfl
      | false => rfl
    · rw [g37 99 (by decide), hcx, wr_s]
    · rw [a37 j hj, wr_n (by decide), Nat.zero_add]
    · rw [b37 z hz, wr_n (by decide)]
    · rw [g37 i h1, wr_n h2]
  · have hx := fun h => bI_0.mp (e4.symm.trans c7) ((inL (x := x) (lo := 0) (hi := 1) (by decide) (by decide)).mpr h)
    refine g_iconst C (pc := 10) (-1) dX12_keep_10 (by decide) ?_
    refine g_iret C hR (pc := 11) rfl dX12_keep_11 ?_
    refine ⟨rfl, _, rfl, ?_⟩
    exact Or.inr ⟨fun ⟨k9, h1, h2⟩ => hx ⟨k9, by omega, by omega, h2⟩, rfl, rfl⟩
set_option maxHeartbeats 400000 in
theorem c_X12_back (n : Nat) (ρ : Rho) (I : Mem) (kp : Nat → Bool) (x : Int32) (hn9 : n ≤ 999) (hms : MS n ρ) (hkp : ∀ k, k < 2 → I 99 k = bI (kp k = true)) : MI yX12_back cX12_back 2 (some .int) 1 [.ref 97, .int x] n ρ I (fun v I1 => (∃ k, (k < 2 ∧ x = nI k) ∧ ((kp k = false ∧ v = -2 ∧ I = I1) ∨ (kp k = true ∧ v = I 98 (41 * (k + 1) + 19) ∧ (∀ j, j < 41 → I1 98 j = I 98 (41 * (k + 1) + j)) ∧ (∀ z, 41 ≤ z → I1 98 z = I 98 z) ∧ ∀ i, i ≠ 98 → I1 i = I i))) ∨ (¬ (∃ k, (k < 2 ∧ x = nI k)) ∧ v = -1 ∧ I = I1)) := by
  refine MG.of (by decide +kernel) (Nat.le_of_ble_eq_true rfl) hn9 ?_
  intro κ C hR
  show G κ n ρ 0 [(0, .ref 97), (1, .int x)] [] I
  obtain ⟨mn, ⟨m0, m1, m5, m6, m7, m11, m12, m15⟩, ⟨m23, m24, m26, m27, m28, m30, m31, m32, m33⟩, ⟨m38, m39, m40, m42⟩⟩ := id hms
  refine g_iload_n C (pc := 0) dX12_back_0 1 rfl ?_
  refine g_i2l C (pc := 1) dX12_back_1 ?_
  refine g_lconst C (pc := 2) 0 dX12_back_2 (by decide) ?_
  refine g_lconst C (pc := 3) 1 dX12_back_3 (by decide) ?_
  refine g_callSI C (pc := 4) mf_X12_in lk_RX12_113 (c_X12_in n ρ I _ _ _ hn9) (by decide) (Nat.le_refl _) rfl (Nat.le_of_ble_eq_true rfl) dX12_back_4 (fun v4 I4 h4 => ?_)
  obtain ⟨e4, rfl⟩ := h4
  refine g_if_ne C (pc := 7) 12 dX12_back_7 (by decide) (fun c7 => ?_) (fun c7 => ?_)
  · obtain ⟨k, hkl, hkh, hxk⟩ := (inL (x := x) (lo := 0) (hi := 1) (by decide) (by decide)).mp (bI_1.mp (fun h => c7 (e4.trans h)))
    have hcx : x.toNatClampNeg = k := by rw [hxk]; exact nI_clamp (by omega)
    refine g_aload_n C (pc := 12) dX12_back_12 0 rfl ?_
    refine g_getR C (pc := 13) fl_RX12_13 (by decide) (by first | assumption | rfl | omega) (by first | assumption | rfl | omega) (by first | assumption | rfl | omega) dX12_back_13 ?_
    refine g_iload_n C (pc := 16) dX12_back_16 1 rfl ?_
    refine g_zald C (pc := 17) (by first | assumption | rfl | omega) (by first | assumption | rfl | omega) (by rw [hxk]; exact vp_in_nI (by omega) (by decide)) dX12_back_17 ?_
    refine g_if_ne C (pc := 18) 24 dX12_back_18 (by decide) (fun c18 => ?_) (fun c18 => ?_)
    · have hkk : kp k = true := by
        rw [hcx, hkp k (by omega)] at c18
        cases h9 : kp k with
        | true => rfl
        | false => rw [h9] at c18; exact absurd rfl c18
      refine g_aload_n C (pc := 24) dX12_back_24 0 rfl ?_
      refine g_iconst C (pc := 25) 0 dX12_back_25 (by decide) ?_
      refine g_bipush C (pc := 26) 41 dX12_back_26 (by decide) ?_
      refine g_iload_n C (pc := 28) dX12_back_28 1 rfl ?_
      refine g_iconst C (pc := 29) 1 dX12_back_29 (by decide) ?_
      refine g_iadd C (pc := 30) dX12_back_30 ?_
      refine g_imul C (pc := 31) dX12_back_31 ?_
      refine g_callVV C (pc := 32) mf_X12_copies lk_RX12_349 (c_X12_copies n ρ I 0 (41 * (k + 1)) _ _ hn9 hms rfl (by rw [hxk, show (41 : Int32) = nI 41 from rfl, nI_1, pk_mul]) (by decide) (by omega) (by omega)) (by decide) (Nat.le_refl _) rfl (by first | assumption | rfl | omega) rfl (by first | assumption | rfl | omega) (Nat.le_of_ble_eq_true rfl) dX12_back_32 (fun I32 h32 => ?_)
      obtain ⟨a32, b32, g32⟩ := h32
      refine g_aload_n C (pc := 35) dX12_back_35 0 rfl ?_
      refine g_getR C (pc := 36) fl_RX12_7 (by decide) (by first | assumption | rfl | omega) (by first | assumption | rfl | omega) (by first | assumption | rfl | omega) dX12_back_36 ?_
      refine g_bipush C (pc := 39) 19 dX12_back_39 (by decide) ?_
      refine g_iald C (pc := 41) (by first | assumption | rfl | omega) (by first | assumption | rfl | omega) (vp_in_nI (n := 19) (by decide) (by decide)) dX12_back_41 ?_
      refine g_iret C hR (pc := 42) rfl dX12_back_42 ?_
      refine ⟨rfl, _, rfl, ?_⟩
      refine Or.inl ⟨k, ⟨by omega, hxk⟩, Or.inr ⟨hkk, ?_, fun j hj => ?_, fun z hz => b32 z (by omega), g32⟩⟩
      · have := a32 19 (by decide)
        rw [Nat.zero_add] at this; exact this
      · have := a32 j hj
        rw [Nat.zero_add] at this; exact this
    · have hkk : kp k = false := by
        rw [hcx, hkp k (by omega)] at c18
        cases h9 : kp k with
        | true => rw [h9] at c18; exact absurd c18 (by decide)
        | false => rfl
      refine g_bipush C (pc := 21) (-2) dX12_back_21 (by decide) ?_
      refine g_iret C hR (pc := 23) rfl dX12_back_23 ?_
      refine ⟨rfl, _, rfl, ?_⟩
      exact Or.inl ⟨k, ⟨by omega, hxk⟩, Or.inl ⟨hkk, rfl, rfl⟩⟩
  · have hx := fun h => bI_0.mp (e4.symm.trans c7) ((inL (x := x) (lo := 0) (hi := 1) (by decide) (by decide)).mpr h)
    refine g_iconst C (pc := 10) (-1) dX12_back_10 (by decide) ?_
    refine g_iret C hR (pc := 11) rfl dX12_back_11 ?_
    refine ⟨rfl, _, rfl, ?_⟩
    exact Or.inr ⟨fun ⟨k9, h1, h2⟩ => hx ⟨k9, by omega, by omega, h2⟩, rfl, rfl⟩
set_option maxHeartbeats 400000 in
theorem c_X12_sheet (n : Nat) (ρ : Rho) (I : Mem) (x y9 z : Int32) (hn9 : n ≤ 999) (hms : MS n ρ) : MI yX12_sheet cX12_sheet 5 (some .int) 2 [.ref 97, .int x, .int y9, .int z] n ρ I (fun v I1 => (∃ k l, (k < 4 ∧ l < 3 ∧ x = nI k ∧ y9 = nI l ∧ z ≤ 40) ∧ ((z < 0 ∧ v = -14 ∧ I = I1) ∨ (0 ≤ z ∧ v = 1 ∧ (∀ i, i < 40 → I1 117 (40 * k + i) = 0) ∧ (∀ i, i < 40 * k ∨ 40 * k + 40 ≤ i → I1 117 i = I 117 i) ∧ I1 115 = upd (I 115) k y9 ∧ I1 116 = upd (I 116) k z ∧ ∀ i, i ≠ 115 → i ≠ 116 → i ≠ 117 → I1 i = I i))) ∨ (¬ (∃ k l, (k < 4 ∧ l < 3 ∧ x = nI k ∧ y9 = nI l ∧ z ≤ 40)) ∧ v = -1 ∧ I = I1)) := by
  refine MG.of (by decide +kernel) (Nat.le_of_ble_eq_true rfl) hn9 ?_
  intro κ C hR
  show G κ n ρ 0 [(0, .ref 97), (1, .int x), (2, .int y9), (3, .int z)] [] I
  obtain ⟨mn, ⟨m0, m1, m5, m6, m7, m11, m12, m15⟩, ⟨m23, m24, m26, m27, m28, m30, m31, m32, m33⟩, ⟨m38, m39, m40, m42⟩⟩ := id hms
  refine g_iload_n C (pc := 0) dX12_sheet_0 1 rfl ?_
  refine g_iload_n C (pc := 1) dX12_sheet_1 2 rfl ?_
  refine g_callSI C (pc := 2) mf_X12_isSheet lk_RX12_354 (c_X12_isSheet n ρ I x y9 hn9) (by decide) (Nat.le_refl _) rfl (Nat.le_of_ble_eq_true rfl) dX12_sheet_2 (fun v2 I2 h2 => ?_)
  obtain ⟨e2, rfl⟩ := h2
  refine g_if_eq C (pc := 5) 14 dX12_sheet_5 (by decide) (fun c5 => ?_) (fun c5 => ?_)
  · have hx := bI_0.mp (e2.symm.trans c5)
    refine g_iconst C (pc := 14) (-1) dX12_sheet_14 (by decide) ?_
    refine g_iret C hR (pc := 15) rfl dX12_sheet_15 ?_
    refine ⟨rfl, _, rfl, ?_⟩
    refine Or.inr ⟨?_, rfl, rfl⟩
    rintro ⟨k9, l9, h1, h2, h3, h4, h5⟩
    first
    | exact hx ⟨by rw [h3]; exact ⟨nI_pos' (by omega), nI_lt (b := 4) h1 (by decide)⟩, by rw [h4]; exact ⟨nI_pos' (by omega), nI_lt (b := 3) h2 (by decide)⟩⟩
    | exact absurd h5 (Int32.not_le.mpr c11)
  · obtain ⟨hx1a, hx2a⟩ := bI_1.mp (fun h => c5 (e2.trans h))
    obtain ⟨k, hk, hxk⟩ := ix_of (n := 4) (by decide) hx1a
    obtain ⟨l, hl, hyl⟩ := ix_of (x := y9) (n := 3) (by decide) hx2a
    have hcx : x.toNatClampNeg = k := by rw [hxk]; exact nI_clamp (by omega)
    refine g_iload_n C (pc := 8) dX12_sheet_8 3 rfl ?_
    refine g_bipush C (pc := 9) 40 dX12_sheet_9 (by decide) ?_
    refine g_icmp_le C (pc := 11) 16 dX12_sheet_11 (by decide) (fun c11 => ?_) (fun c11 => ?_)
    · refine g_iload_n C (pc := 16) dX12_sheet_16 3 rfl ?_
      refine g_if_ge C (pc := 17) 23 dX12_sheet_17 (by decide) (fun c17 => ?_) (fun c17 => ?_)
      · refine g_aload_n C (pc := 23) dX12_sheet_23 0 rfl ?_
        refine g_getR C (pc := 24) fl_RX12_62 (by decide) (by first | assumption | rfl | omega) (by first | assumption | rfl | omega) (by first | assumption | rfl | omega) dX12_sheet_24 ?_
        refine g_iload_n C (pc := 27) dX12_sheet_27 1 rfl ?_
        refine g_iload_n C (pc := 28) dX12_sheet_28 2 rfl ?_
        refine g_iast C (pc := 29) (by first | assumption | rfl | omega) (by first | assumption | rfl | omega) hn9 (by rw [hxk]; exact vp_in_nI (by omega) (by decide)) dX12_sheet_29 ?_
        refine g_aload_n C (pc := 30) dX12_sheet_30 0 rfl ?_
        refine g_getR C (pc := 31) fl_RX12_65 (by decide) (by first | assumption | rfl | omega) (by first | assumption | rfl | omega) (by first | assumption | rfl | omega) dX12_sheet_31 ?_
        refine g_iload_n C (pc := 34) dX12_sheet_34 1 rfl ?_
        refine g_iload_n C (pc := 35) dX12_sheet_35 3 rfl ?_
        refine g_iast C (pc := 36) (by first | assumption | rfl | omega) (by first | assumption | rfl | omega) hn9 (by rw [hxk]; exact vp_in_nI (by omega) (by decide)) dX12_sheet_36 ?_
        refine g_iconst C (pc := 37) 0 dX12_sheet_37 (by decide) ?_
        refine g_istore C (pc := 38) dX12_sheet_38 (by decide) (fun v38 => [(4, .int v38), (0, .ref 97), (1, .int x), (2, .int y9), (3, .int z)]) (fun _ => rfl) (fun v38 ev38 => ?_)
        have L40 : ∀ (k9 : Nat) (j : Nat) (wz4 : Int32) (J : Mem) (hw4 : wz4 = nI j) (hj : j ≤ 40) (hA : ∀ i, i < j → J 117 (40 * k + i) = 0) (hS : ∀ z, z < 40 * k ∨ 40 * k + 40 ≤ z → J 117 z = I 117 z) (hF : ∀ i, i ≠ 117 → J i = wr (wr I 115 x.toNatClampNeg y9) 116 x.toNatClampNeg z i), 40 - j < k9 → G κ n ρ 40 [(4, .int wz4), (0, .ref 97), (1, .int x), (2, .int y9), (3, .int z)] [] J := by
          intro k9
          induction k9 with
          | zero => intro j wz4 J hw4 hj hA hS hF hm40; exact absurd hm40 (Nat.not_lt_zero _)
          | succ k9 ih40 =>
            intro j wz4 J hw4 hj hA hS hF hm40
            subst hw4
            refine g_iload C (pc := 40) dX12_sheet_40 0 rfl ?_
            refine g_bipush C (pc := 42) 40 dX12_sheet_42 (by decide) ?_
            refine g_icmp_ge C (pc := 44) 66 dX12_sheet_44 (by decide) (fun c44 => ?_) (fun c44 => ?_)
            · replace c44 := (nI_leI (a := 40) (b := j) (by decide) (by omega)).mp c44
              refine g_iconst C (pc := 66) 1 dX12_sheet_66 (by decide) ?_
              refine g_iret C hR (pc := 67) rfl dX12_sheet_67 ?_
              refine ⟨rfl, _, rfl, ?_⟩
              have hj : j = 40 := by omega
              subst hj
              refine Or.inl ⟨k, l, ⟨hk, hl, hxk, hyl, c11⟩, Or.inr ⟨c17, rfl, hA, hS, ?_, ?_, fun i h1 h2 h3 => ?_⟩⟩
              · rw [hF 115 (by decide), wr_n (by decide), hcx, wr_s]
              · rw [hF 116 (by decide), hcx, wr_s, wr_n (by decide)]
              · rw [hF i h3, wr_n h2, wr_n h1]
            · replace c44 := (nI_ltI (a := j) (b := 40) (by omega) (by decide)).mp c44
              have hx1 : (40 * x + nI j).toNatClampNeg = 40 * k + j := by rw [hxk, show (40 : Int32) = nI 40 from rfl, pk_mul, nI_add]; exact nI_clamp (by omega)
              refine g_aload_n C (pc := 47) dX12_sheet_47 1 rfl ?_
              refine g_getR C (pc := 48) fl_RX12_68 (by decide) (by first | assumption | rfl | omega) (by first | assumption | rfl | omega) (by first | assumption | rfl | omega) dX12_sheet_48 ?_
              refine g_bipush C (pc := 51) 40 dX12_sheet_51 (by decide) ?_
              refine g_iload_n C (pc := 53) dX12_sheet_53 2 rfl ?_
              refine g_imul C (pc := 54) dX12_sheet_54 ?_
              refine g_iload C (pc := 55) dX12_sheet_55 0 rfl ?_
              refine g_iadd C (pc := 57) dX12_sheet_57 ?_
              refine g_iconst C (pc := 58) 0 dX12_sheet_58 (by decide) ?_
              refine g_iast C (pc := 59) (by first | assumption | rfl | omega) (by first | assumption | rfl | omega) hn9 (by rw [hxk, show (40 : Int32) = nI 40 from rfl, pk_mul, nI_add]; exact vp_in_nI (by omega) (by decide)) dX12_sheet_59 ?_
              refine g_iinc C (pc := 60) (1) dX12_sheet_60 0 rfl (by decide) (by decide) (fun v60 => [(4, .int v60), (0, .ref 97), (1, .int x), (2, .int y9), (3, .int z)]) (fun _ => rfl) (fun v60 ev60 => ?_)
              refine g_goto C (pc := 63) 40 dX12_sheet_63 (by decide) ?_
              refine g_lv C [0, 1, 2, 3, 4] rfl (ih40 (j + 1) _ _ ?_ ?_ ?_ ?_ ?_ (by omega))
              · subst_vars; exact nI_1 _
              · omega
              · intro i hi
                rw [hx1]
                rcases Nat.lt_or_ge i j with h1 | h1
                · rw [wr_sn (by omega)]; exact hA i h1
                · have : i = j := by omega
                  subst this
                  rw [wr_ss]
              · intro z9 hz9; rw [hx1, wr_sn (by omega)]; exact hS z9 hz9
              · intro i h1; rw [wr_n h1]; exact hF i h1
        refine g_lv C [0, 1, 2, 3, 4] rfl (L40 (_ + 1) 0 _ _ ?_ ?_ ?_ ?_ ?_ (by first | omega | exact Nat.lt_succ_self _))
        · subst_vars; rfl
        · exact Nat.zero_le _
        · intro k hk; omega
        · intro z _; rw [wr_n (by decide), wr_n (by decide)]
        · intro i _; rfl
      · refine g_bipush C (pc := 20) (-14) dX12_sheet_20 (by decide) ?_
        refine g_iret C hR (pc := 22) rfl dX12_sheet_22 ?_
        refine ⟨rfl, _, rfl, ?_⟩
        exact Or.inl ⟨k, l, ⟨hk, hl, hxk, hyl, c11⟩, Or.inl ⟨c17, rfl, rfl⟩⟩
    · refine g_iconst C (pc := 14) (-1) dX12_sheet_14 (by decide) ?_
      refine g_iret C hR (pc := 15) rfl dX12_sheet_15 ?_
      refine ⟨rfl, _, rfl, ?_⟩
      refine Or.inr ⟨?_, rfl, rfl⟩
      rintro ⟨k9, l9, h1, h2, h3, h4, h5⟩
      first
      | exact hx ⟨by rw [h3]; exact ⟨nI_pos' (by omega), nI_lt (b := 4) h1 (by decide)⟩, by rw [h4]; exact ⟨nI_pos' (by omega), nI_lt (b := 3) h2 (by decide)⟩⟩
      | exact absurd h5 (Int32.not_le.mpr c11)
set_option maxHeartbeats 400000 in
theorem c_X12_lay (n : Nat) (ρ : Rho) (I : Mem) (ln : Nat → Option Nat) (sz : Nat → Nat) (cl : Nat → Nat → Int32) (x z w : Int32) (hn9 : n ≤ 999) (hms : MS n ρ) (hsh : ShM I ln sz cl) : MI yX12_lay cX12_lay 4 (some .int) 2 [.ref 97, .int x, .int z, .int w] n ρ I (fun v I1 => (∃ k, (k < 4 ∧ x = nI k) ∧ ((ln k = none ∧ v = -11 ∧ I = I1) ∨ (∃ l, ln k = some l ∧ ((¬ (0 ≤ z ∧ z < nI (sz k)) ∧ v = -12 ∧ I = I1) ∨ (∃ i, i < sz k ∧ z = nI i ∧ v = 1 ∧ wr I 117 (40 * k + i) (cutL l w) = I1))))) ∨ (¬ (∃ k, (k < 4 ∧ x = nI k)) ∧ v = -1 ∧ I = I1)) := by
  refine MG.of (by decide +kernel) (Nat.le_of_ble_eq_true rfl) hn9 ?_
  intro κ C hR
  show G κ n ρ 0 [(0, .ref 97), (1, .int x), (2, .int z), (3, .int w)] [] I
  obtain ⟨mn, ⟨m0, m1, m5, m6, m7, m11, m12, m15⟩, ⟨m23, m24, m26, m27, m28, m30, m31, m32, m33⟩, ⟨m38, m39, m40, m42⟩⟩ := id hms
  refine g_iload_n C (pc := 0) dX12_lay_0 1 rfl ?_
  refine g_iconst C (pc := 1) 0 dX12_lay_1 (by decide) ?_
  refine g_callSI C (pc := 2) mf_X12_isSheet lk_RX12_354 (c_X12_isSheet n ρ I x 0 hn9) (by decide) (Nat.le_refl _) rfl (Nat.le_of_ble_eq_true rfl) dX12_lay_2 (fun v2 I2 h2 => ?_)
  obtain ⟨e2, rfl⟩ := h2
  refine g_if_ne C (pc := 5) 10 dX12_lay_5 (by decide) (fun c5 => ?_) (fun c5 => ?_)
  · obtain ⟨k, hk, hxk⟩ := ix_of (n := 4) (by decide) (bI_1.mp (fun h => c5 (e2.trans h))).1
    have hcx : x.toNatClampNeg = k := by rw [hxk]; exact nI_clamp (by omega)
    obtain ⟨s1, s2, s3, s4, s5⟩ := hsh k hk
    have hl31 : ∀ q, ln k = some q → q < 2 ^ 31 := fun q hq => by have := s4 q hq; omega
    refine g_aload_n C (pc := 10) dX12_lay_10 0 rfl ?_
    refine g_getR C (pc := 11) fl_RX12_62 (by decide) (by first | assumption | rfl | omega) (by first | assumption | rfl | omega) (by first | assumption | rfl | omega) dX12_lay_11 ?_
    refine g_iload_n C (pc := 14) dX12_lay_14 1 rfl ?_
    refine g_iald C (pc := 15) (by first | assumption | rfl | omega) (by first | assumption | rfl | omega) (by rw [hxk]; exact vp_in_nI (by omega) (by decide)) dX12_lay_15 ?_
    refine g_bipush C (pc := 16) (-4) dX12_lay_16 (by decide) ?_
    refine g_icmp_ne C (pc := 18) 24 dX12_lay_18 (by decide) (fun c18 => ?_) (fun c18 => ?_)
    · obtain ⟨l, hln⟩ : ∃ l, ln k = some l := by
        rw [hcx, s1] at c18
        cases h9 : ln k with
        | none => exact absurd (by rw [h9]; rfl) c18
        | some l => exact ⟨l, rfl⟩
      have hl3 := s4 l hln
      have hlv : I 115 x.toNatClampNeg = nI l := by rw [hcx, s1, hln]; rfl
      have hsv : I 116 x.toNatClampNeg = nI (sz k) := by rw [hcx, s2]
      refine g_iload_n C (pc := 24) dX12_lay_24 2 rfl ?_
      refine g_i2l C (pc := 25) dX12_lay_25 ?_
      refine g_lconst C (pc := 26) 0 dX12_lay_26 (by decide) ?_
      refine g_aload_n C (pc := 27) dX12_lay_27 0 rfl ?_
      refine g_getR C (pc := 28) fl_RX12_65 (by decide) (by first | assumption | rfl | omega) (by first | assumption | rfl | omega) (by first | assumption | rfl | omega) dX12_lay_28 ?_
      refine g_iload_n C (pc := 31) dX12_lay_31 1 rfl ?_
      refine g_iald C (pc := 32) (by first | assumption | rfl | omega) (by first | assumption | rfl | omega) (by rw [hxk]; exact vp_in_nI (by omega) (by decide)) dX12_lay_32 ?_
      refine g_iconst C (pc := 33) 1 dX12_lay_33 (by decide) ?_
      refine g_isub C (pc := 34) dX12_lay_34 ?_
      refine g_i2l C (pc := 35) dX12_lay_35 ?_
      rw [hsv]
      refine g_callSI C (pc := 36) mf_X12_in lk_RX12_113 (c_X12_in n ρ I _ _ _ hn9) (by decide) (Nat.le_refl _) rfl (Nat.le_of_ble_eq_true rfl) dX12_lay_36 (fun v36 I36 h36 => ?_)
      obtain ⟨e36, rfl⟩ := h36
      refine g_if_ne C (pc := 39) 45 dX12_lay_39 (by decide) (fun c39 => ?_) (fun c39 => ?_)
      · obtain ⟨i, hi, hzi⟩ := (inN (x := z) (k := sz k) (by omega)).mp (bI_1.mp (fun h => c39 (e36.trans h)))
        have hix : (40 * x + z).toNatClampNeg = 40 * k + i := by rw [hxk, hzi, show (40 : Int32) = nI 40 from rfl, pk_mul, nI_add]; exact nI_clamp (by omega)
        refine g_aload_n C (pc := 45) dX12_lay_45 0 rfl ?_
        refine g_getR C (pc := 46) fl_RX12_68 (by decide) (by first | assumption | rfl | omega) (by first | assumption | rfl | omega) (by first | assumption | rfl | omega) dX12_lay_46 ?_
        refine g_bipush C (pc := 49) 40 dX12_lay_49 (by decide) ?_
        refine g_iload_n C (pc := 51) dX12_lay_51 1 rfl ?_
        refine g_imul C (pc := 52) dX12_lay_52 ?_
        refine g_iload_n C (pc := 53) dX12_lay_53 2 rfl ?_
        refine g_iadd C (pc := 54) dX12_lay_54 ?_
        refine g_aload_n C (pc := 55) dX12_lay_55 0 rfl ?_
        refine g_getR C (pc := 56) fl_RX12_62 (by decide) (by first | assumption | rfl | omega) (by first | assumption | rfl | omega) (by first | assumption | rfl | omega) dX12_lay_56 ?_
        refine g_iload_n C (pc := 59) dX12_lay_59 1 rfl ?_
        refine g_iald C (pc := 60) (by first | assumption | rfl | omega) (by first | assumption | rfl | omega) (by rw [hxk]; exact vp_in_nI (by omega) (by decide)) dX12_lay_60 ?_
        refine g_if_ne C (pc := 61) 69 dX12_lay_61 (by decide) (fun c61 => ?_) (fun c61 => ?_)
        · refine g_aload_n C (pc := 69) dX12_lay_69 0 rfl ?_
          refine g_getR C (pc := 70) fl_RX12_62 (by decide) (by first | assumption | rfl | omega) (by first | assumption | rfl | omega) (by first | assumption | rfl | omega) dX12_lay_70 ?_
          refine g_iload_n C (pc := 73) dX12_lay_73 1 rfl ?_
          refine g_iald C (pc := 74) (by first | assumption | rfl | omega) (by first | assumption | rfl | omega) (by rw [hxk]; exact vp_in_nI (by omega) (by decide)) dX12_lay_74 ?_
          refine g_iconst C (pc := 75) 1 dX12_lay_75 (by decide) ?_
          refine g_icmp_ne C (pc := 76) 84 dX12_lay_76 (by decide) (fun c76 => ?_) (fun c76 => ?_)
          · refine g_iload_n C (pc := 84) dX12_lay_84 3 rfl ?_
            refine g_iast C (pc := 85) (by first | assumption | rfl | omega) (by first | assumption | rfl | omega) hn9 (by rw [hxk, hzi, show (40 : Int32) = nI 40 from rfl, pk_mul, nI_add]; exact vp_in_nI (by omega) (by decide)) dX12_lay_85 ?_
            refine g_iconst C (pc := 86) 1 dX12_lay_86 (by decide) ?_
            refine g_iret C hR (pc := 87) rfl dX12_lay_87 ?_
            refine ⟨rfl, _, rfl, ?_⟩
            refine Or.inl ⟨k, ⟨hk, hxk⟩, Or.inr ⟨l, hln, Or.inr ⟨i, hi, hzi, rfl, ?_⟩⟩⟩
            rw [hix]
            unfold cutL
            rw [hlv] at *
            first
            | (rw [if_pos ((nI_eq (b := 0) (by omega) (by decide)).mp c61)]; done)
            | (rw [if_neg (fun h => c61 (by rw [h]; rfl)), if_pos ((nI_eq (b := 1) (by omega) (by decide)).mp c76)]; done)
            | (rw [if_neg (fun h => c61 (by rw [h]; rfl)), if_neg (fun h => c76 (by rw [h]; rfl))]; done)
          · refine g_iload_n C (pc := 79) dX12_lay_79 3 rfl ?_
            refine g_i2s C (pc := 80) dX12_lay_80 ?_
            refine g_goto C (pc := 81) 85 dX12_lay_81 (by decide) ?_
            refine g_iast C (pc := 85) (by first | assumption | rfl | omega) (by first | assumption | rfl | omega) hn9 (by rw [hxk, hzi, show (40 : Int32) = nI 40 from rfl, pk_mul, nI_add]; exact vp_in_nI (by omega) (by decide)) dX12_lay_85 ?_
            refine g_iconst C (pc := 86) 1 dX12_lay_86 (by decide) ?_
            refine g_iret C hR (pc := 87) rfl dX12_lay_87 ?_
            refine ⟨rfl, _, rfl, ?_⟩
            refine Or.inl ⟨k, ⟨hk, hxk⟩, Or.inr ⟨l, hln, Or.inr ⟨i, hi, hzi, rfl, ?_⟩⟩⟩
            rw [hix]
            unfold cutL
            rw [hlv] at *
            first
            | (rw [if_pos ((nI_eq (b := 0) (by omega) (by decide)).mp c61)]; done)
            | (rw [if_neg (fun h => c61 (by rw [h]; rfl)), if_pos ((nI_eq (b := 1) (by omega) (by decide)).mp c76)]; done)
            | (rw [if_neg (fun h => c61 (by rw [h]; rfl)), if_neg (fun h => c76 (by rw [h]; rfl))]; done)
        · refine g_iload_n C (pc := 64) dX12_lay_64 3 rfl ?_
          refine g_i2b C (pc := 65) dX12_lay_65 ?_
          refine g_goto C (pc := 66) 85 dX12_lay_66 (by decide) ?_
          refine g_iast C (pc := 85) (by first | assumption | rfl | omega) (by first | assumption | rfl | omega) hn9 (by rw [hxk, hzi, show (40 : Int32) = nI 40 from rfl, pk_mul, nI_add]; exact vp_in_nI (by omega) (by decide)) dX12_lay_85 ?_
          refine g_iconst C (pc := 86) 1 dX12_lay_86 (by decide) ?_
          refine g_iret C hR (pc := 87) rfl dX12_lay_87 ?_
          refine ⟨rfl, _, rfl, ?_⟩
          refine Or.inl ⟨k, ⟨hk, hxk⟩, Or.inr ⟨l, hln, Or.inr ⟨i, hi, hzi, rfl, ?_⟩⟩⟩
          rw [hix]
          unfold cutL
          rw [hlv] at *
          first
          | (rw [if_pos ((nI_eq (b := 0) (by omega) (by decide)).mp c61)]; done)
          | (rw [if_neg (fun h => c61 (by rw [h]; rfl)), if_pos ((nI_eq (b := 1) (by omega) (by decide)).mp c76)]; done)
          | (rw [if_neg (fun h => c61 (by rw [h]; rfl)), if_neg (fun h => c76 (by rw [h]; rfl))]; done)
      · have hno : ¬ (0 ≤ z ∧ z < nI (sz k)) := by
          intro h
          obtain ⟨i, hi, hzi⟩ := ix_of (x := z) (n := sz k) (by omega) h
          exact bI_0.mp (e36.symm.trans c39) ((inN (by omega)).mpr ⟨i, hi, hzi⟩)
        refine g_bipush C (pc := 42) (-12) dX12_lay_42 (by decide) ?_
        refine g_iret C hR (pc := 44) rfl dX12_lay_44 ?_
        refine ⟨rfl, _, rfl, ?_⟩
        exact Or.inl ⟨k, ⟨hk, hxk⟩, Or.inr ⟨l, hln, Or.inl ⟨hno, rfl, rfl⟩⟩⟩
    · have hln : ln k = none := by
        rw [hcx, s1] at c18
        exact (oI_none hl31).mp c18
      refine g_bipush C (pc := 21) (-11) dX12_lay_21 (by decide) ?_
      refine g_iret C hR (pc := 23) rfl dX12_lay_23 ?_
      refine ⟨rfl, _, rfl, ?_⟩
      exact Or.inl ⟨k, ⟨hk, hxk⟩, Or.inl ⟨hln, rfl, rfl⟩⟩
  · have hx := fun h => bI_0.mp (e2.symm.trans c5) (And.intro h (by decide))
    refine g_iconst C (pc := 8) (-1) dX12_lay_8 (by decide) ?_
    refine g_iret C hR (pc := 9) rfl dX12_lay_9 ?_
    refine ⟨rfl, _, rfl, ?_⟩
    exact Or.inr ⟨fun ⟨k9, h1, h2⟩ => hx (by rw [h2]; exact ⟨nI_pos' (by omega), nI_lt (b := 4) h1 (by decide)⟩), rfl, rfl⟩
