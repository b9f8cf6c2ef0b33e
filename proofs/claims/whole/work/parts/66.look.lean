/-- the tape of the reference: bytes 0..255 -/
def TbM (I : Mem) (L : Nat) (tb : Nat → Nat) : Prop := I 97 16 = nI L ∧ L ≤ 320 ∧ ∀ i, i < L → I 105 i = nI (tb i) ∧ tb i < 256
def lkM (tb : Nat → Nat) (L p : Nat) : Int32 := if p < L then nI (tb p) else -1
set_option maxHeartbeats 400000 in
theorem c_X12_needs (n : Nat) (ρ : Rho) (I : Mem) (x z : Int32) (hn9 : n ≤ 999) (hms : MS n ρ) : MV yX12_needs cX12_needs 3 none 0 [.ref 97, .int x, .int z] n ρ I (fun I1 => (if x = 0 ∧ I 97 21 = 0 then wr (wr I 97 21 z) 97 22 (I 97 18) else I) = I1) := by
  refine MG.of (by decide +kernel) (Nat.le_of_ble_eq_true rfl) hn9 ?_
  intro κ C hR
  show G κ n ρ 0 [(0, .ref 97), (1, .int x), (2, .int z)] [] I
  obtain ⟨mn, ⟨m0, m1, m5, m6, m7, m11, m12, m15⟩, ⟨m23, m24, m26, m27, m28, m30, m31, m32, m33⟩, ⟨m38, m39, m40, m42⟩⟩ := id hms
  refine g_iload_n C (pc := 0) dX12_needs_0 1 rfl ?_
  refine g_if_ne C (pc := 1) 24 dX12_needs_1 (by decide) (fun c1 => ?_) (fun c1 => ?_)
  · refine g_vret C hR (pc := 24) rfl dX12_needs_24 ?_
    refine ⟨rfl, rfl, ?_⟩
    first
    | (rw [if_neg (fun h => c1 h.1)]; done)
    | (rw [if_neg (fun h => c8 h.2)]; done)
    | (rw [if_pos ⟨c1, c8⟩, wr_sn (show (18 : Nat) ≠ 21 by decide)])
  · refine g_aload_n C (pc := 4) dX12_needs_4 0 rfl ?_
    refine g_getI C (pc := 5) fl_RX12_117 (by decide) (by first | assumption | rfl | omega) (by first | assumption | rfl | omega) dX12_needs_5 ?_
    refine g_if_ne C (pc := 8) 24 dX12_needs_8 (by decide) (fun c8 => ?_) (fun c8 => ?_)
    · refine g_vret C hR (pc := 24) rfl dX12_needs_24 ?_
      refine ⟨rfl, rfl, ?_⟩
      first
      | (rw [if_neg (fun h => c1 h.1)]; done)
      | (rw [if_neg (fun h => c8 h.2)]; done)
      | (rw [if_pos ⟨c1, c8⟩, wr_sn (show (18 : Nat) ≠ 21 by decide)])
    · refine g_aload_n C (pc := 11) dX12_needs_11 0 rfl ?_
      refine g_iload_n C (pc := 12) dX12_needs_12 2 rfl ?_
      refine g_putI C (pc := 13) fl_RX12_117 (by decide) fp_11_21 (Or.inl rfl) ⟨rfl, rfl⟩ (by first | assumption | rfl | omega) (by first | assumption | rfl | omega) hn9 dX12_needs_13 ?_
      refine g_aload_n C (pc := 16) dX12_needs_16 0 rfl ?_
      refine g_aload_n C (pc := 17) dX12_needs_17 0 rfl ?_
      refine g_getI C (pc := 18) fl_RX12_120 (by decide) (by first | assumption | rfl | omega) (by first | assumption | rfl | omega) dX12_needs_18 ?_
      refine g_putI C (pc := 21) fl_RX12_123 (by decide) fp_11_22 (Or.inl rfl) ⟨rfl, rfl⟩ (by first | assumption | rfl | omega) (by first | assumption | rfl | omega) hn9 dX12_needs_21 ?_
      refine g_vret C hR (pc := 24) rfl dX12_needs_24 ?_
      refine ⟨rfl, rfl, ?_⟩
      first
      | (rw [if_neg (fun h => c1 h.1)]; done)
      | (rw [if_neg (fun h => c8 h.2)]; done)
      | (rw [if_pos ⟨c1, c8⟩, wr_sn (show (18 : Nat) ≠ 21 by decide)])
set_option maxHeartbeats 400000 in
theorem c_X12_look (n : Nat) (ρ : Rho) (I : Mem) (L : Nat) (tb : Nat → Nat) (p : Nat) (x : Int32) (hn9 : n ≤ 999) (hms : MS n ρ) (htb : TbM I L tb) (hp : p < 1000) (hx : x = nI p) : MI yX12_look cX12_look 2 (some .int) 0 [.ref 97, .int x] n ρ I (fun v I1 => v = lkM tb L p ∧ I = I1) := by
  refine MG.of (by decide +kernel) (Nat.le_of_ble_eq_true rfl) hn9 ?_
  intro κ C hR
  show G κ n ρ 0 [(0, .ref 97), (1, .int x)] [] I
  obtain ⟨mn, ⟨m0, m1, m5, m6, m7, m11, m12, m15⟩, ⟨m23, m24, m26, m27, m28, m30, m31, m32, m33⟩, ⟨m38, m39, m40, m42⟩⟩ := id hms
  have hL3 := htb.2.1
  refine g_iload_n C (pc := 0) dX12_look_0 1 rfl ?_
  refine g_aload_n C (pc := 1) dX12_look_1 0 rfl ?_
  refine g_getI C (pc := 2) fl_RX12_108 (by decide) (by first | assumption | rfl | omega) (by first | assumption | rfl | omega) dX12_look_2 ?_
  refine g_icmp_ge C (pc := 5) 17 dX12_look_5 (by decide) (fun c5 => ?_) (fun c5 => ?_)
  · have hge : L ≤ p := by
      rw [hx, htb.1, nI_leI (by omega) (by omega)] at c5
      exact c5
    refine g_iconst C (pc := 17) (-1) dX12_look_17 (by decide) ?_
    refine g_iret C hR (pc := 18) rfl dX12_look_18 ?_
    refine ⟨rfl, _, rfl, ?_⟩
    refine ⟨?_, rfl⟩
    unfold lkM
    first
    | (rw [if_pos hlt, hx, nI_clamp (by omega)]; exact (htb.2.2 p hlt).1)
    | (rw [if_neg (by omega)]; done)
  · have hlt : p < L := by
      rw [hx, htb.1, nI_ltI (by omega) (by omega)] at c5
      exact c5
    refine g_aload_n C (pc := 8) dX12_look_8 0 rfl ?_
    refine g_getR C (pc := 9) fl_RX12_32 (by decide) (by first | assumption | rfl | omega) (by first | assumption | rfl | omega) (by first | assumption | rfl | omega) dX12_look_9 ?_
    refine g_iload_n C (pc := 12) dX12_look_12 1 rfl ?_
    refine g_iald C (pc := 13) (by first | assumption | rfl | omega) (by first | assumption | rfl | omega) (by rw [hx]; exact vp_in_nI (by omega) (by decide)) dX12_look_13 ?_
    refine g_goto C (pc := 14) 18 dX12_look_14 (by decide) ?_
    refine g_iret C hR (pc := 18) rfl dX12_look_18 ?_
    refine ⟨rfl, _, rfl, ?_⟩
    refine ⟨?_, rfl⟩
    unfold lkM
    first
    | (rw [if_pos hlt, hx, nI_clamp (by omega)]; exact (htb.2.2 p hlt).1)
    | (rw [if_neg (by omega)]; done)
set_option maxHeartbeats 400000 in
theorem c_X12_is (n : Nat) (ρ : Rho) (I : Mem) (L : Nat) (tb : Nat → Nat) (e9 f9 k : Nat) (a c d : Int32) (x : Int32) (hn9 : n ≤ 999) (hms : MS n ρ) (htb : TbM I L tb) (hpo : I 97 17 = nI e9) (hfr : I 97 18 = nI f9) (hfe : f9 ≤ e9) (he : e9 ≤ 330) (hx : x = nI k) (hk : k < 100) : MI yX12_is cX12_is 5 (some .boolean) 1 [.ref 97, .int x, .int a, .int c, .int d] n ρ I (fun v I1 => v = bI (e9 - f9 = k ∧ lkM tb L f9 = a ∧ lkM tb L (f9 + 1) = c ∧ lkM tb L (f9 + 2) = d) ∧ I = I1) := by
  refine MG.of (by decide +kernel) (Nat.le_of_ble_eq_true rfl) hn9 ?_
  intro κ C hR
  show G κ n ρ 0 [(0, .ref 97), (1, .int x), (2, .int a), (3, .int c), (4, .int d)] [] I
  obtain ⟨mn, ⟨m0, m1, m5, m6, m7, m11, m12, m15⟩, ⟨m23, m24, m26, m27, m28, m30, m31, m32, m33⟩, ⟨m38, m39, m40, m42⟩⟩ := id hms
  refine g_aload_n C (pc := 0) dX12_is_0 0 rfl ?_
  refine g_getI C (pc := 1) fl_RX12_126 (by decide) (by first | assumption | rfl | omega) (by first | assumption | rfl | omega) dX12_is_1 ?_
  refine g_aload_n C (pc := 4) dX12_is_4 0 rfl ?_
  refine g_getI C (pc := 5) fl_RX12_120 (by decide) (by first | assumption | rfl | omega) (by first | assumption | rfl | omega) dX12_is_5 ?_
  refine g_isub C (pc := 8) dX12_is_8 ?_
  refine g_iload_n C (pc := 9) dX12_is_9 1 rfl ?_
  rw [hpo, hfr, pk_sub hfe, hx]
  refine g_icmp_ne C (pc := 10) 58 dX12_is_10 (by decide) (fun c10 => ?_) (fun c10 => ?_)
  · have hno : ¬ e9 - f9 = k := fun h => c10 (by rw [h])
    refine g_iconst C (pc := 58) 0 dX12_is_58 (by decide) ?_
    refine g_zret C hR (pc := 59) rfl (by first | rfl | skip) dX12_is_59 ?_
    refine ⟨rfl, _, rfl, ?_⟩
    refine ⟨?_, rfl⟩
    symm
    first
    | exact bI_f (fun h => hno h.1)
    | exact bI_t ⟨h1, e18.symm.trans c22, e32.symm.trans c36, e46.symm.trans c51⟩
    | exact bI_f (fun h => c22 (e18.trans h.2.1))
    | exact bI_f (fun h => c36 (e32.trans h.2.2.1))
    | exact bI_f (fun h => c51 (e46.trans h.2.2.2))
  · have h1 : e9 - f9 = k := (nI_eq (by omega) (by omega)).mp c10
    refine g_aload_n C (pc := 13) dX12_is_13 0 rfl ?_
    refine g_aload_n C (pc := 14) dX12_is_14 0 rfl ?_
    refine g_getI C (pc := 15) fl_RX12_120 (by decide) (by first | assumption | rfl | omega) (by first | assumption | rfl | omega) dX12_is_15 ?_
    refine g_callVI C (pc := 18) mf_X12_look lk_RX12_129 (c_X12_look n ρ I L tb f9 _ hn9 hms htb (by omega) hfr) (by decide) (Nat.le_refl _) rfl (by first | assumption | rfl | omega) rfl (by first | assumption | rfl | omega) (Nat.le_of_ble_eq_true rfl) dX12_is_18 (fun v18 I18 h18 => ?_)
    obtain ⟨e18, rfl⟩ := h18
    refine g_iload_n C (pc := 21) dX12_is_21 2 rfl ?_
    refine g_icmp_ne C (pc := 22) 58 dX12_is_22 (by decide) (fun c22 => ?_) (fun c22 => ?_)
    · refine g_iconst C (pc := 58) 0 dX12_is_58 (by decide) ?_
      refine g_zret C hR (pc := 59) rfl (by first | rfl | skip) dX12_is_59 ?_
      refine ⟨rfl, _, rfl, ?_⟩
      refine ⟨?_, rfl⟩
      symm
      first
      | exact bI_f (fun h => hno h.1)
      | exact bI_t ⟨h1, e18.symm.trans c22, e32.symm.trans c36, e46.symm.trans c51⟩
      | exact bI_f (fun h => c22 (e18.trans h.2.1))
      | exact bI_f (fun h => c36 (e32.trans h.2.2.1))
      | exact bI_f (fun h => c51 (e46.trans h.2.2.2))
    · refine g_aload_n C (pc := 25) dX12_is_25 0 rfl ?_
      refine g_aload_n C (pc := 26) dX12_is_26 0 rfl ?_
      refine g_getI C (pc := 27) fl_RX12_120 (by decide) (by first | assumption | rfl | omega) (by first | assumption | rfl | omega) dX12_is_27 ?_
      refine g_iconst C (pc := 30) 1 dX12_is_30 (by decide) ?_
      refine g_iadd C (pc := 31) dX12_is_31 ?_
      refine g_callVI C (pc := 32) mf_X12_look lk_RX12_129 (c_X12_look n ρ I L tb (f9 + 1) _ hn9 hms htb (by omega) (by rw [hfr, show (1 : Int32) = nI 1 from rfl, nI_add])) (by decide) (Nat.le_refl _) rfl (by first | assumption | rfl | omega) rfl (by first | assumption | rfl | omega) (Nat.le_of_ble_eq_true rfl) dX12_is_32 (fun v32 I32 h32 => ?_)
      obtain ⟨e32, rfl⟩ := h32
      refine g_iload_n C (pc := 35) dX12_is_35 3 rfl ?_
      refine g_icmp_ne C (pc := 36) 58 dX12_is_36 (by decide) (fun c36 => ?_) (fun c36 => ?_)
      · refine g_iconst C (pc := 58) 0 dX12_is_58 (by decide) ?_
        refine g_zret C hR (pc := 59) rfl (by first | rfl | skip) dX12_is_59 ?_
        refine ⟨rfl, _, rfl, ?_⟩
        refine ⟨?_, rfl⟩
        symm
        first
        | exact bI_f (fun h => hno h.1)
        | exact bI_t ⟨h1, e18.symm.trans c22, e32.symm.trans c36, e46.symm.trans c51⟩
        | exact bI_f (fun h => c22 (e18.trans h.2.1))
        | exact bI_f (fun h => c36 (e32.trans h.2.2.1))
        | exact bI_f (fun h => c51 (e46.trans h.2.2.2))
      · refine g_aload_n C (pc := 39) dX12_is_39 0 rfl ?_
        refine g_aload_n C (pc := 40) dX12_is_40 0 rfl ?_
        refine g_getI C (pc := 41) fl_RX12_120 (by decide) (by first | assumption | rfl | omega) (by first | assumption | rfl | omega) dX12_is_41 ?_
        refine g_iconst C (pc := 44) 2 dX12_is_44 (by decide) ?_
        refine g_iadd C (pc := 45) dX12_is_45 ?_
        refine g_callVI C (pc := 46) mf_X12_look lk_RX12_129 (c_X12_look n ρ I L tb (f9 + 2) _ hn9 hms htb (by omega) (by rw [hfr, show (2 : Int32) = nI 2 from rfl, nI_add])) (by decide) (Nat.le_refl _) rfl (by first | assumption | rfl | omega) rfl (by first | assumption | rfl | omega) (Nat.le_of_ble_eq_true rfl) dX12_is_46 (fun v46 I46 h46 => ?_)
        obtain ⟨e46, rfl⟩ := h46
        refine g_iload C (pc := 49) dX12_is_49 4 rfl ?_
        refine g_icmp_ne C (pc := 51) 58 dX12_is_51 (by decide) (fun c51 => ?_) (fun c51 => ?_)
        · refine g_iconst C (pc := 58) 0 dX12_is_58 (by decide) ?_
          refine g_zret C hR (pc := 59) rfl (by first | rfl | skip) dX12_is_59 ?_
          refine ⟨rfl, _, rfl, ?_⟩
          refine ⟨?_, rfl⟩
          symm
          first
          | exact bI_f (fun h => hno h.1)
          | exact bI_t ⟨h1, e18.symm.trans c22, e32.symm.trans c36, e46.symm.trans c51⟩
          | exact bI_f (fun h => c22 (e18.trans h.2.1))
          | exact bI_f (fun h => c36 (e32.trans h.2.2.1))
          | exact bI_f (fun h => c51 (e46.trans h.2.2.2))
        · refine g_iconst C (pc := 54) 1 dX12_is_54 (by decide) ?_
          refine g_goto C (pc := 55) 59 dX12_is_55 (by decide) ?_
          refine g_zret C hR (pc := 59) rfl (by first | rfl | skip) dX12_is_59 ?_
          refine ⟨rfl, _, rfl, ?_⟩
          refine ⟨?_, rfl⟩
          symm
          first
          | exact bI_f (fun h => hno h.1)
          | exact bI_t ⟨h1, e18.symm.trans c22, e32.symm.trans c36, e46.symm.trans c51⟩
          | exact bI_f (fun h => c22 (e18.trans h.2.1))
          | exact bI_f (fun h => c36 (e32.trans h.2.2.1))
          | exact bI_f (fun h => c51 (e46.trans h.2.2.2))
set_option maxHeartbeats 400000 in
theorem c_X12_ends (n : Nat) (ρ : Rho) (I : Mem) (L : Nat) (tb : Nat → Nat) (f9 : Nat) (a c d : Int32) (hn9 : n ≤ 999) (hms : MS n ρ) (htb : TbM I L tb) (hfr : I 97 18 = nI f9) (hf : f9 ≤ 330) : MI yX12_ends cX12_ends 4 (some .boolean) 1 [.ref 97, .int a, .int c, .int d] n ρ I (fun v I1 => v = bI (lkM tb L (f9 + 3) = a ∧ (c = 0 ∨ lkM tb L (f9 + 4) = c) ∧ (d = 0 ∨ lkM tb L (f9 + 5) = d)) ∧ I = I1) := by
  refine MG.of (by decide +kernel) (Nat.le_of_ble_eq_true rfl) hn9 ?_
  intro κ C hR
  show G κ n ρ 0 [(0, .ref 97), (1, .int a), (2, .int c), (3, .int d)] [] I
  obtain ⟨mn, ⟨m0, m1, m5, m6, m7, m11, m12, m15⟩, ⟨m23, m24, m26, m27, m28, m30, m31, m32, m33⟩, ⟨m38, m39, m40, m42⟩⟩ := id hms
  refine g_aload_n C (pc := 0) dX12_ends_0 0 rfl ?_
  refine g_aload_n C (pc := 1) dX12_ends_1 0 rfl ?_
  refine g_getI C (pc := 2) fl_RX12_120 (by decide) (by first | assumption | rfl | omega) (by first | assumption | rfl | omega) dX12_ends_2 ?_
  refine g_iconst C (pc := 5) 3 dX12_ends_5 (by decide) ?_
  refine g_iadd C (pc := 6) dX12_ends_6 ?_
  refine g_callVI C (pc := 7) mf_X12_look lk_RX12_129 (c_X12_look n ρ I L tb (f9 + 3) _ hn9 hms htb (by omega) (by rw [hfr, show (3 : Int32) = nI 3 from rfl, nI_add])) (by decide) (Nat.le_refl _) rfl (by first | assumption | rfl | omega) rfl (by first | assumption | rfl | omega) (Nat.le_of_ble_eq_true rfl) dX12_ends_7 (fun v7 I7 h7 => ?_)
  obtain ⟨e7, rfl⟩ := h7
  refine g_iload_n C (pc := 10) dX12_ends_10 1 rfl ?_
  refine g_icmp_ne C (pc := 11) 54 dX12_ends_11 (by decide) (fun c11 => ?_) (fun c11 => ?_)
  · refine g_iconst C (pc := 54) 0 dX12_ends_54 (by decide) ?_
    refine g_zret C hR (pc := 55) rfl (by first | rfl | skip) dX12_ends_55 ?_
    refine ⟨rfl, _, rfl, ?_⟩
    refine ⟨?_, rfl⟩
    symm
    first
    | exact bI_f (fun h => c11 (e7.trans h.1))
    | exact bI_t ⟨e7.symm.trans c11, Or.inl c15, Or.inl c33⟩
    | exact bI_t ⟨e7.symm.trans c11, Or.inr (e25.symm.trans c29), Or.inl c33⟩
    | exact bI_t ⟨e7.symm.trans c11, Or.inl c15, Or.inr (e43.symm.trans c47)⟩
    | exact bI_t ⟨e7.symm.trans c11, Or.inr (e25.symm.trans c29), Or.inr (e43.symm.trans c47)⟩
    | exact bI_f (fun h => h.2.1.elim c15 (fun h9 => c29 (e25.trans h9)))
    | exact bI_f (fun h => h.2.2.elim c33 (fun h9 => c47 (e43.trans h9)))
  · refine g_iload_n C (pc := 14) dX12_ends_14 2 rfl ?_
    refine g_if_eq C (pc := 15) 32 dX12_ends_15 (by decide) (fun c15 => ?_) (fun c15 => ?_)
    · refine g_iload_n C (pc := 32) dX12_ends_32 3 rfl ?_
      refine g_if_eq C (pc := 33) 50 dX12_ends_33 (by decide) (fun c33 => ?_) (fun c33 => ?_)
      · refine g_iconst C (pc := 50) 1 dX12_ends_50 (by decide) ?_
        refine g_goto C (pc := 51) 55 dX12_ends_51 (by decide) ?_
        refine g_zret C hR (pc := 55) rfl (by first | rfl | skip) dX12_ends_55 ?_
        refine ⟨rfl, _, rfl, ?_⟩
        refine ⟨?_, rfl⟩
        symm
        first
        | exact bI_f (fun h => c11 (e7.trans h.1))
        | exact bI_t ⟨e7.symm.trans c11, Or.inl c15, Or.inl c33⟩
        | exact bI_t ⟨e7.symm.trans c11, Or.inr (e25.symm.trans c29), Or.inl c33⟩
        | exact bI_t ⟨e7.symm.trans c11, Or.inl c15, Or.inr (e43.symm.trans c47)⟩
        | exact bI_t ⟨e7.symm.trans c11, Or.inr (e25.symm.trans c29), Or.inr (e43.symm.trans c47)⟩
        | exact bI_f (fun h => h.2.1.elim c15 (fun h9 => c29 (e25.trans h9)))
        | exact bI_f (fun h => h.2.2.elim c33 (fun h9 => c47 (e43.trans h9)))
      · refine g_aload_n C (pc := 36) dX12_ends_36 0 rfl ?_
        refine g_aload_n C (pc := 37) dX12_ends_37 0 rfl ?_
        refine g_getI C (pc := 38) fl_RX12_120 (by decide) (by first | assumption | rfl | omega) (by first | assumption | rfl | omega) dX12_ends_38 ?_
        refine g_iconst C (pc := 41) 5 dX12_ends_41 (by decide) ?_
        refine g_iadd C (pc := 42) dX12_ends_42 ?_
        refine g_callVI C (pc := 43) mf_X12_look lk_RX12_129 (c_X12_look n ρ I L tb (f9 + 5) _ hn9 hms htb (by omega) (by rw [hfr, show (5 : Int32) = nI 5 from rfl, nI_add])) (by decide) (Nat.le_refl _) rfl (by first | assumption | rfl | omega) rfl (by first | assumption | rfl | omega) (Nat.le_of_ble_eq_true rfl) dX12_ends_43 (fun v43 I43 h43 => ?_)
        obtain ⟨e43, rfl⟩ := h43
        refine g_iload_n C (pc := 46) dX12_ends_46 3 rfl ?_
        refine g_icmp_ne C (pc := 47) 54 dX12_ends_47 (by decide) (fun c47 => ?_) (fun c47 => ?_)
        · refine g_iconst C (pc := 54) 0 dX12_ends_54 (by decide) ?_
          refine g_zret C hR (pc := 55) rfl (by first | rfl | skip) dX12_ends_55 ?_
          refine ⟨rfl, _, rfl, ?_⟩
          refine ⟨?_, rfl⟩
          symm
          first
          | exact bI_f (fun h => c11 (e7.trans h.1))
          | exact bI_t ⟨e7.symm.trans c11, Or.inl c15, Or.inl c33⟩
          | exact bI_t ⟨e7.symm.trans c11, Or.inr (e25.symm.trans c29), Or.inl c33⟩
          | exact bI_t ⟨e7.symm.trans c11, Or.inl c15, Or.inr (e43.symm.trans c47)⟩
          | exact bI_t ⟨e7.symm.trans c11, Or.inr (e25.symm.trans c29), Or.inr (e43.symm.trans c47)⟩
          | exact bI_f (fun h => h.2.1.elim c15 (fun h9 => c29 (e25.trans h9)))
          | exact bI_f (fun h => h.2.2.elim c33 (fun h9 => c47 (e43.trans h9)))
        · refine g_iconst C (pc := 50) 1 dX12_ends_50 (by decide) ?_
          refine g_goto C (pc := 51) 55 dX12_ends_51 (by decide) ?_
          refine g_zret C hR (pc := 55) rfl (by first | rfl | skip) dX12_ends_55 ?_
          refine ⟨rfl, _, rfl, ?_⟩
          refine ⟨?_, rfl⟩
          symm
          first
          | exact bI_f (fun h => c11 (e7.trans h.1))
          | exact bI_t ⟨e7.symm.trans c11, Or.inl c15, Or.inl c33⟩
          | exact bI_t ⟨e7.symm.trans c11, Or.inr (e25.symm.trans c29), Or.inl c33⟩
          | exact bI_t ⟨e7.symm.trans c11, Or.inl c15, Or.inr (e43.symm.trans c47)⟩
          | exact bI_t ⟨e7.symm.trans c11, Or.inr (e25.symm.trans c29), Or.inr (e43.symm.trans c47)⟩
          | exact bI_f (fun h => h.2.1.elim c15 (fun h9 => c29 (e25.trans h9)))
          | exact bI_f (fun h => h.2.2.elim c33 (fun h9 => c47 (e43.trans h9)))
    · refine g_aload_n C (pc := 18) dX12_ends_18 0 rfl ?_
      refine g_aload_n C (pc := 19) dX12_ends_19 0 rfl ?_
      refine g_getI C (pc := 20) fl_RX12_120 (by decide) (by first | assumption | rfl | omega) (by first | assumption | rfl | omega) dX12_ends_20 ?_
      refine g_iconst C (pc := 23) 4 dX12_ends_23 (by decide) ?_
      refine g_iadd C (pc := 24) dX12_ends_24 ?_
      refine g_callVI C (pc := 25) mf_X12_look lk_RX12_129 (c_X12_look n ρ I L tb (f9 + 4) _ hn9 hms htb (by omega) (by rw [hfr, show (4 : Int32) = nI 4 from rfl, nI_add])) (by decide) (Nat.le_refl _) rfl (by first | assumption | rfl | omega) rfl (by first | assumption | rfl | omega) (Nat.le_of_ble_eq_true rfl) dX12_ends_25 (fun v25 I25 h25 => ?_)
      obtain ⟨e25, rfl⟩ := h25
      refine g_iload_n C (pc := 28) dX12_ends_28 2 rfl ?_
      refine g_icmp_ne C (pc := 29) 54 dX12_ends_29 (by decide) (fun c29 => ?_) (fun c29 => ?_)
      · refine g_iconst C (pc := 54) 0 dX12_ends_54 (by decide) ?_
        refine g_zret C hR (pc := 55) rfl (by first | rfl | skip) dX12_ends_55 ?_
        refine ⟨rfl, _, rfl, ?_⟩
        refine ⟨?_, rfl⟩
        symm
        first
        | exact bI_f (fun h => c11 (e7.trans h.1))
        | exact bI_t ⟨e7.symm.trans c11, Or.inl c15, Or.inl c33⟩
        | exact bI_t ⟨e7.symm.trans c11, Or.inr (e25.symm.trans c29), Or.inl c33⟩
        | exact bI_t ⟨e7.symm.trans c11, Or.inl c15, Or.inr (e43.symm.trans c47)⟩
        | exact bI_t ⟨e7.symm.trans c11, Or.inr (e25.symm.trans c29), Or.inr (e43.symm.trans c47)⟩
        | exact bI_f (fun h => h.2.1.elim c15 (fun h9 => c29 (e25.trans h9)))
        | exact bI_f (fun h => h.2.2.elim c33 (fun h9 => c47 (e43.trans h9)))
      · refine g_iload_n C (pc := 32) dX12_ends_32 3 rfl ?_
        refine g_if_eq C (pc := 33) 50 dX12_ends_33 (by decide) (fun c33 => ?_) (fun c33 => ?_)
        · refine g_iconst C (pc := 50) 1 dX12_ends_50 (by decide) ?_
          refine g_goto C (pc := 51) 55 dX12_ends_51 (by decide) ?_
          refine g_zret C hR (pc := 55) rfl (by first | rfl | skip) dX12_ends_55 ?_
          refine ⟨rfl, _, rfl, ?_⟩
          refine ⟨?_, rfl⟩
          symm
          first
          | exact bI_f (fun h => c11 (e7.trans h.1))
          | exact bI_t ⟨e7.symm.trans c11, Or.inl c15, Or.inl c33⟩
          | exact bI_t ⟨e7.symm.trans c11, Or.inr (e25.symm.trans c29), Or.inl c33⟩
          | exact bI_t ⟨e7.symm.trans c11, Or.inl c15, Or.inr (e43.symm.trans c47)⟩
          | exact bI_t ⟨e7.symm.trans c11, Or.inr (e25.symm.trans c29), Or.inr (e43.symm.trans c47)⟩
          | exact bI_f (fun h => h.2.1.elim c15 (fun h9 => c29 (e25.trans h9)))
          | exact bI_f (fun h => h.2.2.elim c33 (fun h9 => c47 (e43.trans h9)))
        · refine g_aload_n C (pc := 36) dX12_ends_36 0 rfl ?_
          refine g_aload_n C (pc := 37) dX12_ends_37 0 rfl ?_
          refine g_getI C (pc := 38) fl_RX12_120 (by decide) (by first | assumption | rfl | omega) (by first | assumption | rfl | omega) dX12_ends_38 ?_
          refine g_iconst C (pc := 41) 5 dX12_ends_41 (by decide) ?_
          refine g_iadd C (pc := 42) dX12_ends_42 ?_
          refine g_callVI C (pc := 43) mf_X12_look lk_RX12_129 (c_X12_look n ρ I L tb (f9 + 5) _ hn9 hms htb (by omega) (by rw [hfr, show (5 : Int32) = nI 5 from rfl, nI_add])) (by decide) (Nat.le_refl _) rfl (by first | assumption | rfl | omega) rfl (by first | assumption | rfl | omega) (Nat.le_of_ble_eq_true rfl) dX12_ends_43 (fun v43 I43 h43 => ?_)
          obtain ⟨e43, rfl⟩ := h43
          refine g_iload_n C (pc := 46) dX12_ends_46 3 rfl ?_
          refine g_icmp_ne C (pc := 47) 54 dX12_ends_47 (by decide) (fun c47 => ?_) (fun c47 => ?_)
          · refine g_iconst C (pc := 54) 0 dX12_ends_54 (by decide) ?_
            refine g_zret C hR (pc := 55) rfl (by first | rfl | skip) dX12_ends_55 ?_
            refine ⟨rfl, _, rfl, ?_⟩
            refine ⟨?_, rfl⟩
            symm
            first
            | exact bI_f (fun h => c11 (e7.trans h.1))
            | exact bI_t ⟨e7.symm.trans c11, Or.inl c15, Or.inl c33⟩
            | exact bI_t ⟨e7.symm.trans c11, Or.inr (e25.symm.trans c29), Or.inl c33⟩
            | exact bI_t ⟨e7.symm.trans c11, Or.inl c15, Or.inr (e43.symm.trans c47)⟩
            | exact bI_t ⟨e7.symm.trans c11, Or.inr (e25.symm.trans c29), Or.inr (e43.symm.trans c47)⟩
            | exact bI_f (fun h => h.2.1.elim c15 (fun h9 => c29 (e25.trans h9)))
            | exact bI_f (fun h => h.2.2.elim c33 (fun h9 => c47 (e43.trans h9)))
          · refine g_iconst C (pc := 50) 1 dX12_ends_50 (by decide) ?_
            refine g_goto C (pc := 51) 55 dX12_ends_51 (by decide) ?_
            refine g_zret C hR (pc := 55) rfl (by first | rfl | skip) dX12_ends_55 ?_
            refine ⟨rfl, _, rfl, ?_⟩
            refine ⟨?_, rfl⟩
            symm
            first
            | exact bI_f (fun h => c11 (e7.trans h.1))
            | exact bI_t ⟨e7.symm.trans c11, Or.inl c15, Or.inl c33⟩
            | exact bI_t ⟨e7.symm.trans c11, Or.inr (e25.symm.trans c29), Or.inl c33⟩
            | exact bI_t ⟨e7.symm.trans c11, Or.inl c15, Or.inr (e43.symm.trans c47)⟩
            | exact bI_t ⟨e7.symm.trans c11, Or.inr (e25.symm.trans c29), Or.inr (e43.symm.trans c47)⟩
            | exact bI_f (fun h => h.2.1.elim c15 (fun h9 => c29 (e25.trans h9)))
            | exact bI_f (fun h => h.2.2.elim c33 (fun h9 => c47 (e43.trans h9)))
