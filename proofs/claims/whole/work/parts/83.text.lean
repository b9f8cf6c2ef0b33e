/-- a text half read: faulted, or its next token stands *)-/
def TxS (tb : Nat → Nat) (L : Nat) (J : Mem) (m : Int32) (p : Nat) : Prop := (∃ e, txR tb L = .inl e ∧ FT J e) ∨ (∃ k n D, p ≤ L ∧ m = nI n ∧ n ≤ p ∧ L < p + k ∧ txR tb L = rdAll tb L k D n p ∧ PT J tb L p ∧ tkK tb L p ≠ 0 ∧ DrM J D)
theorem tk4 {tb : Nat → Nat} {L p : Nat} (hp : p ≤ L) : tkK tb L p = 4 → tkF tb L p = L := by
  intro h
  have h1 := tkF_le (tb := tb) hp
  unfold tkK at h
  split at h
  · omega
  · split at h
    · cases h
    · split at h
      · cases h
      · split at h
        · split at h <;> cases h
        · cases h
theorem rdAll_0 {tb : Nat → Nat} {L k n p : Nat} {D : DT} (h : tkK tb L p = 0) : rdAll tb L (k + 1) D n p = .inl (1, tkF tb L p) := by rw [rdAll, if_pos h]
theorem rdAll_4 {tb : Nat → Nat} {L k n p : Nat} {D : DT} (h : tkK tb L p = 4) : rdAll tb L (k + 1) D n p = pb (whlD L D) (fun q => .inr (n, q.1, q.2)) := by rw [rdAll, if_neg (by omega), if_pos h]
theorem rdAll_l {tb : Nat → Nat} {L k n p : Nat} {D : DT} (h0 : tkK tb L p ≠ 0) (h4 : tkK tb L p ≠ 4) : rdAll tb L (k + 1) D n p = pb (rdLine tb L D (tkK tb L p) (tkF tb L p) (tkE tb L p)) fun q => rdAll tb L k q.1 (n + 1) q.2 := by rw [rdAll, if_neg h0, if_neg h4]
/-- from a line to the next one *)-/
theorem TxS.next {tb : Nat → Nat} {L p k n : Nat} {D : DT} {I J : Mem} {m : Int32} (hp : p ≤ L) (hn : n ≤ p) (hk : L < p + k) (hT : txR tb L = rdAll tb L k D n p) (hrw : RW (dF D)) (h0 : tkK tb L p ≠ 0) (h4 : tkK tb L p ≠ 4) (hl : LnO tb L (rdLine tb L D (tkK tb L p) (tkF tb L p) (tkE tb L p)) I J) (hm : m = nI (n + 1)) : ∃ p', p < p' ∧ p' ≤ L + 1 ∧ TxS tb L J m p' := by
  obtain ⟨k, rfl⟩ : ∃ k', k = k' + 1 := ⟨k - 1, by omega⟩
  rw [rdAll_l h0 h4] at hT
  obtain ⟨hs, hd, -⟩ := hl
  have hE := tkE_le (tb := tb) hp
  have hF := tkF_le (tb := tb) hp
  have hG := tkE_gt hp h0 h4
  cases e : rdLine tb L D (tkK tb L p) (tkF tb L p) (tkE tb L p) with
  | inl x =>
    rw [e] at hs hT
    exact ⟨L + 1, by omega, Nat.le_refl _, Or.inl ⟨x, hT, hs⟩⟩
  | inr r =>
    rw [e] at hs hT hd
    have hge := rdLine_ge hE.2 hF.2 e hrw
    obtain ⟨hr, hN⟩ := hs
    obtain ⟨k, rfl⟩ : ∃ k', k = k' + 1 := ⟨k - 1, by omega⟩
    rcases hN with ⟨h9, hft⟩ | ⟨h9, hpt⟩
    · refine ⟨L + 1, by omega, Nat.le_refl _, Or.inl ⟨_, ?_, hft⟩⟩
      rw [hT]; exact rdAll_0 h9
    · exact ⟨r.2, by omega, by omega, Or.inr ⟨k + 1, n + 1, r.1, hr, hm, by omega, by omega, hT, hpt, h9, hd hpt.1 r rfl⟩⟩
set_option maxHeartbeats 1600000 in
theorem c_X12_text (n : Nat) (ρ : Rho) (I : Mem) (L : Nat) (tb : Nat → Nat) (hn9 : n ≤ 999) (hms : MS n ρ) (htb : TbM I L tb) : MI yX12_text cX12_text 2 (some .int) 6 [.ref 97] n ρ I (fun v I1 => (∃ e, txR tb L = .inl e ∧ v = -10 - nI e.2 ∧ I1 97 21 = nI e.1 ∧ I1 97 16 = 0 ∧ (∀ i, i ≠ 97 → i ≠ 102 → i ≠ 103 → i ≠ 104 → I1 i = I i) ∧ ∀ z, z < 8 ∨ 22 < z → I1 97 z = I 97 z) ∨ (∃ q, txR tb L = .inr q ∧ v = nI q.1 ∧ I1 97 21 = 0 ∧ I1 97 16 = 0 ∧ QN I1 q.2.1 q.2.2 ∧ RW q.2.1 ∧ BW q.2.1 q.2.2 ∧ I1 98 19 = 0 ∧ I1 98 20 = 0 ∧ I1 98 37 = 0 ∧ (∀ k, k < 2 → I1 99 k = 0) ∧ (∀ i, i < 97 ∨ 104 < i → I1 i = I i) ∧ ∀ z, 22 < z → I1 97 z = I 97 z)) := by
  refine MG.of (by decide +kernel) (Nat.le_of_ble_eq_true rfl) hn9 ?_
  intro κ C hR
  show G κ n ρ 0 [(0, .ref 97)] [] I
  obtain ⟨mn, ⟨m0, m1, m5, m6, m7, m11, m12, m15⟩, ⟨m23, m24, m26, m27, m28, m30, m31, m32, m33⟩, ⟨m38, m39, m40, m42⟩⟩ := id hms
  have htt : ∀ p, p < L → tb p < 256 := fun p hp => (htb.2.2 p hp).2
  have hL3 := htb.2.1
  refine g_iconst C (pc := 0) 0 dX12_text_0 (by decide) ?_
  refine g_istore_n C (pc := 1) dX12_text_1 (by decide) (fun v1 => [(1, .int v1), (0, .ref 97)]) (fun _ => rfl) (fun v1 ev1 => ?_)
  refine g_aload_n C (pc := 2) dX12_text_2 1 rfl ?_
  refine g_iconst C (pc := 3) 0 dX12_text_3 (by decide) ?_
  refine g_putI C (pc := 4) fl_RX12_117 (by decide) fp_11_21 (Or.inl rfl) ⟨rfl, rfl⟩ (by first | assumption | rfl | omega) (by first | assumption | rfl | omega) hn9 dX12_text_4 ?_
  refine g_aload_n C (pc := 7) dX12_text_7 1 rfl ?_
  refine g_iconst C (pc := 8) 0 dX12_text_8 (by decide) ?_
  refine g_putI C (pc := 9) fl_RX12_126 (by decide) fp_11_17 (Or.inl rfl) ⟨rfl, rfl⟩ (by first | assumption | rfl | omega) (by first | assumption | rfl | omega) hn9 dX12_text_9 ?_
  obtain ⟨I9, hI9⟩ : ∃ I9, I9 = wr (wr I 97 21 0) 97 17 0 := ⟨_, rfl⟩
  rw [← hI9]
  have l9 : Lx I I9 := by rw [hI9]; exact (Lx.w (by decide) (by decide)).trans (Lx.w (by decide) (by decide))
  refine g_aload_n C (pc := 12) dX12_text_12 1 rfl ?_
  refine g_callVV C (pc := 13) mf_X12_firstDraft lk_RX12_74 (c_X12_firstDraft n ρ _ hn9 hms) (by decide) (Nat.le_refl _) rfl (by first | assumption | rfl | omega) rfl (by first | assumption | rfl | omega) (Nat.le_of_ble_eq_true rfl) dX12_text_13 (fun I13 h13 => ?_)
  obtain ⟨h13, z13, g13⟩ := h13
  have htb13 : TbM I13 L tb := (htb.lx l9).cg (z13 16 (by decide) (by decide) (by decide) (by decide) (by decide)) (g13 105 (by decide) (by decide))
  have hCn : Cn I13 L (.inr 0) := ⟨by rw [z13 21 (by decide) (by decide) (by decide) (by decide) (by decide), hI9, wr_sn (by decide), wr_ss], by rw [z13 17 (by decide) (by decide) (by decide) (by decide) (by decide), hI9, wr_ss]; rfl, Nat.zero_le _⟩
  refine g_aload_n C (pc := 16) dX12_text_16 1 rfl ?_
  refine g_callVV C (pc := 17) mf_X12_next lk_RX12_163 (nxt_any (s := .inr 0) hn9 hms htb13 hCn) (by decide) (Nat.le_refl _) rfl (by first | assumption | rfl | omega) rfl (by first | assumption | rfl | omega) (Nat.le_of_ble_eq_true rfl) dX12_text_17 (fun I17 h17 => ?_)
  obtain ⟨s17, l17⟩ := h17
  have hF9 : ∀ i, i ≠ 97 → i ≠ 102 → i ≠ 103 → i ≠ 104 → I17 i = I i := fun i h1 h2 _ _ => by rw [l17.2 i h1, g13 i h1 h2, l9.2 i h1]
  have hZ9 : ∀ z, z < 8 ∨ 22 < z → I17 97 z = I 97 z := fun z hz => by rw [l17.1 z (by omega), z13 z (by omega) (by omega) (by omega) (by omega) (by omega), l9.1 z (by omega)]
  have h169 : I17 97 16 = I 97 16 := by rw [l17.1 16 (by decide), z13 16 (by decide) (by decide) (by decide) (by decide) (by decide), l9.1 16 (by decide)]
  obtain ⟨p9, hp9, hS9⟩ : ∃ p9, p9 ≤ L + 1 ∧ TxS tb L I17 v1 p9 := by
    obtain ⟨-, hN⟩ := s17
    rcases hN with ⟨h9, hft⟩ | ⟨h9, hpt⟩
    · exact ⟨0, by omega, Or.inl ⟨_, rdAll_0 h9, hft⟩⟩
    · refine ⟨0, by omega, Or.inr ⟨L + 1, 0, dr0, Nat.zero_le _, by rw [ev1]; rfl, Nat.le_refl _, by omega, rfl, hpt, h9, ?_⟩⟩
      obtain ⟨q1, q2, q3⟩ := DrM_iff.mp h13
      exact DrM_iff.mpr ⟨q1.ly l17.y, by rw [l17.1 13 (by decide)]; exact q2, by rw [l17.1 14 (by decide)]; exact q3⟩
  have L20 : ∀ (k9 : Nat) (p : Nat) (wz1 : Int32) (J : Mem) (hp1 : p ≤ L + 1) (hS : TxS tb L J wz1 p) (hF : ∀ i, i ≠ 97 → i ≠ 102 → i ≠ 103 → i ≠ 104 → J i = I i) (hZ : ∀ z, z < 8 ∨ 22 < z → J 97 z = I 97 z) (h16 : J 97 16 = I 97 16), L + 1 - p < k9 → G κ n ρ 20 [(1, .int wz1), (0, .ref 97)] [] J := by
    intro k9
    induction k9 with
    | zero => intro p wz1 J hp1 hS hF hZ h16 hm20; exact absurd hm20 (Nat.not_lt_zero _)
    | succ k9 ih20 =>
      intro p wz1 J hp1 hS hF hZ h16 hm20
      have htbJ : TbM J L tb := htb.cg h16 (hF 105 (by decide) (by decide) (by decide) (by decide))
      refine g_aload_n C (pc := 20) dX12_text_20 1 rfl ?_
      refine g_getI C (pc := 21) fl_RX12_117 (by decide) (by first | assumption | rfl | omega) (by first | assumption | rfl | omega) dX12_text_21 ?_
      refine g_if_ne C (pc := 24) 44 dX12_text_24 (by decide) (fun c24 => ?_) (fun c24 => ?_)
      · obtain ⟨e, hTe, hft⟩ : ∃ e, txR tb L = .inl e ∧ FT J e := by
          rcases hS with h9 | ⟨k, n9, D, -, -, -, -, -, h9, -⟩
          · exact h9
          · exact absurd h9.1 c24
        refine g_aload_n C (pc := 44) dX12_text_44 1 rfl ?_
        refine g_getI C (pc := 45) fl_RX12_117 (by decide) (by first | assumption | rfl | omega) (by first | assumption | rfl | omega) dX12_text_45 ?_
        refine g_if_ne C (pc := 48) 55 dX12_text_48 (by decide) (fun c48 => ?_) (fun c48 => ?_)
        · first
          | (obtain ⟨K, hK⟩ : ∃ K, K = wr J 97 16 0 := ⟨_, rfl⟩
             have hFK : ∀ i, i ≠ 97 → i ≠ 102 → i ≠ 103 → i ≠ 104 → K i = I i := fun i h1 h2 h3 h4 => by rw [hK, wr_n h1]; exact hF i h1 h2 h3 h4
             have hZK : ∀ z, z ≠ 16 → z < 8 ∨ 22 < z → K 97 z = I 97 z := fun z h1 h2 => by rw [hK, wr_sn h1]; exact hZ z h2
             have hfK : FT K e := by
               unfold FT at hft ⊢
               rw [hK, wr_sn (by decide), wr_sn (by decide)]; exact hft
             have hK16 : K 97 16 = 0 := by rw [hK, wr_ss])
          | (obtain ⟨K, hK⟩ : ∃ K, K = wr I52 97 16 0 := ⟨_, rfl⟩
             have hFK : ∀ i, i ≠ 97 → i ≠ 102 → i ≠ 103 → i ≠ 104 → K i = I i := fun i h1 h2 h3 h4 => by rw [hK, wr_n h1, l52.2 i h1 h2 h3 h4]; exact hF i h1 h2 h3 h4
             have hZK : ∀ z, z ≠ 16 → z < 8 ∨ 22 < z → K 97 z = I 97 z := fun z h1 h2 => by rw [hK, wr_sn h1, l52.1 z (by omega) (by omega) (by omega) (by omega) (by omega) (by omega)]; exact hZ z h2
             have hK16 : K 97 16 = 0 := by rw [hK, wr_ss]
             have h52K : (∃ e, whlD L D = .inl e ∧ FT K e) ∨ (∃ q, whlD L D = .inr q ∧ K 97 21 = 0 ∧ DrN K q.1 q.2) := by
               rcases h52 with ⟨e, h1, h2⟩ | ⟨q, h1, h2, h3⟩
               · refine Or.inl ⟨e, h1, ?_⟩
                 unfold FT at h2 ⊢
                 rw [hK, wr_sn (by decide), wr_sn (by decide)]; exact h2
               · refine Or.inr ⟨q, h1, by rw [hK, wr_sn (by decide)]; exact h2, h3.cg ?_ ?_ ?_ ?_ ?_ ?_⟩
                 · rw [hK, wr_sn (by decide)]
                 · rw [hK, wr_sn (by decide)]
                 · rw [hK, wr_sn (by decide)]
                 · rw [hK, wr_n (by decide)]
                 · rw [hK, wr_n (by decide)]
                 · rw [hK, wr_n (by decide)])
          refine g_aload_n C (pc := 55) dX12_text_55 1 rfl ?_
          refine g_iconst C (pc := 56) 0 dX12_text_56 (by decide) ?_
          refine g_putI C (pc := 57) fl_RX12_108 (by decide) fp_11_16 (Or.inl rfl) ⟨rfl, rfl⟩ (by first | assumption | rfl | omega) (by first | assumption | rfl | omega) hn9 dX12_text_57 ?_
          rw [← hK]
          refine g_aload_n C (pc := 60) dX12_text_60 1 rfl ?_
          refine g_getI C (pc := 61) fl_RX12_117 (by decide) (by first | assumption | rfl | omega) (by first | assumption | rfl | omega) dX12_text_61 ?_
          refine g_if_le C (pc := 64) 75 dX12_text_64 (by decide) (fun c64 => ?_) (fun c64 => ?_)
          · exact absurd (FT.gt hfK) (Int32.not_lt.mpr c64)
          · refine g_bipush C (pc := 67) (-10) dX12_text_67 (by decide) ?_
            refine g_aload_n C (pc := 69) dX12_text_69 1 rfl ?_
            refine g_getI C (pc := 70) fl_RX12_123 (by decide) (by first | assumption | rfl | omega) (by first | assumption | rfl | omega) dX12_text_70 ?_
            refine g_isub C (pc := 73) dX12_text_73 ?_
            refine g_iret C hR (pc := 74) rfl dX12_text_74 ?_
            refine ⟨rfl, _, rfl, ?_⟩
            exact Or.inl ⟨e, hTe, by rw [hfK.2.1], hfK.1, hK16, hFK, fun z hz => hZK z (by omega) hz⟩
        · exact absurd c48 (FT.pos hft)
      · obtain ⟨k, n9, D, hpL, hm9, hnp, hkf, hTr, hpt, hk0, hdr⟩ := hS.resolve_left (fun ⟨e, _, h9⟩ => absurd c24 (FT.pos h9))
        have h19 : ∀ (_ : True), J 97 19 = 0 ↔ tkK tb L p = 4 := fun _ => by
          have hk : tkK tb L p ≤ 4 := by
            unfold tkK; split
            · exact Nat.le_refl _
            · split
              · decide
              · split
                · decide
                · split
                  · split <;> decide
                  · decide
          have hs : sOf (tkK tb L p) < 5 ∧ (sOf (tkK tb L p) = 0 ↔ tkK tb L p = 4) := by unfold sOf; split <;> omega
          rw [hpt.2.2.2.1, show (0 : Int32) = nI 0 from rfl, nI_eq (by omega) (by decide)]; exact hs.2
        refine g_aload_n C (pc := 27) dX12_text_27 1 rfl ?_
        refine g_getI C (pc := 28) fl_RX12_141 (by decide) (by first | assumption | rfl | omega) (by first | assumption | rfl | omega) dX12_text_28 ?_
        refine g_if_eq C (pc := 31) 44 dX12_text_31 (by decide) (fun c31 => ?_) (fun c31 => ?_)
        · have hk4 : tkK tb L p = 4 := (h19 trivial).mp c31
          have h18L : J 97 18 = nI L := by rw [hpt.2.1, tk4 hpL hk4]
          obtain ⟨k, rfl⟩ : ∃ k', k = k' + 1 := ⟨k - 1, by omega⟩
          rw [rdAll_4 hk4] at hTr
          refine g_aload_n C (pc := 44) dX12_text_44 1 rfl ?_
          refine g_getI C (pc := 45) fl_RX12_117 (by decide) (by first | assumption | rfl | omega) (by first | assumption | rfl | omega) dX12_text_45 ?_
          refine g_if_ne C (pc := 48) 55 dX12_text_48 (by decide) (fun c48 => ?_) (fun c48 => ?_)
          · exact absurd hpt.1 c48
          · refine g_aload_n C (pc := 51) dX12_text_51 1 rfl ?_
            refine g_callVV C (pc := 52) mf_X12_looksAtAll lk_RX12_199 (c_X12_looksAtAll n ρ J L D hn9 hms hdr hpt.1 h18L) (by decide) (Nat.le_refl _) rfl (by first | assumption | rfl | omega) rfl (by first | assumption | rfl | omega) (Nat.le_of_ble_eq_true rfl) dX12_text_52 (fun I52 h52 => ?_)
            obtain ⟨h52, l52⟩ := h52
            first
            | (obtain ⟨K, hK⟩ : ∃ K, K = wr J 97 16 0 := ⟨_, rfl⟩
               have hFK : ∀ i, i ≠ 97 → i ≠ 102 → i ≠ 103 → i ≠ 104 → K i = I i := fun i h1 h2 h3 h4 => by rw [hK, wr_n h1]; exact hF i h1 h2 h3 h4
               have hZK : ∀ z, z ≠ 16 → z < 8 ∨ 22 < z → K 97 z = I 97 z := fun z h1 h2 => by rw [hK, wr_sn h1]; exact hZ z h2
               have hfK : FT K e := by
                 unfold FT at hft ⊢
                 rw [hK, wr_sn (by decide), wr_sn (by decide)]; exact hft
               have hK16 : K 97 16 = 0 := by rw [hK, wr_ss])
            | (obtain ⟨K, hK⟩ : ∃ K, K = wr I52 97 16 0 := ⟨_, rfl⟩
               have hFK : ∀ i, i ≠ 97 → i ≠ 102 → i ≠ 103 → i ≠ 104 → K i = I i := fun i h1 h2 h3 h4 => by rw [hK, wr_n h1, l52.2 i h1 h2 h3 h4]; exact hF i h1 h2 h3 h4
               have hZK : ∀ z, z ≠ 16 → z < 8 ∨ 22 < z → K 97 z = I 97 z := fun z h1 h2 => by rw [hK, wr_sn h1, l52.1 z (by omega) (by omega) (by omega) (by omega) (by omega) (by omega)]; exact hZ z h2
               have hK16 : K 97 16 = 0 := by rw [hK, wr_ss]
               have h52K : (∃ e, whlD L D = .inl e ∧ FT K e) ∨ (∃ q, whlD L D = .inr q ∧ K 97 21 = 0 ∧ DrN K q.1 q.2) := by
                 rcases h52 with ⟨e, h1, h2⟩ | ⟨q, h1, h2, h3⟩
                 · refine Or.inl ⟨e, h1, ?_⟩
                   unfold FT at h2 ⊢
                   rw [hK, wr_sn (by decide), wr_sn (by decide)]; exact h2
                 · refine Or.inr ⟨q, h1, by rw [hK, wr_sn (by decide)]; exact h2, h3.cg ?_ ?_ ?_ ?_ ?_ ?_⟩
                   · rw [hK, wr_sn (by decide)]
                   · rw [hK, wr_sn (by decide)]
                   · rw [hK, wr_sn (by decide)]
                   · rw [hK, wr_n (by decide)]
                   · rw [hK, wr_n (by decide)]
                   · rw [hK, wr_n (by decide)])
            refine g_aload_n C (pc := 55) dX12_text_55 1 rfl ?_
            refine g_iconst C (pc := 56) 0 dX12_text_56 (by decide) ?_
            refine g_putI C (pc := 57) fl_RX12_108 (by decide) fp_11_16 (Or.inl rfl) ⟨rfl, rfl⟩ (by first | assumption | rfl | omega) (by first | assumption | rfl | omega) hn9 dX12_text_57 ?_
            rw [← hK]
            refine g_aload_n C (pc := 60) dX12_text_60 1 rfl ?_
            refine g_getI C (pc := 61) fl_RX12_117 (by decide) (by first | assumption | rfl | omega) (by first | assumption | rfl | omega) dX12_text_61 ?_
            refine g_if_le C (pc := 64) 75 dX12_text_64 (by decide) (fun c64 => ?_) (fun c64 => ?_)
            · obtain ⟨q9, hW, h21K, hdK⟩ : ∃ q, whlD L D = .inr q ∧ K 97 21 = 0 ∧ DrN K q.1 q.2 := by
                rcases h52K with ⟨e, -, h9⟩ | h9
                · exact absurd (FT.gt h9) (Int32.not_lt.mpr c64)
                · exact h9
              have hTe : txR tb L = .inr (n9, q9.1, q9.2) := by rw [hTr, hW]; rfl
              refine g_aload_n C (pc := 75) dX12_text_75 1 rfl ?_
              refine g_callVV C (pc := 76) mf_X12_keepDraft lk_RX12_80 (c_X12_keepDraft n ρ K q9.1 q9.2 hn9 hms hdK) (by decide) (Nat.le_refl _) rfl (by first | assumption | rfl | omega) rfl (by first | assumption | rfl | omega) (Nat.le_of_ble_eq_true rfl) dX12_text_76 (fun I76 h76 => ?_)
              obtain h76 := h76
              refine g_iload_n C (pc := 79) dX12_text_79 0 rfl ?_
              refine g_iret C hR (pc := 80) rfl dX12_text_80 ?_
              refine ⟨rfl, _, rfl, ?_⟩
              obtain ⟨a1, a2, a3, a4, a5, a6, a7⟩ := h76
              exact Or.inr ⟨_, hTe, hm9, (a6 21 (by decide) (by decide) (by decide)).trans h21K, (a6 16 (by decide) (by decide) (by decide)).trans hK16, a1, hdK.1, hdK.2.1, a2, a3, a4, a5, fun i hi => by rw [a7 i (by omega)]; exact hFK i (by omega) (by omega) (by omega) (by omega), fun z hz => by rw [a6 z (by omega) (by omega) (by omega)]; exact hZK z (by omega) (Or.inr hz)⟩
            · obtain ⟨e, hW, hfK⟩ : ∃ e, whlD L D = .inl e ∧ FT K e := by
                rcases h52K with h9 | ⟨q, -, h9, -⟩
                · exact h9
                · rw [h9] at c64; exact absurd c64 (by decide)
              have hTe : txR tb L = .inl e := by rw [hTr, hW]; rfl
              refine g_bipush C (pc := 67) (-10) dX12_text_67 (by decide) ?_
              refine g_aload_n C (pc := 69) dX12_text_69 1 rfl ?_
              refine g_getI C (pc := 70) fl_RX12_123 (by decide) (by first | assumption | rfl | omega) (by first | assumption | rfl | omega) dX12_text_70 ?_
              refine g_isub C (pc := 73) dX12_text_73 ?_
              refine g_iret C hR (pc := 74) rfl dX12_text_74 ?_
              refine ⟨rfl, _, rfl, ?_⟩
              exact Or.inl ⟨e, hTe, by rw [hfK.2.1], hfK.1, hK16, hFK, fun z hz => hZK z (by omega) hz⟩
        · have hk4 : tkK tb L p ≠ 4 := fun h => c31 ((h19 trivial).mpr h)
          refine g_aload_n C (pc := 34) dX12_text_34 1 rfl ?_
          refine g_callVV C (pc := 35) mf_X12_readLine lk_RX12_196 (c_X12_readLine n ρ J L tb p D hn9 hms htbJ hpt hk0 hpL hdr) (by decide) (Nat.le_refl _) rfl (by first | assumption | rfl | omega) rfl (by first | assumption | rfl | omega) (Nat.le_of_ble_eq_true rfl) dX12_text_35 (fun I35 h35 => ?_)
          obtain ⟨s35, d35, l35⟩ := h35
          refine g_iinc C (pc := 38) (1) dX12_text_38 0 rfl (by decide) (by decide) (fun v38 => [(1, .int v38), (0, .ref 97)]) (fun _ => rfl) (fun v38 ev38 => ?_)
          obtain ⟨p9, hpp, hp9, hS9⟩ := TxS.next (m := v38) hpL hnp hkf hTr hdr.1 hk0 hk4 ⟨s35, d35, l35⟩ (by rw [ev38, hm9]; exact nI_1 _)
          refine g_goto C (pc := 41) 20 dX12_text_41 (by decide) ?_
          refine g_lv C [0, 1] rfl (ih20 p9 _ _ ?_ ?_ ?_ ?_ ?_ (by omega))
          · exact hp9
          · exact hS9
          · intro i h1 h2 h3 h4; rw [l35.2 i h1 h2 h3 h4]; exact hF i h1 h2 h3 h4
          · intro z hz; rw [l35.1 z (by omega) (by omega) (by omega) (by omega) (by omega) (by omega)]; exact hZ z hz
          · rw [l35.1 16 (by decide) (by decide) (by decide) (by decide) (by decide) (by decide)]; exact h16
  refine g_lv C [0, 1] rfl (L20 (_ + 1) p9 _ _ ?_ ?_ ?_ ?_ ?_ (by first | omega | exact Nat.lt_succ_self _))
  · exact hp9
  · exact hS9
  · exact hF9
  · exact hZ9
  · exact h169
