theorem use_lt {F : RT} {b : BT} (hf : RW F) (hb : BW F b) {i : Nat} (h : useB F b i = true) : i < 25 := by
  unfold useB at h
  rw [Bool.or_eq_true, Bool.or_eq_true] at h
  rcases h with (h | h) | h
  · exact hf.2.2.2.2.2.2.2 i h
  · obtain ⟨p, hp, -, h2⟩ := helB_t.mp h; exact (hb.2.1 p hp).1 i h2
  · obtain ⟨p, hp, -, h2⟩ := helB_t.mp h; exact (hb.2.1 p hp).1 i h2
theorem hi_whl {M : Int32} {U : Nat → Bool} {N : Nat} (h : Hi M U) (hU : ∀ i, U i = true → i < 25) (hN : N ≤ 25) : nI N ≤ M ↔ (List.range 32).any (fun i => decide (N ≤ i) && U i) = true := by
  obtain ⟨h1, h2⟩ := h
  rw [List.any_eq_true]
  constructor
  · intro hle
    rcases h2 with h2 | ⟨q, h3, h4, h5⟩
    · rw [h2] at hle
      have : ∀ N, N ≤ 25 → ¬ nI N ≤ (-4 : Int32) := by decide
      exact absurd hle (this N hN)
    · rw [h4, nI_leI (by omega) (by omega)] at hle
      exact ⟨q, List.mem_range.mpr (by omega), by rw [decide_eq_true hle, h5]; rfl⟩
  · rintro ⟨i, -, hi⟩
    rw [Bool.and_eq_true, decide_eq_true_eq] at hi
    obtain ⟨q, h3, h4, h5⟩ := h1 i (hU i hi.2) hi.2
    rw [h4, nI_leI (by omega) (by omega)]; omega
theorem pon_0 {F : RT} {b : BT} (h : rN F = 0) (q : Nat) : pon F b q = none := by
  unfold pon; rw [h]; rfl
theorem twoK_n {F : RT} {b : BT} (h : rN F = 0) : rN (twoK F b).1 = 2 := by show rN F + 1 + 1 = 2; omega
theorem twoK_at {F : RT} {b : BT} (h : rN F = 0) : ∀ p, p < 2 → rSd (twoK F b).1 p = p ∧ rKd (twoK F b).1 p = 0 ∧ bP (twoK F b).2 p = some (if p = 0 then 0 else rW F * rH F - 1) ∧ bO (twoK F b).2 p = 9 := by
  intro p hp
  show (if p = rN F + 1 then 1 else if p = rN F then 0 else rSd F p) = p ∧ (if p = rN F + 1 then 0 else if p = rN F then 0 else rKd F p) = 0 ∧ (if p = 1 then some (rW F * rH F - 1) else if p = 0 then some 0 else bP b p) = some (if p = 0 then 0 else rW F * rH F - 1) ∧ (if p = 1 then 9 else if p = 0 then 9 else bO b p) = 9
  rw [h]
  rcases (show p = 0 ∨ p = 1 by omega) with e | e <;> subst e
  · exact ⟨rfl, rfl, rfl, rfl⟩
  · exact ⟨rfl, rfl, rfl, rfl⟩
theorem twoK_W {F : RT} {b : BT} (hf : RW F) (hb : BW F b) (h : rN F = 0) : RW (twoK F b).1 ∧ BW (twoK F b).1 (twoK F b).2 := by
  have h4 := Nat.mul_le_mul hf.1 hf.2.2.1
  have h25 := Nat.mul_le_mul hf.2.1 hf.2.2.2.1
  have h1 : RW (adF F 0 0) := RW_ad hf (by omega) (by decide) (by decide)
  have e0 : adB b (rN F) 0 9 = adB b 0 0 9 := by rw [h]
  have b1 : BW (adF F 0 0) (adB b 0 0 9) := by
    have := BW_ad (kd := 0) (sd := 0) (q := 0) (o := 9) hb (by decide) (by decide) (pon_0 h 0)
    rw [e0] at this; exact this
  have n1 : rN (adF F 0 0) = 1 := by show rN F + 1 = 1; omega
  have hp : pon (adF F 0 0) (adB b 0 0 9) (rW F * rH F - 1) = none := by
    unfold pon
    rw [n1]
    refine findP_none fun q hq => ?_
    have : q = 0 := by omega
    subst this
    show (some 0 == some (rW F * rH F - 1)) = false
    simpa using (by omega : ¬ 0 = rW F * rH F - 1)
  refine ⟨RW_ad h1 (by omega) (by decide) (by decide), ?_⟩
  have := BW_ad (kd := 0) (sd := 1) (q := rW F * rH F - 1) (o := 9) b1 (by omega) (by decide) hp
  rw [n1] at this; exact this
theorem st_two {x : Int32} {F : RT} {N : Nat} (hs : ∀ i, i < 32 → bt x i = rS F i) (hN : N < 25) : (x &&& ((1 : Int32) ||| (1 <<< (nI N &&& 31)))) = 0 ↔ ¬ (rS F 0 = true ∨ rS F N = true) := by
  have hm : ∀ N, N < 25 → ∀ i, i < 32 → bt ((1 : Int32) ||| (1 <<< (nI N &&& 31))) i = (decide (i = 0) || decide (i = N)) := by decide +kernel
  rw [bt_zero]
  constructor
  · intro h h9
    rcases h9 with h9 | h9
    · have := h 0 (by decide)
      rw [b_and, hm N hN 0 (by decide), hs 0 (by decide), h9] at this
      simp at this
    · have := h N (by omega)
      rw [b_and, hm N hN N (by omega), hs N (by omega), h9] at this
      simp at this
  · intro h i hi
    rw [b_and, hm N hN i hi, hs i hi]
    cases e : rS F i with
    | false => rfl
    | true =>
      have h0 : i ≠ 0 := fun h9 => h (Or.inl (by rw [← h9]; exact e))
      have h1 : i ≠ N := fun h9 => h (Or.inr (by rw [← h9]; exact e))
      simp [h0, h1]
set_option maxHeartbeats 1600000 in
theorem c_X12_twoKings (n : Nat) (ρ : Rho) (I : Mem) (F : RT) (b : BT) (hn9 : n ≤ 999) (hms : MS n ρ) (hdr : DrN I F b) (hN0 : rN F = 0) : MV yX12_twoKings cX12_twoKings 2 none 0 [.ref 97] n ρ I (fun I1 => DrN I1 (twoK F b).1 (twoK F b).2 ∧ (∀ z, z ≠ 10 → I1 97 z = I 97 z) ∧ ∀ i, i ≠ 97 → i ≠ 102 → i ≠ 103 → i ≠ 104 → I1 i = I i) := by
  refine MG.of (by decide +kernel) (Nat.le_of_ble_eq_true rfl) hn9 ?_
  intro κ C hR
  show G κ n ρ 0 [(0, .ref 97)] [] I
  obtain ⟨mn, ⟨m0, m1, m5, m6, m7, m11, m12, m15⟩, ⟨m23, m24, m26, m27, m28, m30, m31, m32, m33⟩, ⟨m38, m39, m40, m42⟩⟩ := id hms
  obtain ⟨hrw, hbw, ⟨hW8, hH9, hN10⟩, hpc, hst, hod, ⟨t1, t2, t3, t4⟩⟩ := id hdr
  have hm25 := Nat.mul_le_mul hrw.2.1 hrw.2.2.2.1
  have hm4 := Nat.mul_le_mul hrw.1 hrw.2.2.1
  refine g_aload_n C (pc := 0) dX12_twoKings_0 0 rfl ?_
  refine g_iconst C (pc := 1) 2 dX12_twoKings_1 (by decide) ?_
  refine g_putI C (pc := 2) fl_RX12_90 (by decide) fp_11_10 (Or.inl rfl) ⟨rfl, rfl⟩ (by first | assumption | rfl | omega) (by first | assumption | rfl | omega) hn9 dX12_twoKings_2 ?_
  refine g_iconst C (pc := 5) 0 dX12_twoKings_5 (by decide) ?_
  refine g_istore_n C (pc := 6) dX12_twoKings_6 (by decide) (fun v6 => [(1, .int v6), (0, .ref 97)]) (fun _ => rfl) (fun v6 ev6 => ?_)
  have L7 : ∀ (k9 : Nat) (j : Nat) (wz1 : Int32) (J : Mem) (hw1 : wz1 = nI j) (hj : j ≤ 2) (hA : ∀ p, p < j → J 103 p = nI p ∧ J 104 p = 0 ∧ J 102 p = nI (if p = 0 then 0 else rW F * rH F - 1) ∧ J 102 (6 + p) = 9) (hF : ∀ i, i ≠ 97 → i ≠ 102 → i ≠ 103 → i ≠ 104 → J i = I i) (hZ : ∀ z, z ≠ 10 → J 97 z = I 97 z) (h10 : J 97 10 = 2) (hO : ∀ z, z ≠ 0 → z ≠ 1 → z ≠ 6 → z ≠ 7 → J 102 z = I 102 z), 2 - j < k9 → G κ n ρ 7 [(1, .int wz1), (0, .ref 97)] [] J := by
    intro k9
    induction k9 with
    | zero => intro j wz1 J hw1 hj hA hF hZ h10 hO hm7; exact absurd hm7 (Nat.not_lt_zero _)
    | succ k9 ih7 =>
      intro j wz1 J hw1 hj hA hF hZ h10 hO hm7
      subst hw1
      refine g_iload_n C (pc := 7) dX12_twoKings_7 0 rfl ?_
      refine g_iconst C (pc := 8) 2 dX12_twoKings_8 (by decide) ?_
      refine g_icmp_ge C (pc := 9) 70 dX12_twoKings_9 (by decide) (fun c9 => ?_) (fun c9 => ?_)
      · replace c9 := (nI_leI (a := 2) (b := j) (by decide) (by omega)).mp c9
        refine g_vret C hR (pc := 70) rfl dX12_twoKings_70 ?_
        refine ⟨rfl, rfl, ?_⟩
        have hj2 : j = 2 := by omega
        subst hj2
        obtain ⟨w1, w2⟩ := twoK_W hrw hbw hN0
        refine ⟨⟨w1, w2, ⟨?_, ?_, ?_⟩, fun p hp => ?_, fun i hi => ?_, fun w hw => ?_, ?_, ?_, ?_, ?_⟩, hZ, hF⟩
        · rw [hZ 8 (by decide)]; exact hW8
        · rw [hZ 9 (by decide)]; exact hH9
        · rw [h10, twoK_n hN0]; rfl
        · rw [twoK_n hN0] at hp
          obtain ⟨q1, q2, q3, q4⟩ := twoK_at (b := b) hN0 p hp
          obtain ⟨r1, r2, r3, r4⟩ := hA p hp
          rw [q1, q2, q3, q4]; exact ⟨⟨r1, r2⟩, r3, r4⟩
        · rw [hO 12 (by decide) (by decide) (by decide) (by decide)]; exact hst i hi
        · rw [hO (13 + w) (by omega) (by omega) (by omega) (by omega)]; exact hod w hw
        · rw [hO 18 (by decide) (by decide) (by decide) (by decide)]; exact t1
        · rw [hO 19 (by decide) (by decide) (by decide) (by decide)]; exact t2
        · rw [hO 20 (by decide) (by decide) (by decide) (by decide)]; exact t3
        · rw [hO 37 (by decide) (by decide) (by decide) (by decide)]; exact t4
      · replace c9 := (nI_ltI (a := j) (b := 2) (by omega) (by decide)).mp c9
        have hcj : (nI j).toNatClampNeg = j := nI_clamp (by omega)
        have ix1 : (0 + nI j).toNatClampNeg = j := by rw [Int32.zero_add]; exact hcj
        have ix2 : (6 + nI j).toNatClampNeg = 6 + j := by rw [show (6 : Int32) = nI 6 from rfl, nI_add]; exact nI_clamp (by omega)
        refine g_aload_n C (pc := 12) dX12_twoKings_12 1 rfl ?_
        refine g_getR C (pc := 13) fl_RX12_26 (by decide) (by first | assumption | rfl | omega) (by first | assumption | rfl | omega) (by first | assumption | rfl | omega) dX12_twoKings_13 ?_
        refine g_iload_n C (pc := 16) dX12_twoKings_16 0 rfl ?_
        refine g_iload_n C (pc := 17) dX12_twoKings_17 0 rfl ?_
        refine g_iast C (pc := 18) (by first | assumption | rfl | omega) (by first | assumption | rfl | omega) hn9 (vp_in_nI (by omega) (by decide)) dX12_twoKings_18 ?_
        refine g_aload_n C (pc := 19) dX12_twoKings_19 1 rfl ?_
        refine g_getR C (pc := 20) fl_RX12_29 (by decide) (by first | assumption | rfl | omega) (by first | assumption | rfl | omega) (by first | assumption | rfl | omega) dX12_twoKings_20 ?_
        refine g_iload_n C (pc := 23) dX12_twoKings_23 0 rfl ?_
        refine g_iconst C (pc := 24) 0 dX12_twoKings_24 (by decide) ?_
        refine g_iast C (pc := 25) (by first | assumption | rfl | omega) (by first | assumption | rfl | omega) hn9 (vp_in_nI (by omega) (by decide)) dX12_twoKings_25 ?_
        refine g_aload_n C (pc := 26) dX12_twoKings_26 1 rfl ?_
        refine g_getR C (pc := 27) fl_RX12_23 (by decide) (by first | assumption | rfl | omega) (by first | assumption | rfl | omega) (by first | assumption | rfl | omega) dX12_twoKings_27 ?_
        refine g_iconst C (pc := 30) 0 dX12_twoKings_30 (by decide) ?_
        refine g_iload_n C (pc := 31) dX12_twoKings_31 0 rfl ?_
        refine g_iadd C (pc := 32) dX12_twoKings_32 ?_
        refine g_iload_n C (pc := 33) dX12_twoKings_33 0 rfl ?_
        refine g_if_ne C (pc := 34) 41 dX12_twoKings_34 (by decide) (fun c34 => ?_) (fun c34 => ?_)
        · have hj0 : j ≠ 0 := fun h => c34 (by rw [h]; rfl)
          refine g_aload_n C (pc := 41) dX12_twoKings_41 1 rfl ?_
          refine g_getI C (pc := 42) fl_RX12_83 (by decide) (by first | assumption | rfl | omega) (by first | assumption | rfl | omega) dX12_twoKings_42 ?_
          refine g_aload_n C (pc := 45) dX12_twoKings_45 1 rfl ?_
          refine g_getI C (pc := 46) fl_RX12_87 (by decide) (by first | assumption | rfl | omega) (by first | assumption | rfl | omega) dX12_twoKings_46 ?_
          refine g_imul C (pc := 49) dX12_twoKings_49 ?_
          refine g_iconst C (pc := 50) 1 dX12_twoKings_50 (by decide) ?_
          refine g_isub C (pc := 51) dX12_twoKings_51 ?_
          first
          | (have hsq : wr (wr J 103 (nI j).toNatClampNeg (nI j)) 104 (nI j).toNatClampNeg 0 97 8 * wr (wr J 103 (nI j).toNatClampNeg (nI j)) 104 (nI j).toNatClampNeg 0 97 9 - 1 = nI (if j = 0 then 0 else rW F * rH F - 1) := by
               rw [if_neg hj0, wr_n (by decide), wr_n (by decide), hZ 8 (by decide), hZ 9 (by decide), hW8, hH9, pk_mul]; exact pk_sub (b := 1) (by omega))
          | skip
          refine g_iast C (pc := 52) (by first | assumption | rfl | omega) (by first | assumption | rfl | omega) hn9 (by rw [Int32.zero_add]; exact vp_in_nI (by omega) (by decide)) dX12_twoKings_52 ?_
          refine g_aload_n C (pc := 53) dX12_twoKings_53 1 rfl ?_
          refine g_getR C (pc := 54) fl_RX12_23 (by decide) (by first | assumption | rfl | omega) (by first | assumption | rfl | omega) (by first | assumption | rfl | omega) dX12_twoKings_54 ?_
          refine g_bipush C (pc := 57) 6 dX12_twoKings_57 (by decide) ?_
          refine g_iload_n C (pc := 59) dX12_twoKings_59 0 rfl ?_
          refine g_iadd C (pc := 60) dX12_twoKings_60 ?_
          refine g_bipush C (pc := 61) 9 dX12_twoKings_61 (by decide) ?_
          refine g_iast C (pc := 63) (by first | assumption | rfl | omega) (by first | assumption | rfl | omega) hn9 (by rw [show (6 : Int32) = nI 6 from rfl, nI_add]; exact vp_in_nI (by omega) (by decide)) dX12_twoKings_63 ?_
          refine g_iinc C (pc := 64) (1) dX12_twoKings_64 0 rfl (by decide) (by decide) (fun v64 => [(1, .int v64), (0, .ref 97)]) (fun _ => rfl) (fun v64 ev64 => ?_)
          refine g_goto C (pc := 67) 7 dX12_twoKings_67 (by decide) ?_
          refine g_lv C [0, 1] rfl (ih7 (j + 1) _ _ ?_ ?_ ?_ ?_ ?_ ?_ ?_ (by omega))
          · subst ev64; exact nI_1 _
          · omega
          · intro p hp
            rw [hcj, ix1, ix2]
            rw [wr_n (a := 103) (i := 102) (by decide), wr_n (a := 103) (i := 102) (by decide), wr_n (a := 104) (i := 102) (by decide), wr_n (a := 104) (i := 102) (by decide), wr_n (a := 103) (by decide), wr_s (i := 103), wr_s (i := 104), wr_n (a := 104) (i := 103) (by decide)]
            rcases Nat.lt_or_ge p j with h1 | h1
            · rw [upd_n (by omega), upd_n (by omega), wr_sn (by omega), wr_sn (by omega), wr_sn (by omega), wr_sn (by omega), wr_n (a := 102) (by decide), wr_n (a := 102) (by decide)]; exact hA p h1
            · have : p = j := by omega
              subst this
              rw [upd_s, upd_s, wr_ss, wr_sn (by omega), wr_ss]
              exact ⟨rfl, rfl, hsq, rfl⟩
          · intro i h1 h2 h3 h4; rw [wr_n h2, wr_n h2, wr_n h4, wr_n h3]; exact hF i h1 h2 h3 h4
          · intro z hz; rw [wr_n (by decide), wr_n (by decide), wr_n (by decide), wr_n (by decide)]; exact hZ z hz
          · rw [wr_n (by decide), wr_n (by decide), wr_n (by decide), wr_n (by decide)]; exact h10
          · intro z h0 h1 h6 h7; rw [ix1, ix2, wr_sn (by omega), wr_sn (by omega), wr_n (by decide), wr_n (by decide)]; exact hO z h0 h1 h6 h7
        · have hsq : (0 : Int32) = nI (if j = 0 then 0 else rW F * rH F - 1) := by
            have : j = 0 := (nI_eq (b := 0) (by omega) (by decide)).mp c34
            rw [if_pos this]; rfl
          refine g_iconst C (pc := 37) 0 dX12_twoKings_37 (by decide) ?_
          refine g_goto C (pc := 38) 52 dX12_twoKings_38 (by decide) ?_
          first
          | (have hsq : wr (wr J 103 (nI j).toNatClampNeg (nI j)) 104 (nI j).toNatClampNeg 0 97 8 * wr (wr J 103 (nI j).toNatClampNeg (nI j)) 104 (nI j).toNatClampNeg 0 97 9 - 1 = nI (if j = 0 then 0 else rW F * rH F - 1) := by
               rw [if_neg hj0, wr_n (by decide), wr_n (by decide), hZ 8 (by decide), hZ 9 (by decide), hW8, hH9, pk_mul]; exact pk_sub (b := 1) (by omega))
          | skip
          refine g_iast C (pc := 52) (by first | assumption | rfl | omega) (by first | assumption | rfl | omega) hn9 (by rw [Int32.zero_add]; exact vp_in_nI (by omega) (by decide)) dX12_twoKings_52 ?_
          refine g_aload_n C (pc := 53) dX12_twoKings_53 1 rfl ?_
          refine g_getR C (pc := 54) fl_RX12_23 (by decide) (by first | assumption | rfl | omega) (by first | assumption | rfl | omega) (by first | assumption | rfl | omega) dX12_twoKings_54 ?_
          refine g_bipush C (pc := 57) 6 dX12_twoKings_57 (by decide) ?_
          refine g_iload_n C (pc := 59) dX12_twoKings_59 0 rfl ?_
          refine g_iadd C (pc := 60) dX12_twoKings_60 ?_
          refine g_bipush C (pc := 61) 9 dX12_twoKings_61 (by decide) ?_
          refine g_iast C (pc := 63) (by first | assumption | rfl | omega) (by first | assumption | rfl | omega) hn9 (by rw [show (6 : Int32) = nI 6 from rfl, nI_add]; exact vp_in_nI (by omega) (by decide)) dX12_twoKings_63 ?_
          refine g_iinc C (pc := 64) (1) dX12_twoKings_64 0 rfl (by decide) (by decide) (fun v64 => [(1, .int v64), (0, .ref 97)]) (fun _ => rfl) (fun v64 ev64 => ?_)
          refine g_goto C (pc := 67) 7 dX12_twoKings_67 (by decide) ?_
          refine g_lv C [0, 1] rfl (ih7 (j + 1) _ _ ?_ ?_ ?_ ?_ ?_ ?_ ?_ (by omega))
          · subst ev64; exact nI_1 _
          · omega
          · intro p hp
            rw [hcj, ix1, ix2]
            rw [wr_n (a := 103) (i := 102) (by decide), wr_n (a := 103) (i := 102) (by decide), wr_n (a := 104) (i := 102) (by decide), wr_n (a := 104) (i := 102) (by decide), wr_n (a := 103) (by decide), wr_s (i := 103), wr_s (i := 104), wr_n (a := 104) (i := 103) (by decide)]
            rcases Nat.lt_or_ge p j with h1 | h1
            · rw [upd_n (by omega), upd_n (by omega), wr_sn (by omega), wr_sn (by omega), wr_sn (by omega), wr_sn (by omega), wr_n (a := 102) (by decide), wr_n (a := 102) (by decide)]; exact hA p h1
            · have : p = j := by omega
              subst this
              rw [upd_s, upd_s, wr_ss, wr_sn (by omega), wr_ss]
              exact ⟨rfl, rfl, hsq, rfl⟩
          · intro i h1 h2 h3 h4; rw [wr_n h2, wr_n h2, wr_n h4, wr_n h3]; exact hF i h1 h2 h3 h4
          · intro z hz; rw [wr_n (by decide), wr_n (by decide), wr_n (by decide), wr_n (by decide)]; exact hZ z hz
          · rw [wr_n (by decide), wr_n (by decide), wr_n (by decide), wr_n (by decide)]; exact h10
          · intro z h0 h1 h6 h7; rw [ix1, ix2, wr_sn (by omega), wr_sn (by omega), wr_n (by decide), wr_n (by decide)]; exact hO z h0 h1 h6 h7
  refine g_lv C [0, 1] rfl (L7 (_ + 1) 0 _ _ ?_ ?_ ?_ ?_ ?_ ?_ ?_ (by first | omega | exact Nat.lt_succ_self _))
  · subst ev6; rfl
  · omega
  · intro p hp; omega
  · intro i h1 _ _ _; exact wr_n h1
  · intro z hz; exact wr_sn hz
  · exact wr_ss
  · intro z _ _ _ _; rw [wr_n (by decide)]
set_option maxHeartbeats 1600000 in
theorem c_X12_looksAtAll (n : Nat) (ρ : Rho) (I : Mem) (L : Nat) (D : DT) (hn9 : n ≤ 999) (hms : MS n ρ) (hdr : DrM I D) (g21 : I 97 21 = 0) (h18 : I 97 18 = nI L) : MV yX12_looksAtAll cX12_looksAtAll 1 none 2 [.ref 97] n ρ I (fun I1 => ((∃ e, whlD L D = .inl e ∧ FT I1 e) ∨ (∃ q, whlD L D = .inr q ∧ I1 97 21 = 0 ∧ DrN I1 q.1 q.2)) ∧ FrL I I1) := by
  refine MG.of (by decide +kernel) (Nat.le_of_ble_eq_true rfl) hn9 ?_
  intro κ C hR
  show G κ n ρ 0 [(0, .ref 97)] [] I
  obtain ⟨mn, ⟨m0, m1, m5, m6, m7, m11, m12, m15⟩, ⟨m23, m24, m26, m27, m28, m30, m31, m32, m33⟩, ⟨m38, m39, m40, m42⟩⟩ := id hms
  obtain ⟨hdn, htl, hhi⟩ := DrM_iff.mp hdr
  obtain ⟨hrw, hbw, ⟨hW8, hH9, hN10⟩, hpc, hst, hod, ht18⟩ := id hdn
  have hn6 : rN (dF D) ≤ 6 := hrw.2.2.2.2.1
  have hm25 := Nat.mul_le_mul hrw.2.1 hrw.2.2.2.1
  have hm4 := Nat.mul_le_mul hrw.1 hrw.2.2.1
  have hwl := hi_whl hhi (fun i h => use_lt hrw hbw h) hm25
  have hkl : ∀ s, kgN (dF D) s ≤ rN (dF D) := fun s => ctP_le _ _
  have hrf : FrL I I := ⟨fun _ _ _ _ _ _ _ => rfl, fun _ _ _ _ _ => rfl⟩
  refine g_aload_n C (pc := 0) dX12_looksAtAll_0 0 rfl ?_
  refine g_aload_n C (pc := 1) dX12_looksAtAll_1 0 rfl ?_
  refine g_getI C (pc := 2) fl_RX12_96 (by decide) (by first | assumption | rfl | omega) (by first | assumption | rfl | omega) dX12_looksAtAll_2 ?_
  refine g_aload_n C (pc := 5) dX12_looksAtAll_5 0 rfl ?_
  refine g_getI C (pc := 6) fl_RX12_83 (by decide) (by first | assumption | rfl | omega) (by first | assumption | rfl | omega) dX12_looksAtAll_6 ?_
  refine g_aload_n C (pc := 9) dX12_looksAtAll_9 0 rfl ?_
  refine g_getI C (pc := 10) fl_RX12_87 (by decide) (by first | assumption | rfl | omega) (by first | assumption | rfl | omega) dX12_looksAtAll_10 ?_
  refine g_imul C (pc := 13) dX12_looksAtAll_13 ?_
  rw [hW8, hH9, pk_mul]
  refine g_icmp_ge C (pc := 14) 21 dX12_looksAtAll_14 (by decide) (fun c14 => ?_) (fun c14 => ?_)
  · have hW6 : whlD L D = .inl (6, L) := by unfold whlD; rw [if_pos (hwl.mp c14)]
    refine g_iconst C (pc := 21) 0 dX12_looksAtAll_21 (by decide) ?_
    refine g_bipush C (pc := 22) 6 dX12_looksAtAll_22 (by decide) ?_
    refine g_callVV C (pc := 24) mf_X12_needs lk_RX12_155 (c_X12_needs n ρ I _ 6 hn9 hms) (by decide) (Nat.le_refl _) rfl (by first | assumption | rfl | omega) rfl (by first | assumption | rfl | omega) (Nat.le_of_ble_eq_true rfl) dX12_looksAtAll_24 (fun I24 h24 => ?_)
    obtain h24 := h24
    first
    | (rw [if_neg (fun h => absurd h.1 (by decide))] at h24
       subst h24
       have hdr2 : DrM I D := hdr
       have n10 : I 97 10 = nI (rN (dF D)) := hN10)
    | (rw [if_pos ⟨rfl, g21⟩] at h24
       have g21n : ¬ I24 97 21 = 0 := by rw [← h24, wr_sn (by decide), wr_ss]; decide
       have hft : FT I24 (6, L) := by rw [← h24]; exact ⟨by rw [wr_sn (by decide), wr_ss]; rfl, by rw [wr_ss]; exact h18, (show 1 ≤ 6 by decide), (show 6 ≤ 8 by decide)⟩
       have gl : FrL I I24 := by rw [← h24]; exact ((Lx.w (by decide) (by decide)).trans (Lx.w (by decide) (by decide))).l
       have hdr2 : DrM I24 D := by
         refine DrM_iff.mpr ⟨hdn.ly (by rw [← h24]; exact ((Lx.w (by decide) (by decide)).trans (Lx.w (by decide) (by decide))).y), ?_, ?_⟩
         · rw [← h24, wr_sn (by decide), wr_sn (by decide)]; exact htl
         · rw [← h24, wr_sn (by decide), wr_sn (by decide)]; exact hhi
       have n10 : I24 97 10 = nI (rN (dF D)) := by rw [← h24, wr_sn (by decide), wr_sn (by decide)]; exact hN10)
    refine g_aload_n C (pc := 27) dX12_looksAtAll_27 0 rfl ?_
    refine g_aload_n C (pc := 28) dX12_looksAtAll_28 0 rfl ?_
    refine g_getI C (pc := 29) fl_RX12_90 (by decide) (by first | assumption | rfl | omega) (by first | assumption | rfl | omega) dX12_looksAtAll_29 ?_
    rw [n10]
    refine g_if_eq C (pc := 32) 53 dX12_looksAtAll_32 (by decide) (fun c32 => ?_) (fun c32 => ?_)
    · have hN0 : rN (dF D) = 0 := (nI_eq (b := 0) (by omega) (by decide)).mp c32
      refine g_iconst C (pc := 53) 1 dX12_looksAtAll_53 (by decide) ?_
      refine g_goto C (pc := 54) 58 dX12_looksAtAll_54 (by decide) ?_
      refine g_bipush C (pc := 58) 7 dX12_looksAtAll_58 (by decide) ?_
      refine g_callVV C (pc := 60) mf_X12_needs lk_RX12_155 (c_X12_needs n ρ _ _ 7 hn9 hms) (by decide) (Nat.le_refl _) rfl (by first | assumption | rfl | omega) rfl (by first | assumption | rfl | omega) (Nat.le_of_ble_eq_true rfl) dX12_looksAtAll_60 (fun I60 h60 => ?_)
      obtain h60 := h60
      first
      | (rw [if_neg (fun h => absurd h.1 (by decide))] at h60
         subst h60)
      | (rw [if_pos ⟨rfl, g21⟩] at h60
         have g21n : ¬ I60 97 21 = 0 := by rw [← h60, wr_sn (by decide), wr_ss]; decide
         have hft : FT I60 (7, L) := by rw [← h60]; exact ⟨by rw [wr_sn (by decide), wr_ss]; rfl, by rw [wr_ss]; exact h18, (show 1 ≤ 7 by decide), (show 7 ≤ 8 by decide)⟩
         have gl : FrL I I60 := by rw [← h60]; exact ((Lx.w (by decide) (by decide)).trans (Lx.w (by decide) (by decide))).l
         have hW6 : whlD L D = .inl (7, L) := by unfold whlD; rw [if_neg hw6, if_pos hNp, if_neg hk7])
      | (rw [if_neg (fun h => g21n h.2)] at h60
         subst h60)
      refine g_aload_n C (pc := 63) dX12_looksAtAll_63 0 rfl ?_
      refine g_getI C (pc := 64) fl_RX12_117 (by decide) (by first | assumption | rfl | omega) (by first | assumption | rfl | omega) dX12_looksAtAll_64 ?_
      refine g_if_ne C (pc := 67) 118 dX12_looksAtAll_67 (by decide) (fun c67 => ?_) (fun c67 => ?_)
      · refine g_vret C hR (pc := 118) rfl dX12_looksAtAll_118 ?_
        refine ⟨rfl, rfl, ?_⟩
        first
        | exact absurd g21 c67
        | exact ⟨Or.inl ⟨_, hW6, hft⟩, gl⟩
        | exact ⟨Or.inr ⟨(dF D, dB D), by unfold whlD; rw [if_neg hw6, if_pos hNp, if_pos ⟨hkA, hkB⟩], g21, hdn⟩, hrf⟩
        | exact ⟨Or.inr ⟨_, hW8e, k21, h78⟩, kfl⟩
        | exact ⟨Or.inl ⟨_, hW8e, by rw [← h115]; exact ⟨by rw [wr_sn (by decide), wr_ss]; rfl, by rw [wr_ss]; exact k18, (show 1 ≤ 8 by decide), (show 8 ≤ 8 by decide)⟩⟩, kfl.trans (by rw [← h115]; exact ((Lx.w (by decide) (by decide)).trans (Lx.w (by decide) (by decide))).l)⟩
      · exact absurd c67 g21n
    · have hNp : 0 < rN (dF D) := Nat.pos_of_ne_zero (fun h => c32 (by rw [h]; rfl))
      refine g_aload_n C (pc := 35) dX12_looksAtAll_35 0 rfl ?_
      refine g_iconst C (pc := 36) 0 dX12_looksAtAll_36 (by decide) ?_
      refine g_callVI C (pc := 37) mf_X12_kingsOf lk_RX12_193 (c_X12_kingsOf n ρ _ D 0 _ hn9 hms (by assumption) (by decide) rfl) (by decide) (Nat.le_refl _) rfl (by first | assumption | rfl | omega) rfl (by first | assumption | rfl | omega) (Nat.le_of_ble_eq_true rfl) dX12_looksAtAll_37 (fun v37 I37 h37 => ?_)
      obtain ⟨e37, rfl⟩ := h37
      refine g_iconst C (pc := 40) 1 dX12_looksAtAll_40 (by decide) ?_
      refine g_icmp_ne C (pc := 41) 57 dX12_looksAtAll_41 (by decide) (fun c41 => ?_) (fun c41 => ?_)
      · have hk7 : ¬ (kgN (dF D) 0 = 1 ∧ kgN (dF D) 1 = 1) := fun h => c41 (by rw [e37, h.1]; rfl)
        refine g_iconst C (pc := 57) 0 dX12_looksAtAll_57 (by decide) ?_
        refine g_bipush C (pc := 58) 7 dX12_looksAtAll_58 (by decide) ?_
        refine g_callVV C (pc := 60) mf_X12_needs lk_RX12_155 (c_X12_needs n ρ _ _ 7 hn9 hms) (by decide) (Nat.le_refl _) rfl (by first | assumption | rfl | omega) rfl (by first | assumption | rfl | omega) (Nat.le_of_ble_eq_true rfl) dX12_looksAtAll_60 (fun I60 h60 => ?_)
        obtain h60 := h60
        first
        | (rw [if_neg (fun h => absurd h.1 (by decide))] at h60
           subst h60)
        | (rw [if_pos ⟨rfl, g21⟩] at h60
           have g21n : ¬ I60 97 21 = 0 := by rw [← h60, wr_sn (by decide), wr_ss]; decide
           have hft : FT I60 (7, L) := by rw [← h60]; exact ⟨by rw [wr_sn (by decide), wr_ss]; rfl, by rw [wr_ss]; exact h18, (show 1 ≤ 7 by decide), (show 7 ≤ 8 by decide)⟩
           have gl : FrL I I60 := by rw [← h60]; exact ((Lx.w (by decide) (by decide)).trans (Lx.w (by decide) (by decide))).l
           have hW6 : whlD L D = .inl (7, L) := by unfold whlD; rw [if_neg hw6, if_pos hNp, if_neg hk7])
        | (rw [if_neg (fun h => g21n h.2)] at h60
           subst h60)
        refine g_aload_n C (pc := 63) dX12_looksAtAll_63 0 rfl ?_
        refine g_getI C (pc := 64) fl_RX12_117 (by decide) (by first | assumption | rfl | omega) (by first | assumption | rfl | omega) dX12_looksAtAll_64 ?_
        refine g_if_ne C (pc := 67) 118 dX12_looksAtAll_67 (by decide) (fun c67 => ?_) (fun c67 => ?_)
        · skip
          refine g_vret C hR (pc := 118) rfl dX12_looksAtAll_118 ?_
          refine ⟨rfl, rfl, ?_⟩
          first
          | exact absurd g21 c67
          | exact ⟨Or.inl ⟨_, hW6, hft⟩, gl⟩
          | exact ⟨Or.inr ⟨(dF D, dB D), by unfold whlD; rw [if_neg hw6, if_pos hNp, if_pos ⟨hkA, hkB⟩], g21, hdn⟩, hrf⟩
          | exact ⟨Or.inr ⟨_, hW8e, k21, h78⟩, kfl⟩
          | exact ⟨Or.inl ⟨_, hW8e, by rw [← h115]; exact ⟨by rw [wr_sn (by decide), wr_ss]; rfl, by rw [wr_ss]; exact k18, (show 1 ≤ 8 by decide), (show 8 ≤ 8 by decide)⟩⟩, kfl.trans (by rw [← h115]; exact ((Lx.w (by decide) (by decide)).trans (Lx.w (by decide) (by decide))).l)⟩
        · exact absurd c67 g21n
      · have hkA : kgN (dF D) 0 = 1 := by
          have := hkl 0
          exact (nI_eq (b := 1) (by omega) (by decide)).mp (e37.symm.trans c41)
        refine g_aload_n C (pc := 44) dX12_looksAtAll_44 0 rfl ?_
        refine g_iconst C (pc := 45) 1 dX12_looksAtAll_45 (by decide) ?_
        refine g_callVI C (pc := 46) mf_X12_kingsOf lk_RX12_193 (c_X12_kingsOf n ρ _ D 1 _ hn9 hms (by assumption) (by decide) rfl) (by decide) (Nat.le_refl _) rfl (by first | assumption | rfl | omega) rfl (by first | assumption | rfl | omega) (Nat.le_of_ble_eq_true rfl) dX12_looksAtAll_46 (fun v46 I46 h46 => ?_)
        obtain ⟨e46, rfl⟩ := h46
        refine g_iconst C (pc := 49) 1 dX12_looksAtAll_49 (by decide) ?_
        refine g_icmp_ne C (pc := 50) 57 dX12_looksAtAll_50 (by decide) (fun c50 => ?_) (fun c50 => ?_)
        · have hk7 : ¬ (kgN (dF D) 0 = 1 ∧ kgN (dF D) 1 = 1) := fun h => c50 (by rw [e46, h.2]; rfl)
          refine g_iconst C (pc := 57) 0 dX12_looksAtAll_57 (by decide) ?_
          refine g_bipush C (pc := 58) 7 dX12_looksAtAll_58 (by decide) ?_
          refine g_callVV C (pc := 60) mf_X12_needs lk_RX12_155 (c_X12_needs n ρ _ _ 7 hn9 hms) (by decide) (Nat.le_refl _) rfl (by first | assumption | rfl | omega) rfl (by first | assumption | rfl | omega) (Nat.le_of_ble_eq_true rfl) dX12_looksAtAll_60 (fun I60 h60 => ?_)
          obtain h60 := h60
          first
          | (rw [if_neg (fun h => absurd h.1 (by decide))] at h60
             subst h60)
          | (rw [if_pos ⟨rfl, g21⟩] at h60
             have g21n : ¬ I60 97 21 = 0 := by rw [← h60, wr_sn (by decide), wr_ss]; decide
             have hft : FT I60 (7, L) := by rw [← h60]; exact ⟨by rw [wr_sn (by decide), wr_ss]; rfl, by rw [wr_ss]; exact h18, (show 1 ≤ 7 by decide), (show 7 ≤ 8 by decide)⟩
             have gl : FrL I I60 := by rw [← h60]; exact ((Lx.w (by decide) (by decide)).trans (Lx.w (by decide) (by decide))).l
             have hW6 : whlD L D = .inl (7, L) := by unfold whlD; rw [if_neg hw6, if_pos hNp, if_neg hk7])
          | (rw [if_neg (fun h => g21n h.2)] at h60
             subst h60)
          refine g_aload_n C (pc := 63) dX12_looksAtAll_63 0 rfl ?_
          refine g_getI C (pc := 64) fl_RX12_117 (by decide) (by first | assumption | rfl | omega) (by first | assumption | rfl | omega) dX12_looksAtAll_64 ?_
          refine g_if_ne C (pc := 67) 118 dX12_looksAtAll_67 (by decide) (fun c67 => ?_) (fun c67 => ?_)
          · skip
            refine g_vret C hR (pc := 118) rfl dX12_looksAtAll_118 ?_
            refine ⟨rfl, rfl, ?_⟩
            first
            | exact absurd g21 c67
            | exact ⟨Or.inl ⟨_, hW6, hft⟩, gl⟩
            | exact ⟨Or.inr ⟨(dF D, dB D), by unfold whlD; rw [if_neg hw6, if_pos hNp, if_pos ⟨hkA, hkB⟩], g21, hdn⟩, hrf⟩
            | exact ⟨Or.inr ⟨_, hW8e, k21, h78⟩, kfl⟩
            | exact ⟨Or.inl ⟨_, hW8e, by rw [← h115]; exact ⟨by rw [wr_sn (by decide), wr_ss]; rfl, by rw [wr_ss]; exact k18, (show 1 ≤ 8 by decide), (show 8 ≤ 8 by decide)⟩⟩, kfl.trans (by rw [← h115]; exact ((Lx.w (by decide) (by decide)).trans (Lx.w (by decide) (by decide))).l)⟩
          · exact absurd c67 g21n
        · have hkB : kgN (dF D) 1 = 1 := by
            have := hkl 1
            exact (nI_eq (b := 1) (by omega) (by decide)).mp (e46.symm.trans c50)
          refine g_iconst C (pc := 53) 1 dX12_looksAtAll_53 (by decide) ?_
          refine g_goto C (pc := 54) 58 dX12_looksAtAll_54 (by decide) ?_
          refine g_bipush C (pc := 58) 7 dX12_looksAtAll_58 (by decide) ?_
          refine g_callVV C (pc := 60) mf_X12_needs lk_RX12_155 (c_X12_needs n ρ _ _ 7 hn9 hms) (by decide) (Nat.le_refl _) rfl (by first | assumption | rfl | omega) rfl (by first | assumption | rfl | omega) (Nat.le_of_ble_eq_true rfl) dX12_looksAtAll_60 (fun I60 h60 => ?_)
          obtain h60 := h60
          first
          | (rw [if_neg (fun h => absurd h.1 (by decide))] at h60
             subst h60)
          | (rw [if_pos ⟨rfl, g21⟩] at h60
             have g21n : ¬ I60 97 21 = 0 := by rw [← h60, wr_sn (by decide), wr_ss]; decide
             have hft : FT I60 (7, L) := by rw [← h60]; exact ⟨by rw [wr_sn (by decide), wr_ss]; rfl, by rw [wr_ss]; exact h18, (show 1 ≤ 7 by decide), (show 7 ≤ 8 by decide)⟩
             have gl : FrL I I60 := by rw [← h60]; exact ((Lx.w (by decide) (by decide)).trans (Lx.w (by decide) (by decide))).l
             have hW6 : whlD L D = .inl (7, L) := by unfold whlD; rw [if_neg hw6, if_pos hNp, if_neg hk7])
          | (rw [if_neg (fun h => g21n h.2)] at h60
             subst h60)
          refine g_aload_n C (pc := 63) dX12_looksAtAll_63 0 rfl ?_
          refine g_getI C (pc := 64) fl_RX12_117 (by decide) (by first | assumption | rfl | omega) (by first | assumption | rfl | omega) dX12_looksAtAll_64 ?_
          refine g_if_ne C (pc := 67) 118 dX12_looksAtAll_67 (by decide) (fun c67 => ?_) (fun c67 => ?_)
          · skip
            refine g_vret C hR (pc := 118) rfl dX12_looksAtAll_118 ?_
            refine ⟨rfl, rfl, ?_⟩
            first
            | exact absurd g21 c67
            | exact ⟨Or.inl ⟨_, hW6, hft⟩, gl⟩
            | exact ⟨Or.inr ⟨(dF D, dB D), by unfold whlD; rw [if_neg hw6, if_pos hNp, if_pos ⟨hkA, hkB⟩], g21, hdn⟩, hrf⟩
            | exact ⟨Or.inr ⟨_, hW8e, k21, h78⟩, kfl⟩
            | exact ⟨Or.inl ⟨_, hW8e, by rw [← h115]; exact ⟨by rw [wr_sn (by decide), wr_ss]; rfl, by rw [wr_ss]; exact k18, (show 1 ≤ 8 by decide), (show 8 ≤ 8 by decide)⟩⟩, kfl.trans (by rw [← h115]; exact ((Lx.w (by decide) (by decide)).trans (Lx.w (by decide) (by decide))).l)⟩
          · exact absurd c67 g21n
  · have hw6 : ¬ (List.range 32).any (fun i => decide (rW (dF D) * rH (dF D) ≤ i) && useB (dF D) (dB D) i) = true := fun h => absurd (hwl.mpr h) (Int32.not_le.mpr c14)
    refine g_iconst C (pc := 17) 1 dX12_looksAtAll_17 (by decide) ?_
    refine g_goto C (pc := 18) 22 dX12_looksAtAll_18 (by decide) ?_
    refine g_bipush C (pc := 22) 6 dX12_looksAtAll_22 (by decide) ?_
    refine g_callVV C (pc := 24) mf_X12_needs lk_RX12_155 (c_X12_needs n ρ I _ 6 hn9 hms) (by decide) (Nat.le_refl _) rfl (by first | assumption | rfl | omega) rfl (by first | assumption | rfl | omega) (Nat.le_of_ble_eq_true rfl) dX12_looksAtAll_24 (fun I24 h24 => ?_)
    obtain h24 := h24
    first
    | (rw [if_neg (fun h => absurd h.1 (by decide))] at h24
       subst h24
       have hdr2 : DrM I D := hdr
       have n10 : I 97 10 = nI (rN (dF D)) := hN10)
    | (rw [if_pos ⟨rfl, g21⟩] at h24
       have g21n : ¬ I24 97 21 = 0 := by rw [← h24, wr_sn (by decide), wr_ss]; decide
       have hft : FT I24 (6, L) := by rw [← h24]; exact ⟨by rw [wr_sn (by decide), wr_ss]; rfl, by rw [wr_ss]; exact h18, (show 1 ≤ 6 by decide), (show 6 ≤ 8 by decide)⟩
       have gl : FrL I I24 := by rw [← h24]; exact ((Lx.w (by decide) (by decide)).trans (Lx.w (by decide) (by decide))).l
       have hdr2 : DrM I24 D := by
         refine DrM_iff.mpr ⟨hdn.ly (by rw [← h24]; exact ((Lx.w (by decide) (by decide)).trans (Lx.w (by decide) (by decide))).y), ?_, ?_⟩
         · rw [← h24, wr_sn (by decide), wr_sn (by decide)]; exact htl
         · rw [← h24, wr_sn (by decide), wr_sn (by decide)]; exact hhi
       have n10 : I24 97 10 = nI (rN (dF D)) := by rw [← h24, wr_sn (by decide), wr_sn (by decide)]; exact hN10)
    refine g_aload_n C (pc := 27) dX12_looksAtAll_27 0 rfl ?_
    refine g_aload_n C (pc := 28) dX12_looksAtAll_28 0 rfl ?_
    refine g_getI C (pc := 29) fl_RX12_90 (by decide) (by first | assumption | rfl | omega) (by first | assumption | rfl | omega) dX12_looksAtAll_29 ?_
    rw [n10]
    refine g_if_eq C (pc := 32) 53 dX12_looksAtAll_32 (by decide) (fun c32 => ?_) (fun c32 => ?_)
    · have hN0 : rN (dF D) = 0 := (nI_eq (b := 0) (by omega) (by decide)).mp c32
      refine g_iconst C (pc := 53) 1 dX12_looksAtAll_53 (by decide) ?_
      refine g_goto C (pc := 54) 58 dX12_looksAtAll_54 (by decide) ?_
      refine g_bipush C (pc := 58) 7 dX12_looksAtAll_58 (by decide) ?_
      refine g_callVV C (pc := 60) mf_X12_needs lk_RX12_155 (c_X12_needs n ρ _ _ 7 hn9 hms) (by decide) (Nat.le_refl _) rfl (by first | assumption | rfl | omega) rfl (by first | assumption | rfl | omega) (Nat.le_of_ble_eq_true rfl) dX12_looksAtAll_60 (fun I60 h60 => ?_)
      obtain h60 := h60
      first
      | (rw [if_neg (fun h => absurd h.1 (by decide))] at h60
         subst h60)
      | (rw [if_pos ⟨rfl, g21⟩] at h60
         have g21n : ¬ I60 97 21 = 0 := by rw [← h60, wr_sn (by decide), wr_ss]; decide
         have hft : FT I60 (7, L) := by rw [← h60]; exact ⟨by rw [wr_sn (by decide), wr_ss]; rfl, by rw [wr_ss]; exact h18, (show 1 ≤ 7 by decide), (show 7 ≤ 8 by decide)⟩
         have gl : FrL I I60 := by rw [← h60]; exact ((Lx.w (by decide) (by decide)).trans (Lx.w (by decide) (by decide))).l
         have hW6 : whlD L D = .inl (7, L) := by unfold whlD; rw [if_neg hw6, if_pos hNp, if_neg hk7])
      | (rw [if_neg (fun h => g21n h.2)] at h60
         subst h60)
      refine g_aload_n C (pc := 63) dX12_looksAtAll_63 0 rfl ?_
      refine g_getI C (pc := 64) fl_RX12_117 (by decide) (by first | assumption | rfl | omega) (by first | assumption | rfl | omega) dX12_looksAtAll_64 ?_
      refine g_if_ne C (pc := 67) 118 dX12_looksAtAll_67 (by decide) (fun c67 => ?_) (fun c67 => ?_)
      · exact absurd g21 c67
      · refine g_aload_n C (pc := 70) dX12_looksAtAll_70 0 rfl ?_
        refine g_getI C (pc := 71) fl_RX12_90 (by decide) (by first | assumption | rfl | omega) (by first | assumption | rfl | omega) dX12_looksAtAll_71 ?_
        refine g_if_ne C (pc := 74) 118 dX12_looksAtAll_74 (by decide) (fun c74 => ?_) (fun c74 => ?_)
        · rw [n10] at c74; exact absurd (by rw [hN0]; rfl) c74
        · refine g_aload_n C (pc := 77) dX12_looksAtAll_77 0 rfl ?_
          refine g_callVV C (pc := 78) mf_X12_twoKings lk_RX12_77 (c_X12_twoKings n ρ I (dF D) (dB D) hn9 hms hdn hN0) (by decide) (Nat.le_refl _) rfl (by first | assumption | rfl | omega) rfl (by first | assumption | rfl | omega) (Nat.le_of_ble_eq_true rfl) dX12_looksAtAll_78 (fun I78 h78 => ?_)
          obtain ⟨h78, z78, g78⟩ := h78
          obtain ⟨k1, k2, ⟨k8, k9a, -⟩, -, kst, -, -⟩ := id h78
          have k21 : I78 97 21 = 0 := (z78 21 (by decide)).trans g21
          have k18 : I78 97 18 = nI L := (z78 18 (by decide)).trans h18
          have kfl : FrL I I78 := ⟨fun z _ _ h3 _ _ _ => z78 z h3, fun i h1 h2 h3 h4 => g78 i h1 h2 h3 h4⟩
          refine g_aload_n C (pc := 81) dX12_looksAtAll_81 0 rfl ?_
          refine g_aload_n C (pc := 82) dX12_looksAtAll_82 0 rfl ?_
          refine g_getR C (pc := 83) fl_RX12_23 (by decide) (by first | assumption | rfl | omega) (by first | assumption | rfl | omega) (by first | assumption | rfl | omega) dX12_looksAtAll_83 ?_
          refine g_bipush C (pc := 86) 12 dX12_looksAtAll_86 (by decide) ?_
          refine g_iald C (pc := 88) (by first | assumption | rfl | omega) (by first | assumption | rfl | omega) (vp_in_nI (n := 12) (by decide) (by decide)) dX12_looksAtAll_88 ?_
          refine g_iconst C (pc := 89) 1 dX12_looksAtAll_89 (by decide) ?_
          refine g_iconst C (pc := 90) 1 dX12_looksAtAll_90 (by decide) ?_
          refine g_aload_n C (pc := 91) dX12_looksAtAll_91 0 rfl ?_
          refine g_getI C (pc := 92) fl_RX12_83 (by decide) (by first | assumption | rfl | omega) (by first | assumption | rfl | omega) dX12_looksAtAll_92 ?_
          refine g_aload_n C (pc := 95) dX12_looksAtAll_95 0 rfl ?_
          refine g_getI C (pc := 96) fl_RX12_87 (by decide) (by first | assumption | rfl | omega) (by first | assumption | rfl | omega) dX12_looksAtAll_96 ?_
          refine g_imul C (pc := 99) dX12_looksAtAll_99 ?_
          refine g_iconst C (pc := 100) 1 dX12_looksAtAll_100 (by decide) ?_
          refine g_isub C (pc := 101) dX12_looksAtAll_101 ?_
          refine g_ishl C (pc := 102) dX12_looksAtAll_102 ?_
          refine g_ior C (pc := 103) dX12_looksAtAll_103 ?_
          refine g_iand C (pc := 104) dX12_looksAtAll_104 ?_
          rw [z78 8 (by decide), z78 9 (by decide), hW8, hH9, pk_mul, show nI (rW (dF D) * rH (dF D)) - 1 = nI (rW (dF D) * rH (dF D) - 1) from pk_sub (b := 1) (by omega)]
          refine g_if_ne C (pc := 105) 112 dX12_looksAtAll_105 (by decide) (fun c105 => ?_) (fun c105 => ?_)
          · have h8 : rS (dF D) 0 = true ∨ rS (dF D) (rW (dF D) * rH (dF D) - 1) = true := Decidable.byContradiction fun h => c105 ((st_two (F := dF D) kst (by omega)).mpr h)
            have hW8e : whlD L D = .inl (8, L) := by unfold whlD; rw [if_neg hw6, if_neg (by omega), if_pos h8]
            refine g_iconst C (pc := 112) 0 dX12_looksAtAll_112 (by decide) ?_
            refine g_bipush C (pc := 113) 8 dX12_looksAtAll_113 (by decide) ?_
            refine g_callVV C (pc := 115) mf_X12_needs lk_RX12_155 (c_X12_needs n ρ I78 _ 8 hn9 hms) (by decide) (Nat.le_refl _) rfl (by first | assumption | rfl | omega) rfl (by first | assumption | rfl | omega) (Nat.le_of_ble_eq_true rfl) dX12_looksAtAll_115 (fun I115 h115 => ?_)
            obtain h115 := h115
            first
            | (rw [if_neg (fun h => absurd h.1 (by decide))] at h115
               subst h115)
            | (rw [if_pos ⟨rfl, k21⟩] at h115)
            refine g_vret C hR (pc := 118) rfl dX12_looksAtAll_118 ?_
            refine ⟨rfl, rfl, ?_⟩
            first
            | exact absurd g21 c67
            | exact ⟨Or.inl ⟨_, hW6, hft⟩, gl⟩
            | exact ⟨Or.inr ⟨(dF D, dB D), by unfold whlD; rw [if_neg hw6, if_pos hNp, if_pos ⟨hkA, hkB⟩], g21, hdn⟩, hrf⟩
            | exact ⟨Or.inr ⟨_, hW8e, k21, h78⟩, kfl⟩
            | exact ⟨Or.inl ⟨_, hW8e, by rw [← h115]; exact ⟨by rw [wr_sn (by decide), wr_ss]; rfl, by rw [wr_ss]; exact k18, (show 1 ≤ 8 by decide), (show 8 ≤ 8 by decide)⟩⟩, kfl.trans (by rw [← h115]; exact ((Lx.w (by decide) (by decide)).trans (Lx.w (by decide) (by decide))).l)⟩
          · have h8 : ¬ (rS (dF D) 0 = true ∨ rS (dF D) (rW (dF D) * rH (dF D) - 1) = true) := (st_two (F := dF D) kst (by omega)).mp c105
            have hW8e : whlD L D = .inr (twoK (dF D) (dB D)) := by unfold whlD; rw [if_neg hw6, if_neg (by omega), if_neg h8]
            refine g_iconst C (pc := 108) 1 dX12_looksAtAll_108 (by decide) ?_
            refine g_goto C (pc := 109) 113 dX12_looksAtAll_109 (by decide) ?_
            refine g_bipush C (pc := 113) 8 dX12_looksAtAll_113 (by decide) ?_
            refine g_callVV C (pc := 115) mf_X12_needs lk_RX12_155 (c_X12_needs n ρ I78 _ 8 hn9 hms) (by decide) (Nat.le_refl _) rfl (by first | assumption | rfl | omega) rfl (by first | assumption | rfl | omega) (Nat.le_of_ble_eq_true rfl) dX12_looksAtAll_115 (fun I115 h115 => ?_)
            obtain h115 := h115
            first
            | (rw [if_neg (fun h => absurd h.1 (by decide))] at h115
               subst h115)
            | (rw [if_pos ⟨rfl, k21⟩] at h115)
            refine g_vret C hR (pc := 118) rfl dX12_looksAtAll_118 ?_
            refine ⟨rfl, rfl, ?_⟩
            first
            | exact absurd g21 c67
            | exact ⟨Or.inl ⟨_, hW6, hft⟩, gl⟩
            | exact ⟨Or.inr ⟨(dF D, dB D), by unfold whlD; rw [if_neg hw6, if_pos hNp, if_pos ⟨hkA, hkB⟩], g21, hdn⟩, hrf⟩
            | exact ⟨Or.inr ⟨_, hW8e, k21, h78⟩, kfl⟩
            | exact ⟨Or.inl ⟨_, hW8e, by rw [← h115]; exact ⟨by rw [wr_sn (by decide), wr_ss]; rfl, by rw [wr_ss]; exact k18, (show 1 ≤ 8 by decide), (show 8 ≤ 8 by decide)⟩⟩, kfl.trans (by rw [← h115]; exact ((Lx.w (by decide) (by decide)).trans (Lx.w (by decide) (by decide))).l)⟩
    · have hNp : 0 < rN (dF D) := Nat.pos_of_ne_zero (fun h => c32 (by rw [h]; rfl))
      refine g_aload_n C (pc := 35) dX12_looksAtAll_35 0 rfl ?_
      refine g_iconst C (pc := 36) 0 dX12_looksAtAll_36 (by decide) ?_
      refine g_callVI C (pc := 37) mf_X12_kingsOf lk_RX12_193 (c_X12_kingsOf n ρ _ D 0 _ hn9 hms (by assumption) (by decide) rfl) (by decide) (Nat.le_refl _) rfl (by first | assumption | rfl | omega) rfl (by first | assumption | rfl | omega) (Nat.le_of_ble_eq_true rfl) dX12_looksAtAll_37 (fun v37 I37 h37 => ?_)
      obtain ⟨e37, rfl⟩ := h37
      refine g_iconst C (pc := 40) 1 dX12_looksAtAll_40 (by decide) ?_
      refine g_icmp_ne C (pc := 41) 57 dX12_looksAtAll_41 (by decide) (fun c41 => ?_) (fun c41 => ?_)
      · have hk7 : ¬ (kgN (dF D) 0 = 1 ∧ kgN (dF D) 1 = 1) := fun h => c41 (by rw [e37, h.1]; rfl)
        refine g_iconst C (pc := 57) 0 dX12_looksAtAll_57 (by decide) ?_
        refine g_bipush C (pc := 58) 7 dX12_looksAtAll_58 (by decide) ?_
        refine g_callVV C (pc := 60) mf_X12_needs lk_RX12_155 (c_X12_needs n ρ _ _ 7 hn9 hms) (by decide) (Nat.le_refl _) rfl (by first | assumption | rfl | omega) rfl (by first | assumption | rfl | omega) (Nat.le_of_ble_eq_true rfl) dX12_looksAtAll_60 (fun I60 h60 => ?_)
        obtain h60 := h60
        first
        | (rw [if_neg (fun h => absurd h.1 (by decide))] at h60
           subst h60)
        | (rw [if_pos ⟨rfl, g21⟩] at h60
           have g21n : ¬ I60 97 21 = 0 := by rw [← h60, wr_sn (by decide), wr_ss]; decide
           have hft : FT I60 (7, L) := by rw [← h60]; exact ⟨by rw [wr_sn (by decide), wr_ss]; rfl, by rw [wr_ss]; exact h18, (show 1 ≤ 7 by decide), (show 7 ≤ 8 by decide)⟩
           have gl : FrL I I60 := by rw [← h60]; exact ((Lx.w (by decide) (by decide)).trans (Lx.w (by decide) (by decide))).l
           have hW6 : whlD L D = .inl (7, L) := by unfold whlD; rw [if_neg hw6, if_pos hNp, if_neg hk7])
        | (rw [if_neg (fun h => g21n h.2)] at h60
           subst h60)
        refine g_aload_n C (pc := 63) dX12_looksAtAll_63 0 rfl ?_
        refine g_getI C (pc := 64) fl_RX12_117 (by decide) (by first | assumption | rfl | omega) (by first | assumption | rfl | omega) dX12_looksAtAll_64 ?_
        refine g_if_ne C (pc := 67) 118 dX12_looksAtAll_67 (by decide) (fun c67 => ?_) (fun c67 => ?_)
        · skip
          refine g_vret C hR (pc := 118) rfl dX12_looksAtAll_118 ?_
          refine ⟨rfl, rfl, ?_⟩
          first
          | exact absurd g21 c67
          | exact ⟨Or.inl ⟨_, hW6, hft⟩, gl⟩
          | exact ⟨Or.inr ⟨(dF D, dB D), by unfold whlD; rw [if_neg hw6, if_pos hNp, if_pos ⟨hkA, hkB⟩], g21, hdn⟩, hrf⟩
          | exact ⟨Or.inr ⟨_, hW8e, k21, h78⟩, kfl⟩
          | exact ⟨Or.inl ⟨_, hW8e, by rw [← h115]; exact ⟨by rw [wr_sn (by decide), wr_ss]; rfl, by rw [wr_ss]; exact k18, (show 1 ≤ 8 by decide), (show 8 ≤ 8 by decide)⟩⟩, kfl.trans (by rw [← h115]; exact ((Lx.w (by decide) (by decide)).trans (Lx.w (by decide) (by decide))).l)⟩
        · exact absurd c67 g21n
      · have hkA : kgN (dF D) 0 = 1 := by
          have := hkl 0
          exact (nI_eq (b := 1) (by omega) (by decide)).mp (e37.symm.trans c41)
        refine g_aload_n C (pc := 44) dX12_looksAtAll_44 0 rfl ?_
        refine g_iconst C (pc := 45) 1 dX12_looksAtAll_45 (by decide) ?_
        refine g_callVI C (pc := 46) mf_X12_kingsOf lk_RX12_193 (c_X12_kingsOf n ρ _ D 1 _ hn9 hms (by assumption) (by decide) rfl) (by decide) (Nat.le_refl _) rfl (by first | assumption | rfl | omega) rfl (by first | assumption | rfl | omega) (Nat.le_of_ble_eq_true rfl) dX12_looksAtAll_46 (fun v46 I46 h46 => ?_)
        obtain ⟨e46, rfl⟩ := h46
        refine g_iconst C (pc := 49) 1 dX12_looksAtAll_49 (by decide) ?_
        refine g_icmp_ne C (pc := 50) 57 dX12_looksAtAll_50 (by decide) (fun c50 => ?_) (fun c50 => ?_)
        · have hk7 : ¬ (kgN (dF D) 0 = 1 ∧ kgN (dF D) 1 = 1) := fun h => c50 (by rw [e46, h.2]; rfl)
          refine g_iconst C (pc := 57) 0 dX12_looksAtAll_57 (by decide) ?_
          refine g_bipush C (pc := 58) 7 dX12_looksAtAll_58 (by decide) ?_
          refine g_callVV C (pc := 60) mf_X12_needs lk_RX12_155 (c_X12_needs n ρ _ _ 7 hn9 hms) (by decide) (Nat.le_refl _) rfl (by first | assumption | rfl | omega) rfl (by first | assumption | rfl | omega) (Nat.le_of_ble_eq_true rfl) dX12_looksAtAll_60 (fun I60 h60 => ?_)
          obtain h60 := h60
          first
          | (rw [if_neg (fun h => absurd h.1 (by decide))] at h60
             subst h60)
          | (rw [if_pos ⟨rfl, g21⟩] at h60
             have g21n : ¬ I60 97 21 = 0 := by rw [← h60, wr_sn (by decide), wr_ss]; decide
             have hft : FT I60 (7, L) := by rw [← h60]; exact ⟨by rw [wr_sn (by decide), wr_ss]; rfl, by rw [wr_ss]; exact h18, (show 1 ≤ 7 by decide), (show 7 ≤ 8 by decide)⟩
             have gl : FrL I I60 := by rw [← h60]; exact ((Lx.w (by decide) (by decide)).trans (Lx.w (by decide) (by decide))).l
             have hW6 : whlD L D = .inl (7, L) := by unfold whlD; rw [if_neg hw6, if_pos hNp, if_neg hk7])
          | (rw [if_neg (fun h => g21n h.2)] at h60
             subst h60)
          refine g_aload_n C (pc := 63) dX12_looksAtAll_63 0 rfl ?_
          refine g_getI C (pc := 64) fl_RX12_117 (by decide) (by first | assumption | rfl | omega) (by first | assumption | rfl | omega) dX12_looksAtAll_64 ?_
          refine g_if_ne C (pc := 67) 118 dX12_looksAtAll_67 (by decide) (fun c67 => ?_) (fun c67 => ?_)
          · skip
            refine g_vret C hR (pc := 118) rfl dX12_looksAtAll_118 ?_
            refine ⟨rfl, rfl, ?_⟩
            first
            | exact absurd g21 c67
            | exact ⟨Or.inl ⟨_, hW6, hft⟩, gl⟩
            | exact ⟨Or.inr ⟨(dF D, dB D), by unfold whlD; rw [if_neg hw6, if_pos hNp, if_pos ⟨hkA, hkB⟩], g21, hdn⟩, hrf⟩
            | exact ⟨Or.inr ⟨_, hW8e, k21, h78⟩, kfl⟩
            | exact ⟨Or.inl ⟨_, hW8e, by rw [← h115]; exact ⟨by rw [wr_sn (by decide), wr_ss]; rfl, by rw [wr_ss]; exact k18, (show 1 ≤ 8 by decide), (show 8 ≤ 8 by decide)⟩⟩, kfl.trans (by rw [← h115]; exact ((Lx.w (by decide) (by decide)).trans (Lx.w (by decide) (by decide))).l)⟩
          · exact absurd c67 g21n
        · have hkB : kgN (dF D) 1 = 1 := by
            have := hkl 1
            exact (nI_eq (b := 1) (by omega) (by decide)).mp (e46.symm.trans c50)
          refine g_iconst C (pc := 53) 1 dX12_looksAtAll_53 (by decide) ?_
          refine g_goto C (pc := 54) 58 dX12_looksAtAll_54 (by decide) ?_
          refine g_bipush C (pc := 58) 7 dX12_looksAtAll_58 (by decide) ?_
          refine g_callVV C (pc := 60) mf_X12_needs lk_RX12_155 (c_X12_needs n ρ _ _ 7 hn9 hms) (by decide) (Nat.le_refl _) rfl (by first | assumption | rfl | omega) rfl (by first | assumption | rfl | omega) (Nat.le_of_ble_eq_true rfl) dX12_looksAtAll_60 (fun I60 h60 => ?_)
          obtain h60 := h60
          first
          | (rw [if_neg (fun h => absurd h.1 (by decide))] at h60
             subst h60)
          | (rw [if_pos ⟨rfl, g21⟩] at h60
             have g21n : ¬ I60 97 21 = 0 := by rw [← h60, wr_sn (by decide), wr_ss]; decide
             have hft : FT I60 (7, L) := by rw [← h60]; exact ⟨by rw [wr_sn (by decide), wr_ss]; rfl, by rw [wr_ss]; exact h18, (show 1 ≤ 7 by decide), (show 7 ≤ 8 by decide)⟩
             have gl : FrL I I60 := by rw [← h60]; exact ((Lx.w (by decide) (by decide)).trans (Lx.w (by decide) (by decide))).l
             have hW6 : whlD L D = .inl (7, L) := by unfold whlD; rw [if_neg hw6, if_pos hNp, if_neg hk7])
          | (rw [if_neg (fun h => g21n h.2)] at h60
             subst h60)
          refine g_aload_n C (pc := 63) dX12_looksAtAll_63 0 rfl ?_
          refine g_getI C (pc := 64) fl_RX12_117 (by decide) (by first | assumption | rfl | omega) (by first | assumption | rfl | omega) dX12_looksAtAll_64 ?_
          refine g_if_ne C (pc := 67) 118 dX12_looksAtAll_67 (by decide) (fun c67 => ?_) (fun c67 => ?_)
          · skip
            refine g_vret C hR (pc := 118) rfl dX12_looksAtAll_118 ?_
            refine ⟨rfl, rfl, ?_⟩
            first
            | exact absurd g21 c67
            | exact ⟨Or.inl ⟨_, hW6, hft⟩, gl⟩
            | exact ⟨Or.inr ⟨(dF D, dB D), by unfold whlD; rw [if_neg hw6, if_pos hNp, if_pos ⟨hkA, hkB⟩], g21, hdn⟩, hrf⟩
            | exact ⟨Or.inr ⟨_, hW8e, k21, h78⟩, kfl⟩
            | exact ⟨Or.inl ⟨_, hW8e, by rw [← h115]; exact ⟨by rw [wr_sn (by decide), wr_ss]; rfl, by rw [wr_ss]; exact k18, (show 1 ≤ 8 by decide), (show 8 ≤ 8 by decide)⟩⟩, kfl.trans (by rw [← h115]; exact ((Lx.w (by decide) (by decide)).trans (Lx.w (by decide) (by decide))).l)⟩
          · refine g_aload_n C (pc := 70) dX12_looksAtAll_70 0 rfl ?_
            refine g_getI C (pc := 71) fl_RX12_90 (by decide) (by first | assumption | rfl | omega) (by first | assumption | rfl | omega) dX12_looksAtAll_71 ?_
            refine g_if_ne C (pc := 74) 118 dX12_looksAtAll_74 (by decide) (fun c74 => ?_) (fun c74 => ?_)
            · refine g_vret C hR (pc := 118) rfl dX12_looksAtAll_118 ?_
              refine ⟨rfl, rfl, ?_⟩
              first
              | exact absurd g21 c67
              | exact ⟨Or.inl ⟨_, hW6, hft⟩, gl⟩
              | exact ⟨Or.inr ⟨(dF D, dB D), by unfold whlD; rw [if_neg hw6, if_pos hNp, if_pos ⟨hkA, hkB⟩], g21, hdn⟩, hrf⟩
              | exact ⟨Or.inr ⟨_, hW8e, k21, h78⟩, kfl⟩
              | exact ⟨Or.inl ⟨_, hW8e, by rw [← h115]; exact ⟨by rw [wr_sn (by decide), wr_ss]; rfl, by rw [wr_ss]; exact k18, (show 1 ≤ 8 by decide), (show 8 ≤ 8 by decide)⟩⟩, kfl.trans (by rw [← h115]; exact ((Lx.w (by decide) (by decide)).trans (Lx.w (by decide) (by decide))).l)⟩
            · rw [n10] at c74; exact absurd ((nI_eq (b := 0) (by omega) (by decide)).mp c74) (by omega)
