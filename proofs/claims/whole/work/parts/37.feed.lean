/-- the bytes of a long, the highest first -/
def byt (x : Int64) (i : Nat) : Nat := x.toBitVec.toNat / 2 ^ (56 - 8 * i) % 256
theorem byt_lt (x : Int64) (i : Nat) : byt x i < 256 := Nat.mod_lt _ (by decide)
theorem byt_sh : ∀ i, i < 8 → (((56 - 8 * nI i).toInt64.toUInt64 &&& Int64.toUInt64 63).toBitVec % 64).toNat = 56 - 8 * i := by decide +kernel
theorem byt_c {x : Int64} {i : Nat} (hi : i < 8) : (((x.toUInt64 >>> ((56 - 8 * nI i).toInt64.toUInt64 &&& Int64.toUInt64 63)).toInt64.toInt32).toInt8.toInt32).toInt8.toInt32 = (nI (byt x i)).toInt8.toInt32 := by
  rw [Int8.toInt8_toInt32, Int64.toInt8_toInt32]
  congr 1
  apply Int8.toBitVec_inj.mp
  rw [Int64.toBitVec_toInt8, Int32.toBitVec_toInt8, BitVec.signExtend_eq_setWidth_of_le _ (by decide), BitVec.signExtend_eq_setWidth_of_le _ (by decide)]
  apply BitVec.eq_of_toNat_eq
  rw [BitVec.toNat_setWidth, BitVec.toNat_setWidth]
  have h1 : (x.toUInt64 >>> ((56 - 8 * nI i).toInt64.toUInt64 &&& Int64.toUInt64 63)).toInt64.toBitVec.toNat = x.toBitVec.toNat / 2 ^ (56 - 8 * i) := by
    show (x.toUInt64 >>> ((56 - 8 * nI i).toInt64.toUInt64 &&& Int64.toUInt64 63)).toBitVec.toNat = x.toUInt64.toBitVec.toNat / 2 ^ (56 - 8 * i)
    rw [UInt64.toBitVec_shiftRight]
    show (x.toUInt64.toBitVec >>> (((56 - 8 * nI i).toInt64.toUInt64 &&& Int64.toUInt64 63).toBitVec % 64).toNat).toNat = _
    rw [byt_sh i hi, BitVec.toNat_ushiftRight, Nat.shiftRight_eq_div_pow]
  have h2 : (nI (byt x i)).toBitVec.toNat = byt x i := vU_nI (by have := byt_lt x i; omega)
  rw [h1, h2]
  unfold byt
  exact (Nat.mod_mod _ 256).symm
theorem cell_at {I : Mem} {q k i : Nat} {ln : Nat → Option Nat} {sz : Nat → Nat} {cl : Nat → Nat → Int32} {l : Nat} {x z : Int32} (h : ShR I q ln sz cl) (hk : k < 4) (hi : i < sz k) (hl : ln k = some l) (hx : x = nI k) (hz : z = nI i) : (if (¬ (if 0 ≤ x ∧ x < 4 ∧ I (q + 1) x.toNatClampNeg ≠ -4 then I (q + 2) x.toNatClampNeg else -4) = -4 ∧ 0 ≤ z ∧ z < (if 0 ≤ x ∧ x < 4 ∧ I (q + 1) x.toNatClampNeg ≠ -4 then I (q + 2) x.toNatClampNeg else -4)) ∧ z < 40 then I (q + 4 + x.toNatClampNeg) z.toNatClampNeg else 0) = cl k i := by
  subst hx hz
  have h9 := h k hk
  rw [sz_at h hk, hl]
  show (if (¬ nI (sz k) = -4 ∧ 0 ≤ nI i ∧ nI i < nI (sz k)) ∧ nI i < 40 then _ else _) = _
  rw [if_pos ⟨⟨nI_ne4 (by omega), nI_pos' (by omega), nI_lt hi (by omega)⟩, nI_lt (b := 40) (by omega) (by decide)⟩, nI_clamp (by omega), nI_clamp (by omega)]
  exact h9.2.2.2.2 i hi
theorem ShR.cong {I I' : Mem} {q : Nat} {ln : Nat → Option Nat} {sz : Nat → Nat} {cl : Nat → Nat → Int32} (h : ShR I q ln sz cl) (e : ∀ i, q < i → i ≤ q + 7 → I' i = I i) : ShR I' q ln sz cl := by
  intro k hk
  obtain ⟨h1, h2, h3, h4, h5⟩ := h k hk
  refine ⟨by rw [e _ (by omega) (by omega)]; exact h1, by rw [e _ (by omega) (by omega)]; exact h2, h3, h4, fun i hi => by rw [e _ (by omega) (by omega)]; exact h5 i hi⟩
theorem rdS_W {F : RT} {ws ms : Nat → Int32} : ∀ {k i t : Nat} {b : BT} {r : Option Nat} {bb : BT} {tt : Nat}, BW F b → t ≤ 999 → rdS F ws ms k i b t = (r, bb, tt) → BW F bb ∧ tt ≤ 999
  | 0, i, t, b, r, bb, tt, hw, ht, h => by rw [rdS] at h; cases h; exact ⟨hw, ht⟩
  | k + 1, i, t, b, r, bb, tt, hw, ht, h => by
    rw [rdS] at h
    cases e : goF F b t (ws i) (ms i) with
    | none => rw [e] at h; cases h; exact ⟨hw, ht⟩
    | some q =>
      obtain ⟨b', t'⟩ := q
      rw [e] at h
      obtain ⟨h1, h2⟩ := goF_W hw e
      exact rdS_W h1 h2 h
/-- how many turns stand whole on a sheet, and its fault -/
def rdW (lk : Option Nat) (s l : Nat) (f : Int32) (m : Nat) : Nat × Nat := if m = 0 then (0, 0) else match lk with
  | none => (0, 1)
  | some l' => if l' = l then (if 0 ≤ f ∧ f < nI s then (if (s - f.toNatClampNeg) / 2 < m then ((s - f.toNatClampNeg) / 2, 2) else (m, 0)) else (0, 2)) else (0, 3)
set_option maxHeartbeats 400000 in
theorem c_X10_append (n : Nat) (ρ : Rho) (I : Mem) (L : Nat) (x : Int64) (hn9 : n ≤ 999) (hxs : XS n ρ) (hL : I 15 2 = nI L) (hL3 : L ≤ 320) : MI yX10_append cX10_append 4 (some .boolean) 0 [.ref 15, .long x] n ρ I (fun v I1 => (L + 8 ≤ 320 ∧ v = 1 ∧ I1 15 2 = nI (L + 8) ∧ (∀ i, i < 8 → I1 16 (L + i) = (nI (byt x i)).toInt8.toInt32) ∧ (∀ i, i < L → I1 16 i = I 16 i) ∧ (∀ z, z ≠ 2 → I1 15 z = I 15 z) ∧ ∀ i, i ≠ 15 → i ≠ 16 → I1 i = I i) ∨ (320 < L + 8 ∧ v = 0 ∧ I = I1)) := by
  refine MG.of (by decide +kernel) (Nat.le_of_ble_eq_true rfl) hn9 ?_
  intro κ C hR
  show G κ n ρ 0 [(0, .ref 15), (1, .long x)] [] I
  obtain ⟨hxc, ⟨xb1, xb2, xb3, xb4, xb5, xb6, xb8⟩, ⟨xi0, xi1, xga, xgb⟩, ⟨xt0, xt1, xgd⟩, hch, ⟨xr0, xr1, xr2⟩, xa0, ⟨xw0, xw1⟩, xst⟩ := id hxs
  obtain ⟨xc0, xcn, xc1, hga, xc7, hss⟩ := id hxc
  have xcz : 0 < n := by omega
  obtain ⟨ga0, ga1, ga2, ga3, ga4, ga5, ga6, ga7, ga8, gan, hrf, hst⟩ := id hga
  have hrf0 := hrf.1
  have hst0 := hst.1
  have hsp := hch.sp
  obtain ⟨hp0, hpn, hp1, hp2, hp3, hp4⟩ := id hsp
  refine g_aload_n C (pc := 0) dX10_append_0 0 rfl ?_
  refine g_getI C (pc := 1) fl_RX10_22 (by decide) (by first | assumption | rfl | omega) (by first | assumption | rfl | omega) dX10_append_1 ?_
  refine g_if_lt C (pc := 4) 20 dX10_append_4 (by decide) (fun c4 => ?_) (fun c4 => ?_)
  · rw [hL] at c4; exact absurd c4 (nI_pos (by omega))
  · refine g_aload_n C (pc := 7) dX10_append_7 0 rfl ?_
    refine g_getI C (pc := 8) fl_RX10_22 (by decide) (by first | assumption | rfl | omega) (by first | assumption | rfl | omega) dX10_append_8 ?_
    refine g_bipush C (pc := 11) 8 dX10_append_11 (by decide) ?_
    refine g_iadd C (pc := 13) dX10_append_13 ?_
    rw [hL, show (8 : Int32) = nI 8 from rfl, nI_add]
    refine g_sipush C (pc := 14) 320 dX10_append_14 (by decide) ?_
    refine g_icmp_le C (pc := 17) 22 dX10_append_17 (by decide) (fun c17 => ?_) (fun c17 => ?_)
    · have hlt : L + 8 ≤ 320 := by
        rw [show (320 : Int32) = nI 320 from rfl, nI_leI (by omega) (by decide)] at c17
        exact c17
      refine g_iconst C (pc := 22) 0 dX10_append_22 (by decide) ?_
      refine g_istore_n C (pc := 23) dX10_append_23 (by decide) (fun v23 => [(3, .int v23), (0, .ref 15), (1, .long x)]) (fun _ => rfl) (fun v23 ev23 => ?_)
      have L24 : ∀ (k9 : Nat) (j : Nat) (wz3 : Int32) (J : Mem) (hw3 : wz3 = nI j) (hj : j ≤ 8) (hB : ∀ i, i < j → J 16 (L + i) = (nI (byt x i)).toInt8.toInt32) (hK : ∀ i, i < L → J 16 i = I 16 i) (hF : ∀ i, i ≠ 16 → J i = I i), 8 - j < k9 → G κ n ρ 24 [(3, .int wz3), (0, .ref 15), (1, .long x)] [] J := by
        intro k9
        induction k9 with
        | zero => intro j wz3 J hw3 hj hB hK hF hm24; exact absurd hm24 (Nat.not_lt_zero _)
        | succ k9 ih24 =>
          intro j wz3 J hw3 hj hB hK hF hm24
          subst hw3
          have hLJ : J 15 2 = nI L := by rw [hF 15 (by decide)]; exact hL
          refine g_iload_n C (pc := 24) dX10_append_24 0 rfl ?_
          refine g_bipush C (pc := 25) 8 dX10_append_25 (by decide) ?_
          refine g_icmp_ge C (pc := 27) 58 dX10_append_27 (by decide) (fun c27 => ?_) (fun c27 => ?_)
          · replace c27 := (nI_leI (a := 8) (b := j) (by decide) (by omega)).mp c27
            refine g_aload_n C (pc := 58) dX10_append_58 1 rfl ?_
            refine g_dup C (pc := 59) dX10_append_59 rfl ?_
            refine g_getI C (pc := 60) fl_RX10_22 (by decide) (by first | assumption | rfl | omega) (by first | assumption | rfl | omega) dX10_append_60 ?_
            refine g_bipush C (pc := 63) 8 dX10_append_63 (by decide) ?_
            refine g_iadd C (pc := 65) dX10_append_65 ?_
            refine g_putI C (pc := 66) fl_RX10_22 (by decide) fp_9_2 (Or.inl rfl) ⟨rfl, rfl⟩ (by first | assumption | rfl | omega) (by first | assumption | rfl | omega) hn9 dX10_append_66 ?_
            refine g_iconst C (pc := 69) 1 dX10_append_69 (by decide) ?_
            refine g_zret C hR (pc := 70) rfl rfl dX10_append_70 ?_
            refine ⟨rfl, _, rfl, ?_⟩
            have hj8 : j = 8 := by omega
            subst hj8
            refine Or.inl ⟨hlt, rfl, ?_, fun i hi => ?_, fun i hi => ?_, fun z hz => ?_, fun i h1 h2 => ?_⟩
            · rw [wr_ss, hLJ]; exact nI_add _ _
            · rw [wr_n (by decide)]; exact hB i hi
            · rw [wr_n (by decide)]; exact hK i hi
            · rw [wr_sn hz, hF 15 (by decide)]
            · rw [wr_n h1]; exact hF i h2
          · replace c27 := (nI_ltI (a := j) (b := 8) (by omega) (by decide)).mp c27
            have hix : (J 15 2 + nI j).toNatClampNeg = L + j := by rw [hLJ, nI_add]; exact nI_clamp (by omega)
            have hin : vp_in (J 15 2 + nI j) 320 := by rw [hLJ, nI_add]; exact vp_in_nI (by omega) (by decide)
            refine g_aload_n C (pc := 30) dX10_append_30 1 rfl ?_
            refine g_getR C (pc := 31) fl_RX10_9 (by decide) (by first | assumption | rfl | omega) (by first | assumption | rfl | omega) (by first | assumption | rfl | omega) dX10_append_31 ?_
            refine g_aload_n C (pc := 34) dX10_append_34 1 rfl ?_
            refine g_getI C (pc := 35) fl_RX10_22 (by decide) (by first | assumption | rfl | omega) (by first | assumption | rfl | omega) dX10_append_35 ?_
            refine g_iload_n C (pc := 38) dX10_append_38 0 rfl ?_
            refine g_iadd C (pc := 39) dX10_append_39 ?_
            refine g_lload_n C (pc := 40) dX10_append_40 2 rfl ?_
            refine g_bipush C (pc := 41) 56 dX10_append_41 (by decide) ?_
            refine g_bipush C (pc := 43) 8 dX10_append_43 (by decide) ?_
            refine g_iload_n C (pc := 45) dX10_append_45 0 rfl ?_
            refine g_imul C (pc := 46) dX10_append_46 ?_
            refine g_isub C (pc := 47) dX10_append_47 ?_
            refine g_lushr C (pc := 48) dX10_append_48 ?_
            refine g_l2i C (pc := 49) dX10_append_49 ?_
            refine g_i2b C (pc := 50) dX10_append_50 ?_
            refine g_bast C (pc := 51) (by first | assumption | rfl | omega) (by first | assumption | rfl | omega) hn9 hin dX10_append_51 ?_
            refine g_iinc C (pc := 52) (1) dX10_append_52 0 rfl (by decide) (by decide) (fun v52 => [(3, .int v52), (0, .ref 15), (1, .long x)]) (fun _ => rfl) (fun v52 ev52 => ?_)
            refine g_goto C (pc := 55) 24 dX10_append_55 (by decide) ?_
            refine g_lv C [0, 1, 2] rfl (ih24 (j + 1) _ _ ?_ ?_ ?_ ?_ ?_ (by omega))
            · subst_vars; exact nI_1 _
            · omega
            · intro i hi
              rw [hix]
              rcases Nat.lt_or_ge i j with h1 | h1
              · rw [wr_sn (by omega)]; exact hB i h1
              · have : i = j := by omega
                subst this
                rw [wr_ss]; exact byt_c (by omega)
            · intro i hi; rw [hix, wr_sn (by omega)]; exact hK i hi
            · intro i h1; rw [wr_n h1]; exact hF i h1
      refine g_lv C [0, 1, 2] rfl (L24 (_ + 1) 0 _ _ ?_ ?_ ?_ ?_ ?_ (by first | omega | exact Nat.lt_succ_self _))
      · subst_vars; rfl
      · omega
      · intro i hi; omega
      · intro i _; rfl
      · intro i _; rfl
    · have hge : 320 < L + 8 := by
        rw [show (320 : Int32) = nI 320 from rfl, nI_ltI (by decide) (by omega)] at c17
        exact c17
      refine g_iconst C (pc := 20) 0 dX10_append_20 (by decide) ?_
      refine g_zret C hR (pc := 21) rfl rfl dX10_append_21 ?_
      refine ⟨rfl, _, rfl, ?_⟩
      exact Or.inr ⟨hge, rfl, rfl⟩
set_option maxHeartbeats 400000 in
theorem c_X11_feed (n : Nat) (ρ : Rho) (I : Mem) (L : Nat) (x : Int64) (hn9 : n ≤ 999) (hxs : XS n ρ) (hL : I 15 2 = nI L) (hL3 : L ≤ 320) : MI yX11_feed cX11_feed 3 (some .int) 1 [.ref 0, .long x] n ρ I (fun v I1 => (L + 8 ≤ 320 ∧ v = nI (L + 8) ∧ I1 15 2 = nI (L + 8) ∧ (∀ i, i < 8 → I1 16 (L + i) = (nI (byt x i)).toInt8.toInt32) ∧ (∀ i, i < L → I1 16 i = I 16 i) ∧ (∀ z, z ≠ 2 → I1 15 z = I 15 z) ∧ ∀ i, i ≠ 15 → i ≠ 16 → I1 i = I i) ∨ (320 < L + 8 ∧ v = -3 ∧ I = I1)) := by
  refine MG.of (by decide +kernel) (Nat.le_of_ble_eq_true rfl) hn9 ?_
  intro κ C hR
  show G κ n ρ 0 [(0, .ref 0), (1, .long x)] [] I
  obtain ⟨hxc, ⟨xb1, xb2, xb3, xb4, xb5, xb6, xb8⟩, ⟨xi0, xi1, xga, xgb⟩, ⟨xt0, xt1, xgd⟩, hch, ⟨xr0, xr1, xr2⟩, xa0, ⟨xw0, xw1⟩, xst⟩ := id hxs
  obtain ⟨xc0, xcn, xc1, hga, xc7, hss⟩ := id hxc
  have xcz : 0 < n := by omega
  obtain ⟨ga0, ga1, ga2, ga3, ga4, ga5, ga6, ga7, ga8, gan, hrf, hst⟩ := id hga
  have hrf0 := hrf.1
  have hst0 := hst.1
  have hsp := hch.sp
  obtain ⟨hp0, hpn, hp1, hp2, hp3, hp4⟩ := id hsp
  refine g_aload_n C (pc := 0) dX11_feed_0 0 rfl ?_
  refine g_getR C (pc := 1) fl_RX11_27 (by decide) (by first | assumption | rfl | omega) (by first | assumption | rfl | omega) (by first | assumption | rfl | omega) dX11_feed_1 ?_
  refine g_lload_n C (pc := 4) dX11_feed_4 1 rfl ?_
  refine g_callVI C (pc := 5) mf_X10_append lk_RX11_73 (c_X10_append n ρ I L x hn9 hxs hL hL3) (by decide) (Nat.le_refl _) rfl (by first | assumption | rfl | omega) rfl (by first | assumption | rfl | omega) (Nat.le_of_ble_eq_true rfl) dX11_feed_5 (fun v5 I5 h5 => ?_)
  obtain h5 := h5
  refine g_if_eq C (pc := 8) 21 dX11_feed_8 (by decide) (fun c8 => ?_) (fun c8 => ?_)
  · have hq : 320 < L + 8 ∧ I = I5 := by
      rcases h5 with ⟨-, h2, -⟩ | ⟨h1, -, h3⟩
      · rw [h2] at c8; exact absurd c8 (by decide)
      · exact ⟨h1, h3⟩
    refine g_bipush C (pc := 21) (-3) dX11_feed_21 (by decide) ?_
    refine g_iret C hR (pc := 23) rfl dX11_feed_23 ?_
    refine ⟨rfl, _, rfl, ?_⟩
    first | exact Or.inl ⟨hq.1, hq.2.2.1, hq.2.2⟩ | exact Or.inr ⟨hq.1, rfl, hq.2⟩
  · have hq := h5.resolve_right (fun h9 => c8 h9.2.1)
    refine g_aload_n C (pc := 11) dX11_feed_11 0 rfl ?_
    refine g_getR C (pc := 12) fl_RX11_27 (by decide) (by first | assumption | rfl | omega) (by first | assumption | rfl | omega) (by first | assumption | rfl | omega) dX11_feed_12 ?_
    refine g_getI C (pc := 15) fl_RX11_77 (by decide) (by first | assumption | rfl | omega) (by first | assumption | rfl | omega) dX11_feed_15 ?_
    refine g_goto C (pc := 18) 23 dX11_feed_18 (by decide) ?_
    refine g_iret C hR (pc := 23) rfl dX11_feed_23 ?_
    refine ⟨rfl, _, rfl, ?_⟩
    first | exact Or.inl ⟨hq.1, hq.2.2.1, hq.2.2⟩ | exact Or.inr ⟨hq.1, rfl, hq.2⟩
set_option maxHeartbeats 400000 in
theorem c_X11_playSheet (n : Nat) (ρ : Rho) (I : Mem) (F : RT) (b : BT) (ln : Nat → Option Nat) (sz : Nat → Nat) (cl : Nat → Nat → Int32) (k m f0 t : Nat) (x z u : Int32) (hn9 : n ≤ 999) (hxs : XS n ρ) (hrr : RR I (1 + 1) F) (hrw : RW F) (hbr : BR I (1 + 5) F b) (hbw : BW F b) (hsh : ShR I 61 ln sz cl) (hT : I 1 5 = nI t) (ht9 : t ≤ 999) (hk : k < 4) (hxk : x = nI k) (hm : m ≤ 13) (hum : u = nI m) (hf : 0 < m → z = nI f0 ∧ f0 + 2 * m ≤ sz k ∧ ∃ l, ln k = some l) : MI yX11_playSheet cX11_playSheet 8 (some .int) 6 [.ref 0, .int x, .int z, .int u] n ρ I (fun v I1 => ((∃ bb tt, rdS F (fun i => cl k (f0 + 2 * i)) (fun i => cl k (f0 + 2 * i + 1)) m 0 b t = (none, bb, tt) ∧ v = -4 ∧ BR I1 (1 + 5) F bb ∧ I1 1 5 = nI tt) ∨ (∃ i bb tt, rdS F (fun i => cl k (f0 + 2 * i)) (fun i => cl k (f0 + 2 * i + 1)) m 0 b t = (some i, bb, tt) ∧ i < m ∧ v = nI i ∧ BR I1 (1 + 5) F b ∧ I1 1 5 = nI t)) ∧ (∀ i, i ≠ 1 → i ≠ 52 → ¬ (6 ≤ i ∧ i ≤ 9) → ¬ (69 ≤ i ∧ i ≤ 72) → I1 i = I i) ∧ ∀ z, z ≠ 5 → I1 1 z = I 1 z) := by
  refine MG.of (by decide +kernel) (Nat.le_of_ble_eq_true rfl) hn9 ?_
  intro κ C hR
  show G κ n ρ 0 [(0, .ref 0), (1, .int x), (2, .int z), (3, .int u)] [] I
  obtain ⟨hxc, ⟨xb1, xb2, xb3, xb4, xb5, xb6, xb8⟩, ⟨xi0, xi1, xga, xgb⟩, ⟨xt0, xt1, xgd⟩, hch, ⟨xr0, xr1, xr2⟩, xa0, ⟨xw0, xw1⟩, xst⟩ := id hxs
  obtain ⟨xc0, xcn, xc1, hga, xc7, hss⟩ := id hxc
  have xcz : 0 < n := by omega
  obtain ⟨ga0, ga1, ga2, ga3, ga4, ga5, ga6, ga7, ga8, gan, hrf, hst⟩ := id hga
  have hrf0 := hrf.1
  have hst0 := hst.1
  have hsp := hch.sp
  obtain ⟨hp0, hpn, hp1, hp2, hp3, hp4⟩ := id hsp
  have hnp : rN F ≤ 6 := hrw.2.2.2.2.1
  have hN := hrr.2.2.1
  refine g_aload_n C (pc := 0) dX11_playSheet_0 0 rfl ?_
  refine g_getR C (pc := 1) fl_RX11_10 (by decide) (by first | assumption | rfl | omega) (by first | assumption | rfl | omega) (by first | assumption | rfl | omega) dX11_playSheet_1 ?_
  refine g_getI C (pc := 4) fl_RX11_128 (by decide) (by first | assumption | rfl | omega) (by first | assumption | rfl | omega) dX11_playSheet_4 ?_
  refine g_istore C (pc := 7) dX11_playSheet_7 (by decide) (fun v7 => [(4, .int v7), (0, .ref 0), (1, .int x), (2, .int z), (3, .int u)]) (fun _ => rfl) (fun v7 ev7 => ?_)
  refine g_aload_n C (pc := 9) dX11_playSheet_9 1 rfl ?_
  refine g_getR C (pc := 10) fl_RX11_63 (by decide) (by first | assumption | rfl | omega) (by first | assumption | rfl | omega) (by first | assumption | rfl | omega) dX11_playSheet_10 ?_
  refine g_aload_n C (pc := 13) dX11_playSheet_13 1 rfl ?_
  refine g_getR C (pc := 14) fl_RX11_10 (by decide) (by first | assumption | rfl | omega) (by first | assumption | rfl | omega) (by first | assumption | rfl | omega) dX11_playSheet_14 ?_
  refine g_getR C (pc := 17) fl_RX11_122 (by decide) (by first | assumption | rfl | omega) (by first | assumption | rfl | omega) (by first | assumption | rfl | omega) dX11_playSheet_17 ?_
  refine g_callVV C (pc := 20) mf_X8_copyFrom lk_RX11_211 (c_X8_copyFrom n ρ I 69 (1 + 5) hn9 xst hst (fun i k h1 h2 => by omega)) (by decide) (Nat.le_refl _) rfl (by first | assumption | rfl | omega) rfl (by first | assumption | rfl | omega) (Nat.le_of_ble_eq_true rfl) dX11_playSheet_20 (fun I20 h20 => ?_)
  obtain ⟨a20, b20, d20, f20, g20⟩ := h20
  refine g_iconst C (pc := 23) 0 dX11_playSheet_23 (by decide) ?_
  refine g_istore C (pc := 24) dX11_playSheet_24 (by decide) (fun v24 => [(5, .int v24), (4, .int v7), (0, .ref 0), (1, .int x), (2, .int z), (3, .int u)]) (fun _ => rfl) (fun v24 ev24 => ?_)
  have L26 : ∀ (k9 : Nat) (i0 : Nat) (bi : BT) (ti : Nat) (wz5 : Int32) (wz4 : Int32) (J : Mem) (hw5 : wz5 = nI i0) (hw4 : wz4 = nI t) (hi : i0 ≤ m) (hS : rdS F (fun i => cl k (f0 + 2 * i)) (fun i => cl k (f0 + 2 * i + 1)) m 0 b t = rdS F (fun i => cl k (f0 + 2 * i)) (fun i => cl k (f0 + 2 * i + 1)) (m - i0) i0 bi ti) (hB : BR J (1 + 5) F bi) (hW : BW F bi) (hT9 : J 1 5 = nI ti) (hti : ti ≤ 999) (hbef : BR J 69 F b) (hJ : ∀ i, i ≠ 1 → i ≠ 52 → ¬ (6 ≤ i ∧ i ≤ 9) → ¬ (69 ≤ i ∧ i ≤ 72) → J i = I i) (hJ1 : ∀ z, z ≠ 5 → J 1 z = I 1 z), m - i0 < k9 → G κ n ρ 26 [(5, .int wz5), (4, .int wz4), (0, .ref 0), (1, .int x), (2, .int z), (3, .int u)] [] J := by
    intro k9
    induction k9 with
    | zero => intro i0 bi ti wz5 wz4 J hw5 hw4 hi hS hB hW hT9 hti hbef hJ hJ1 hm26; exact absurd hm26 (Nat.not_lt_zero _)
    | succ k9 ih26 =>
      intro i0 bi ti wz5 wz4 J hw5 hw4 hi hS hB hW hT9 hti hbef hJ hJ1 hm26
      subst hw5
      have hrrJ : RR J (1 + 1) F := hrr.cong (fun i hi => hJ _ (by omega) (by omega) (by omega) (by omega))
      have hshJ : ShR J 61 ln sz cl := hsh.cong (fun i h1 h2 => hJ i (by omega) (by omega) (by omega) (by omega))
      refine g_iload C (pc := 26) dX11_playSheet_26 0 rfl ?_
      refine g_iload_n C (pc := 28) dX11_playSheet_28 5 rfl ?_
      refine g_icmp_ge C (pc := 29) 123 dX11_playSheet_29 (by decide) (fun c29 => ?_) (fun c29 => ?_)
      · rw [hum, nI_leI (by omega) (by omega)] at c29
        refine g_bipush C (pc := 123) (-4) dX11_playSheet_123 (by decide) ?_
        refine g_iret C hR (pc := 125) rfl dX11_playSheet_125 ?_
        refine ⟨rfl, _, rfl, ?_⟩
        have him : i0 = m := by omega
        subst him
        rw [Nat.sub_self, rdS] at hS
        exact ⟨Or.inl ⟨bi, ti, hS, rfl, hB, hT9⟩, hJ, hJ1⟩
      · rw [hum, nI_ltI (by omega) (by omega)] at c29
        obtain ⟨hf1, hf2, l, hl⟩ := hf (by omega)
        have hs40 := (hsh k hk).2.2.1
        refine g_iload_n C (pc := 32) dX11_playSheet_32 4 rfl ?_
        refine g_iconst C (pc := 33) 2 dX11_playSheet_33 (by decide) ?_
        refine g_iload C (pc := 34) dX11_playSheet_34 0 rfl ?_
        refine g_imul C (pc := 36) dX11_playSheet_36 ?_
        refine g_iadd C (pc := 37) dX11_playSheet_37 ?_
        refine g_istore C (pc := 38) dX11_playSheet_38 (by decide) (fun v38 => [(6, .int v38), (5, .int (nI i0)), (4, .int wz4), (0, .ref 0), (1, .int x), (2, .int z), (3, .int u)]) (fun _ => rfl) (fun v38 ev38 => ?_)
        have hv38 : v38 = nI (f0 + 2 * i0) := by rw [ev38, hf1, show (2 : Int32) = nI 2 from rfl, pk_mul, nI_add]
        refine g_aload_n C (pc := 40) dX11_playSheet_40 3 rfl ?_
        refine g_aload_n C (pc := 41) dX11_playSheet_41 3 rfl ?_
        refine g_getR C (pc := 42) fl_RX11_56 (by decide) (by first | assumption | rfl | omega) (by first | assumption | rfl | omega) (by first | assumption | rfl | omega) dX11_playSheet_42 ?_
        refine g_iload_n C (pc := 45) dX11_playSheet_45 4 rfl ?_
        refine g_iload C (pc := 46) dX11_playSheet_46 0 rfl ?_
        refine g_callVI C (pc := 48) mf_X7_cellAt lk_RX11_346 (c_X7_cellAt n ρ J 61 x v38 hn9 hss) (by decide) (Nat.le_refl _) rfl (by first | assumption | rfl | omega) rfl (by first | assumption | rfl | omega) (Nat.le_of_ble_eq_true rfl) dX11_playSheet_48 (fun v48 I48 h48 => ?_)
        obtain ⟨e48, rfl⟩ := h48
        rw [cell_at hshJ hk (show f0 + 2 * i0 < sz k by omega) hl hxk hv38] at e48
        refine g_aload_n C (pc := 51) dX11_playSheet_51 3 rfl ?_
        refine g_getR C (pc := 52) fl_RX11_56 (by decide) (by first | assumption | rfl | omega) (by first | assumption | rfl | omega) (by first | assumption | rfl | omega) dX11_playSheet_52 ?_
        refine g_iload_n C (pc := 55) dX11_playSheet_55 4 rfl ?_
        refine g_iload C (pc := 56) dX11_playSheet_56 0 rfl ?_
        refine g_iconst C (pc := 58) 1 dX11_playSheet_58 (by decide) ?_
        refine g_iadd C (pc := 59) dX11_playSheet_59 ?_
        refine g_callVI C (pc := 60) mf_X7_cellAt lk_RX11_346 (c_X7_cellAt n ρ J 61 x _ hn9 hss) (by decide) (Nat.le_refl _) rfl (by first | assumption | rfl | omega) rfl (by first | assumption | rfl | omega) (Nat.le_of_ble_eq_true rfl) dX11_playSheet_60 (fun v60 I60 h60 => ?_)
        obtain ⟨e60, rfl⟩ := h60
        rw [cell_at hshJ hk (show f0 + 2 * i0 + 1 < sz k by omega) hl hxk (by rw [hv38, nI_1])] at e60
        refine g_callVI C (pc := 63) mf_X11_playNow lk_RX11_198 (c_X11_playNow n ρ J F bi ti _ _ hn9 hxs hrrJ hrw hB hW hT9 hti) (by decide) (Nat.le_refl _) rfl (by first | assumption | rfl | omega) rfl (by first | assumption | rfl | omega) (Nat.le_of_ble_eq_true rfl) dX11_playSheet_63 (fun v63 I63 h63 => ?_)
        obtain h63 := h63
        replace h63 := goP_of hnp h63
        rw [e48, e60] at h63
        refine g_istore C (pc := 66) dX11_playSheet_66 (by decide) (fun v66 => [(7, .int v66), (6, .int v38), (5, .int (nI i0)), (4, .int wz4), (0, .ref 0), (1, .int x), (2, .int z), (3, .int u)]) (fun _ => rfl) (fun v66 ev66 => ?_)
        refine g_iload C (pc := 68) dX11_playSheet_68 0 rfl ?_
        refine g_iconst C (pc := 70) (-1) dX11_playSheet_70 (by decide) ?_
        refine g_icmp_eq C (pc := 71) 91 dX11_playSheet_71 (by decide) (fun c71 => ?_) (fun c71 => ?_)
        · have hbad : goF F bi ti (cl k (f0 + 2 * i0)) (cl k (f0 + 2 * i0 + 1)) = none ∧ ∀ i, i ≠ 52 → I63 i = J i := by
            rcases h63 with ⟨h1, -, h3⟩ | ⟨b9, t9, -, h2, -⟩
            · exact ⟨h1, h3⟩
            · exact absurd (by rw [← ev66]; first | exact Or.inl c71 | exact Or.inr (Or.inl c78) | exact Or.inr (Or.inr c85)) h2
          obtain ⟨hgn, g63⟩ := hbad
          refine g_aload_n C (pc := 91) dX11_playSheet_91 4 rfl ?_
          refine g_getR C (pc := 92) fl_RX11_10 (by decide) (by first | assumption | rfl | omega) (by first | assumption | rfl | omega) (by first | assumption | rfl | omega) dX11_playSheet_92 ?_
          refine g_getR C (pc := 95) fl_RX11_122 (by decide) (by first | assumption | rfl | omega) (by first | assumption | rfl | omega) (by first | assumption | rfl | omega) dX11_playSheet_95 ?_
          refine g_aload_n C (pc := 98) dX11_playSheet_98 4 rfl ?_
          refine g_getR C (pc := 99) fl_RX11_63 (by decide) (by first | assumption | rfl | omega) (by first | assumption | rfl | omega) (by first | assumption | rfl | omega) dX11_playSheet_99 ?_
          refine g_callVV C (pc := 102) mf_X8_copyFrom lk_RX11_211 (c_X8_copyFrom n ρ I63 (1 + 5) 69 hn9 hst xst (fun i k h1 h2 => by omega)) (by decide) (Nat.le_refl _) rfl (by first | assumption | rfl | omega) rfl (by first | assumption | rfl | omega) (Nat.le_of_ble_eq_true rfl) dX11_playSheet_102 (fun I102 h102 => ?_)
          obtain ⟨a102, b102, d102, f102, g102⟩ := h102
          refine g_aload_n C (pc := 105) dX11_playSheet_105 4 rfl ?_
          refine g_getR C (pc := 106) fl_RX11_10 (by decide) (by first | assumption | rfl | omega) (by first | assumption | rfl | omega) (by first | assumption | rfl | omega) dX11_playSheet_106 ?_
          refine g_iload C (pc := 109) dX11_playSheet_109 3 rfl ?_
          refine g_putI C (pc := 111) fl_RX11_128 (by decide) fp_2_5 (Or.inl rfl) ⟨rfl, rfl⟩ (by first | assumption | rfl | omega) (by first | assumption | rfl | omega) hn9 dX11_playSheet_111 ?_
          refine g_iload C (pc := 114) dX11_playSheet_114 2 rfl ?_
          refine g_iret C hR (pc := 116) rfl dX11_playSheet_116 ?_
          refine ⟨rfl, _, rfl, ?_⟩
          have hrd : rdS F (fun i => cl k (f0 + 2 * i)) (fun i => cl k (f0 + 2 * i + 1)) m 0 b t = (some i0, bi, ti) := by rw [hS, show m - i0 = (m - (i0 + 1)) + 1 by omega, rdS, hgn]
          refine ⟨Or.inr ⟨i0, bi, ti, hrd, c29, rfl, ?_, ?_⟩, fun i h1 h2 h3 h4 => ?_, fun z hz => ?_⟩
          · have hb9 : BR I63 69 F b := hbef.cong (fun i hi => g63 _ (by omega))
            exact (hb9.copy hrw a102 b102 d102 f102).cong (fun i hi => wr_n (by omega))
          · rw [wr_ss]; exact hw4
          · rw [wr_n h1, g102 i (by omega) (by omega) (by omega) (by omega), g63 i h2]; exact hJ i h1 h2 h3 h4
          · rw [wr_sn hz, g102 1 (by decide) (by decide) (by decide) (by decide), g63 1 (by decide)]; exact hJ1 z hz
        · refine g_iload C (pc := 74) dX11_playSheet_74 0 rfl ?_
          refine g_bipush C (pc := 76) (-2) dX11_playSheet_76 (by decide) ?_
          refine g_icmp_eq C (pc := 78) 91 dX11_playSheet_78 (by decide) (fun c78 => ?_) (fun c78 => ?_)
          · have hbad : goF F bi ti (cl k (f0 + 2 * i0)) (cl k (f0 + 2 * i0 + 1)) = none ∧ ∀ i, i ≠ 52 → I63 i = J i := by
              rcases h63 with ⟨h1, -, h3⟩ | ⟨b9, t9, -, h2, -⟩
              · exact ⟨h1, h3⟩
              · exact absurd (by rw [← ev66]; first | exact Or.inl c71 | exact Or.inr (Or.inl c78) | exact Or.inr (Or.inr c85)) h2
            obtain ⟨hgn, g63⟩ := hbad
            refine g_aload_n C (pc := 91) dX11_playSheet_91 4 rfl ?_
            refine g_getR C (pc := 92) fl_RX11_10 (by decide) (by first | assumption | rfl | omega) (by first | assumption | rfl | omega) (by first | assumption | rfl | omega) dX11_playSheet_92 ?_
            refine g_getR C (pc := 95) fl_RX11_122 (by decide) (by first | assumption | rfl | omega) (by first | assumption | rfl | omega) (by first | assumption | rfl | omega) dX11_playSheet_95 ?_
            refine g_aload_n C (pc := 98) dX11_playSheet_98 4 rfl ?_
            refine g_getR C (pc := 99) fl_RX11_63 (by decide) (by first | assumption | rfl | omega) (by first | assumption | rfl | omega) (by first | assumption | rfl | omega) dX11_playSheet_99 ?_
            refine g_callVV C (pc := 102) mf_X8_copyFrom lk_RX11_211 (c_X8_copyFrom n ρ I63 (1 + 5) 69 hn9 hst xst (fun i k h1 h2 => by omega)) (by decide) (Nat.le_refl _) rfl (by first | assumption | rfl | omega) rfl (by first | assumption | rfl | omega) (Nat.le_of_ble_eq_true rfl) dX11_playSheet_102 (fun I102 h102 => ?_)
            obtain ⟨a102, b102, d102, f102, g102⟩ := h102
            refine g_aload_n C (pc := 105) dX11_playSheet_105 4 rfl ?_
            refine g_getR C (pc := 106) fl_RX11_10 (by decide) (by first | assumption | rfl | omega) (by first | assumption | rfl | omega) (by first | assumption | rfl | omega) dX11_playSheet_106 ?_
            refine g_iload C (pc := 109) dX11_playSheet_109 3 rfl ?_
            refine g_putI C (pc := 111) fl_RX11_128 (by decide) fp_2_5 (Or.inl rfl) ⟨rfl, rfl⟩ (by first | assumption | rfl | omega) (by first | assumption | rfl | omega) hn9 dX11_playSheet_111 ?_
            refine g_iload C (pc := 114) dX11_playSheet_114 2 rfl ?_
            refine g_iret C hR (pc := 116) rfl dX11_playSheet_116 ?_
            refine ⟨rfl, _, rfl, ?_⟩
            have hrd : rdS F (fun i => cl k (f0 + 2 * i)) (fun i => cl k (f0 + 2 * i + 1)) m 0 b t = (some i0, bi, ti) := by rw [hS, show m - i0 = (m - (i0 + 1)) + 1 by omega, rdS, hgn]
            refine ⟨Or.inr ⟨i0, bi, ti, hrd, c29, rfl, ?_, ?_⟩, fun i h1 h2 h3 h4 => ?_, fun z hz => ?_⟩
            · have hb9 : BR I63 69 F b := hbef.cong (fun i hi => g63 _ (by omega))
              exact (hb9.copy hrw a102 b102 d102 f102).cong (fun i hi => wr_n (by omega))
            · rw [wr_ss]; exact hw4
            · rw [wr_n h1, g102 i (by omega) (by omega) (by omega) (by omega), g63 i h2]; exact hJ i h1 h2 h3 h4
            · rw [wr_sn hz, g102 1 (by decide) (by decide) (by decide) (by decide), g63 1 (by decide)]; exact hJ1 z hz
          · refine g_iload C (pc := 81) dX11_playSheet_81 0 rfl ?_
            refine g_bipush C (pc := 83) (-3) dX11_playSheet_83 (by decide) ?_
            refine g_icmp_eq C (pc := 85) 91 dX11_playSheet_85 (by decide) (fun c85 => ?_) (fun c85 => ?_)
            · have hbad : goF F bi ti (cl k (f0 + 2 * i0)) (cl k (f0 + 2 * i0 + 1)) = none ∧ ∀ i, i ≠ 52 → I63 i = J i := by
                rcases h63 with ⟨h1, -, h3⟩ | ⟨b9, t9, -, h2, -⟩
                · exact ⟨h1, h3⟩
                · exact absurd (by rw [← ev66]; first | exact Or.inl c71 | exact Or.inr (Or.inl c78) | exact Or.inr (Or.inr c85)) h2
              obtain ⟨hgn, g63⟩ := hbad
              refine g_aload_n C (pc := 91) dX11_playSheet_91 4 rfl ?_
              refine g_getR C (pc := 92) fl_RX11_10 (by decide) (by first | assumption | rfl | omega) (by first | assumption | rfl | omega) (by first | assumption | rfl | omega) dX11_playSheet_92 ?_
              refine g_getR C (pc := 95) fl_RX11_122 (by decide) (by first | assumption | rfl | omega) (by first | assumption | rfl | omega) (by first | assumption | rfl | omega) dX11_playSheet_95 ?_
              refine g_aload_n C (pc := 98) dX11_playSheet_98 4 rfl ?_
              refine g_getR C (pc := 99) fl_RX11_63 (by decide) (by first | assumption | rfl | omega) (by first | assumption | rfl | omega) (by first | assumption | rfl | omega) dX11_playSheet_99 ?_
              refine g_callVV C (pc := 102) mf_X8_copyFrom lk_RX11_211 (c_X8_copyFrom n ρ I63 (1 + 5) 69 hn9 hst xst (fun i k h1 h2 => by omega)) (by decide) (Nat.le_refl _) rfl (by first | assumption | rfl | omega) rfl (by first | assumption | rfl | omega) (Nat.le_of_ble_eq_true rfl) dX11_playSheet_102 (fun I102 h102 => ?_)
              obtain ⟨a102, b102, d102, f102, g102⟩ := h102
              refine g_aload_n C (pc := 105) dX11_playSheet_105 4 rfl ?_
              refine g_getR C (pc := 106) fl_RX11_10 (by decide) (by first | assumption | rfl | omega) (by first | assumption | rfl | omega) (by first | assumption | rfl | omega) dX11_playSheet_106 ?_
              refine g_iload C (pc := 109) dX11_playSheet_109 3 rfl ?_
              refine g_putI C (pc := 111) fl_RX11_128 (by decide) fp_2_5 (Or.inl rfl) ⟨rfl, rfl⟩ (by first | assumption | rfl | omega) (by first | assumption | rfl | omega) hn9 dX11_playSheet_111 ?_
              refine g_iload C (pc := 114) dX11_playSheet_114 2 rfl ?_
              refine g_iret C hR (pc := 116) rfl dX11_playSheet_116 ?_
              refine ⟨rfl, _, rfl, ?_⟩
              have hrd : rdS F (fun i => cl k (f0 + 2 * i)) (fun i => cl k (f0 + 2 * i + 1)) m 0 b t = (some i0, bi, ti) := by rw [hS, show m - i0 = (m - (i0 + 1)) + 1 by omega, rdS, hgn]
              refine ⟨Or.inr ⟨i0, bi, ti, hrd, c29, rfl, ?_, ?_⟩, fun i h1 h2 h3 h4 => ?_, fun z hz => ?_⟩
              · have hb9 : BR I63 69 F b := hbef.cong (fun i hi => g63 _ (by omega))
                exact (hb9.copy hrw a102 b102 d102 f102).cong (fun i hi => wr_n (by omega))
              · rw [wr_ss]; exact hw4
              · rw [wr_n h1, g102 i (by omega) (by omega) (by omega) (by omega), g63 i h2]; exact hJ i h1 h2 h3 h4
              · rw [wr_sn hz, g102 1 (by decide) (by decide) (by decide) (by decide), g63 1 (by decide)]; exact hJ1 z hz
            · obtain ⟨b9, t9, hgo, -, q3, q4, q5, q6⟩ : ∃ b9 t9, goF F bi ti (cl k (f0 + 2 * i0)) (cl k (f0 + 2 * i0 + 1)) = some (b9, t9) ∧ True ∧ BR I63 (1 + 5) F b9 ∧ I63 1 5 = nI t9 ∧ (∀ z, z ≠ 5 → I63 1 z = J 1 z) ∧ ∀ i, i ≠ 1 → i ≠ 52 → i ≠ 6 → i ≠ 7 → i ≠ 8 → i ≠ 9 → I63 i = J i := by
                rcases h63 with ⟨-, h2, -⟩ | ⟨b9, t9, h1, -, h3⟩
                · exfalso
                  rw [← ev66] at h2
                  rcases h2 with h2 | h2 | h2
                  · exact c71 h2
                  · exact c78 h2
                  · exact c85 h2
                · exact ⟨b9, t9, h1, trivial, h3⟩
              refine g_goto C (pc := 88) 117 dX11_playSheet_88 (by decide) ?_
              refine g_iinc C (pc := 117) (1) dX11_playSheet_117 2 rfl (by decide) (by decide) (fun v117 => [(5, .int v117), (7, .int v66), (6, .int v38), (4, .int wz4), (0, .ref 0), (1, .int x), (2, .int z), (3, .int u)]) (fun _ => rfl) (fun v117 ev117 => ?_)
              refine g_goto C (pc := 120) 26 dX11_playSheet_120 (by decide) ?_
              refine g_lv C [0, 3, 4, 5, 6, 7] rfl (ih26 (i0 + 1) b9 t9 _ _ _ ?_ ?_ ?_ ?_ ?_ ?_ ?_ ?_ ?_ ?_ ?_ (by omega))
              · subst_vars; exact nI_1 _
              · exact hw4
              · omega
              · rw [hS, show m - i0 = (m - (i0 + 1)) + 1 by omega, rdS, hgo]
              · exact q3
              · exact (goF_W hW hgo).1
              · exact q4
              · exact (goF_W hW hgo).2
              · exact hbef.cong (fun i hi => q6 _ (by omega) (by omega) (by omega) (by omega) (by omega) (by omega))
              · intro i h1 h2 h3 h4; rw [q6 i h1 h2 (by omega) (by omega) (by omega) (by omega)]; exact hJ i h1 h2 h3 h4
              · intro z hz; rw [q5 z hz]; exact hJ1 z hz
  refine g_lv C [0, 1, 2, 3, 4, 5] rfl (L26 (_ + 1) 0 b t _ _ _ ?_ ?_ ?_ ?_ ?_ ?_ ?_ ?_ ?_ ?_ ?_ (by first | omega | exact Nat.lt_succ_self _))
  · subst_vars; rfl
  · subst ev7; exact hT
  · omega
  · rfl
  · exact hbr.cong (fun i hi => g20 _ (by omega) (by omega) (by omega) (by omega))
  · exact hbw
  · rw [g20 1 (by decide) (by decide) (by decide) (by decide)]; exact hT
  · exact ht9
  · exact hbr.copy hrw a20 b20 d20 f20
  · intro i h1 h2 h3 h4; exact g20 i (by omega) (by omega) (by omega) (by omega)
  · intro z _; rw [g20 1 (by decide) (by decide) (by decide) (by decide)]
