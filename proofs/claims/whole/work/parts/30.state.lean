/-- the fixed references of the class's own objects -/
def XS (n : Nat) (ρ : Rho) : Prop := XcS n ρ ∧ (ρ 0 1 = some 13 ∧ ρ 0 2 = some 14 ∧ ρ 0 3 = some 15 ∧ ρ 0 4 = some 47 ∧ ρ 0 5 = some 53 ∧ ρ 0 6 = some 58 ∧ ρ 0 8 = some 69) ∧ (ρ 13 0 = some 73 ∧ ρ 13 1 = some 85 ∧ GaS n ρ 73 ∧ GaS n ρ 85) ∧ (ρ 15 0 = some 16 ∧ ρ 15 1 = some 17 ∧ GaS n ρ 17) ∧ Ch n ρ 3 47 ∧ (ρ 53 0 = some 54 ∧ ρ 53 1 = some 55 ∧ ρ 53 2 = some 57) ∧ ρ 55 0 = some 56 ∧ (ρ 58 0 = some 59 ∧ ρ 58 1 = some 60) ∧ St n ρ 69
theorem SsS.rw {n r i k : Nat} {ρ ρ' : Rho} {v : Option Nat} (h : SsS n ρ r) (e : ρ' = rwr ρ i k v) (h0 : r ≠ i) (h3 : r + 3 ≠ i) : SsS n ρ' r := by
  obtain ⟨a1, a2, a3, a4, a5, a6, a7, a8, a9⟩ := h
  exact ⟨a1, by rw [rwr_o e h0]; exact a2, by rw [rwr_o e h0]; exact a3, by rw [rwr_o e h0]; exact a4, a5, a6, a7, fun k hk => ⟨(a8 k hk).1, by rw [rwr_o e h3]; exact (a8 k hk).2⟩, a9⟩
/-- the references that change with the calls: what the rows begin at, what is to be reached -/
def vRef (i k : Nat) : Prop := (i = 53 ∧ k = 3) ∨ i = 54
theorem XS.rw {n i k : Nat} {ρ ρ' : Rho} {v : Option Nat} (h : XS n ρ) (e : ρ' = rwr ρ i k v) (hi : vRef i k) : XS n ρ' := by
  obtain ⟨⟨a1, a2, a3, a4, a5, a6⟩, ⟨b1, b2, b3, b4, b5, b6, b7⟩, ⟨c1, c2, c3, c4⟩, ⟨d1, d2, d3⟩, e1, ⟨f1, f2, f3⟩, g1, ⟨k1, k2⟩, l1⟩ := h
  have hi2 : i = 53 ∨ i = 54 := by rcases hi with h | h <;> omega
  have o : ∀ a b, a ≠ 53 → a ≠ 54 → ρ' a b = ρ a b := fun a b h1 h2 => rwr_o e (by omega) b
  have o3 : ∀ b, b ≠ 3 → ρ' 53 b = ρ 53 b := fun b hb => by
    rw [e]; exact rwr_n (fun q => by rcases hi with h | h <;> omega)
  refine ⟨⟨a1, a2, by rw [o 0 0 (by decide) (by decide)]; exact a3, a4.rw e (by omega) (by omega) (by omega), by rw [o 0 7 (by decide) (by decide)]; exact a5, a6.rw e (by omega) (by omega)⟩, ?_, ⟨by rw [o 13 0 (by decide) (by decide)]; exact c1, by rw [o 13 1 (by decide) (by decide)]; exact c2, c3.rw e (by omega) (by omega) (by omega), c4.rw e (by omega) (by omega) (by omega)⟩, ⟨by rw [o 15 0 (by decide) (by decide)]; exact d1, by rw [o 15 1 (by decide) (by decide)]; exact d2, d3.rw e (by omega) (by omega) (by omega)⟩, e1.rw e (by omega), ⟨by rw [o3 0 (by decide)]; exact f1, by rw [o3 1 (by decide)]; exact f2, by rw [o3 2 (by decide)]; exact f3⟩, by rw [o 55 0 (by decide) (by decide)]; exact g1, ⟨by rw [o 58 0 (by decide) (by decide)]; exact k1, by rw [o 58 1 (by decide) (by decide)]; exact k2⟩, l1.rw e (by omega)⟩
  rw [o 0 1 (by decide) (by decide), o 0 2 (by decide) (by decide), o 0 3 (by decide) (by decide), o 0 4 (by decide) (by decide), o 0 5 (by decide) (by decide), o 0 6 (by decide) (by decide), o 0 8 (by decide) (by decide)]
  exact ⟨b1, b2, b3, b4, b5, b6, b7⟩
theorem lN_div {a d : Nat} (ha : a < 2 ^ 31) (h0 : 0 < d) (hd : d < 2 ^ 31) : lN a / lN d = lN (a / d) := by
  apply Int64.toInt_inj.mp
  rw [lg_ldiv_nonneg (by rw [lN_toInt ha]; omega) (by rw [lN_toInt hd]; omega), lN_toInt ha, lN_toInt hd, lN_toInt (Nat.lt_of_le_of_lt (Nat.div_le_self a d) ha)]
  first | rfl | exact (Int.natCast_ediv _ _).symm
theorem lN_rem {a d : Nat} (ha : a < 2 ^ 31) (h0 : 0 < d) (hd : d < 2 ^ 31) : lN a - lN a / lN d * lN d = lN (a % d) := by
  rw [lN_div ha h0 hd, lN_mul, lN_sub (Nat.div_mul_le_self a d)]
  exact congrArg lN (by have := Nat.div_add_mod' a d; omega)
theorem lN_ne0 {d : Nat} (h0 : 0 < d) (hd : d < 2 ^ 31) : ¬ lN d = 0 := by
  intro h
  have : lN d = lN 0 := h
  have := (lN_eq hd (by decide)).mp this
  omega
/-- a fraction in lowest terms: its parts -/
def frN (top bot : Nat) (x : Int32) : Nat := if x = 0 then top / Nat.gcd top bot else bot / Nat.gcd top bot
theorem gcd_pot {m l : Nat} (h : l ≤ m) (hl : 0 < l) {z : Nat} (hz : m * l * z < 2 ^ 34) : l * (m % l) * (z * 2) < 2 ^ 34 := by
  have h1 : m % l < l := Nat.mod_lt m hl
  have h2 : l + m % l ≤ m := by
    have := Nat.mod_add_div m l
    have h3 : 1 ≤ m / l := (Nat.one_le_div_iff hl).mpr h
    have h4 : l * 1 ≤ l * (m / l) := Nat.mul_le_mul_left l h3
    omega
  have h5 : 2 * (l * (m % l)) ≤ m * l := by
    have h6 : (l + m % l) * l ≤ m * l := Nat.mul_le_mul_right l h2
    have h7 : l * (m % l) ≤ l * l := Nat.mul_le_mul_left l (Nat.le_of_lt h1)
    have h8 : (l + m % l) * l = l * l + l * (m % l) := by rw [Nat.add_mul, Nat.mul_comm (m % l) l]
    omega
  have h9 : 2 * (l * (m % l)) * z ≤ m * l * z := Nat.mul_le_mul_right z h5
  have h10 : l * (m % l) * (z * 2) = 2 * (l * (m % l)) * z := by
    rw [Nat.mul_comm z 2, ← Nat.mul_assoc, Nat.mul_comm (l * (m % l)) 2]
  omega
theorem gcd_step {m l : Nat} : Nat.gcd l (m % l) = Nat.gcd m l := by
  rw [Nat.gcd_comm l (m % l), Nat.gcd_comm m l]
  exact (Nat.gcd_rec l m).symm
theorem sq_of {F : RT} (h : RW F) {x : Int32} (hx : 0 ≤ x ∧ x < nI (rW F * rH F)) : ∃ q, q < rW F * rH F ∧ q < 25 ∧ x = nI q := by
  have hm : rW F * rH F ≤ 5 * 5 := Nat.mul_le_mul h.2.1 h.2.2.2.1
  rcases pk_ix x (n := rW F * rH F) (by omega) with h1 | h1 | ⟨j, h1, h2⟩
  · exact absurd h1 (Int32.not_lt.mpr hx.1)
  · exact absurd hx.2 (Int32.not_lt.mpr h1)
  · exact ⟨j, h1, by omega, h2⟩
theorem sq_in {F : RT} (h : RW F) {q : Nat} (hq : q < rW F * rH F) : 0 ≤ nI q ∧ nI q < nI (rW F * rH F) := by
  have hm : rW F * rH F ≤ 5 * 5 := Nat.mul_le_mul h.2.1 h.2.2.2.1
  exact ⟨nI_pos' (by omega), nI_lt hq (by omega)⟩
theorem pc_of {F : RT} (h : RW F) {x : Int32} (hx : 0 ≤ x ∧ x < nI (rN F)) : ∃ q, q < rN F ∧ x = nI q := by
  have hm := h.2.2.2.2.1
  rcases pk_ix x (n := rN F) (by omega) with h1 | h1 | h1
  · exact absurd h1 (Int32.not_lt.mpr hx.1)
  · exact absurd hx.2 (Int32.not_lt.mpr h1)
  · exact h1
theorem ix_of {x : Int32} {n : Nat} (hn : n < 2 ^ 31) (hx : 0 ≤ x ∧ x < nI n) : ∃ q, q < n ∧ x = nI q := by
  rcases pk_ix x (n := n) hn with h1 | h1 | h1
  · exact absurd h1 (Int32.not_lt.mpr hx.1)
  · exact absurd hx.2 (Int32.not_lt.mpr h1)
  · exact h1
set_option maxHeartbeats 400000 in
theorem c_X11_isOver (n : Nat) (ρ : Rho) (I : Mem) (F : RT) (b : BT) (hn9 : n ≤ 999) (hxs : XS n ρ) (hrr : RR I (1 + 1) F) (hrw : RW F) (hbr : BR I (1 + 5) F b) (hbw : BW F b) : MI yX11_isOver cX11_isOver 1 (some .boolean) 2 [.ref 0] n ρ I (fun v I1 => v = bI (¬ lostB F b = none) ∧ I = I1) := by
  refine MG.of (by decide +kernel) (Nat.le_of_ble_eq_true rfl) hn9 ?_
  intro κ C hR
  show G κ n ρ 0 [(0, .ref 0)] [] I
  obtain ⟨hxc, ⟨xb1, xb2, xb3, xb4, xb5, xb6, xb8⟩, ⟨xi0, xi1, xga, xgb⟩, ⟨xt0, xt1, xgd⟩, hch, ⟨xr0, xr1, xr2⟩, xa0, ⟨xw0, xw1⟩, xst⟩ := id hxs
  obtain ⟨xc0, xcn, xc1, hga, xc7, hss⟩ := id hxc
  have xcz : 0 < n := by omega
  obtain ⟨ga0, ga1, ga2, ga3, ga4, ga5, ga6, ga7, ga8, gan, hrf, hst⟩ := id hga
  have hrf0 := hrf.1
  have hst0 := hst.1
  have hsp := hch.sp
  obtain ⟨hp0, hpn, hp1, hp2, hp3, hp4⟩ := id hsp
  have hnp : rN F ≤ 6 := hrw.2.2.2.2.1
  have hN := hrr.2.2.1
  refine g_aload_n C (pc := 0) dX11_isOver_0 0 rfl ?_
  refine g_getR C (pc := 1) fl_RX11_10 (by decide) (by first | assumption | rfl | omega) (by first | assumption | rfl | omega) (by first | assumption | rfl | omega) dX11_isOver_1 ?_
  refine g_getR C (pc := 4) fl_RX11_122 (by decide) (by first | assumption | rfl | omega) (by first | assumption | rfl | omega) (by first | assumption | rfl | omega) dX11_isOver_4 ?_
  refine g_aload_n C (pc := 7) dX11_isOver_7 0 rfl ?_
  refine g_getR C (pc := 8) fl_RX11_10 (by decide) (by first | assumption | rfl | omega) (by first | assumption | rfl | omega) (by first | assumption | rfl | omega) dX11_isOver_8 ?_
  refine g_getR C (pc := 11) fl_RX11_104 (by decide) (by first | assumption | rfl | omega) (by first | assumption | rfl | omega) (by first | assumption | rfl | omega) dX11_isOver_11 ?_
  refine g_callVI C (pc := 14) mf_X8_lostSide lk_RX11_131 (c_X8_lostSide n ρ I (1 + 5) (1 + 1) (rN F) hn9 hst hrf hN hnp) (by decide) (Nat.le_refl _) rfl (by first | assumption | rfl | omega) rfl (by first | assumption | rfl | omega) (Nat.le_of_ble_eq_true rfl) dX11_isOver_14 (fun v14 I14 h14 => ?_)
  obtain ⟨e14, rfl⟩ := h14
  replace e14 := e14.trans (lostI hrr hrw hbr hbw)
  have hon := oI_none (a := lostB F b) (fun z hz => by have := lostB_lt hrw z hz; omega)
  refine g_bipush C (pc := 17) (-4) dX11_isOver_17 (by decide) ?_
  refine g_icmp_eq C (pc := 19) 26 dX11_isOver_19 (by decide) (fun c19 => ?_) (fun c19 => ?_)
  · have hz : lostB F b = none := hon.mp (e14.symm.trans c19)
    refine g_iconst C (pc := 26) 0 dX11_isOver_26 (by decide) ?_
    refine g_zret C hR (pc := 27) rfl rfl dX11_isOver_27 ?_
    refine ⟨rfl, _, rfl, ?_⟩
    first | exact ⟨(bI_t hz).symm, rfl⟩ | exact ⟨(bI_f (fun h9 => h9 hz)).symm, rfl⟩
  · have hz : ¬ lostB F b = none := fun h9 => c19 (e14.trans (hon.mpr h9))
    refine g_iconst C (pc := 22) 1 dX11_isOver_22 (by decide) ?_
    refine g_goto C (pc := 23) 27 dX11_isOver_23 (by decide) ?_
    refine g_zret C hR (pc := 27) rfl rfl dX11_isOver_27 ?_
    refine ⟨rfl, _, rfl, ?_⟩
    first | exact ⟨(bI_t hz).symm, rfl⟩ | exact ⟨(bI_f (fun h9 => h9 hz)).symm, rfl⟩
set_option maxHeartbeats 400000 in
theorem c_X11_listNow (n : Nat) (ρ : Rho) (I : Mem) (F : RT) (b : BT) (w : Nat) (x : Int32) (hn9 : n ≤ 999) (hxs : XS n ρ) (hrr : RR I (1 + 1) F) (hrw : RW F) (hbr : BR I (1 + 5) F b) (hbw : BW F b) (hwd : w < 5) (hx : x = nI w) : MI yX11_listNow cX11_listNow 2 (some .int) 4 [.ref 0, .int x] n ρ I (fun v I1 => v = nI (mvs F b w).length ∧ (∀ k m, (mvs F b w)[k]? = some m → I1 52 k = nI m) ∧ ∀ i, i ≠ 52 → I1 i = I i) := by
  refine MG.of (by decide +kernel) (Nat.le_of_ble_eq_true rfl) hn9 ?_
  intro κ C hR
  show G κ n ρ 0 [(0, .ref 0), (1, .int x)] [] I
  subst hx
  obtain ⟨hxc, ⟨xb1, xb2, xb3, xb4, xb5, xb6, xb8⟩, ⟨xi0, xi1, xga, xgb⟩, ⟨xt0, xt1, xgd⟩, hch, ⟨xr0, xr1, xr2⟩, xa0, ⟨xw0, xw1⟩, xst⟩ := id hxs
  obtain ⟨xc0, xcn, xc1, hga, xc7, hss⟩ := id hxc
  have xcz : 0 < n := by omega
  obtain ⟨ga0, ga1, ga2, ga3, ga4, ga5, ga6, ga7, ga8, gan, hrf, hst⟩ := id hga
  have hrf0 := hrf.1
  have hst0 := hst.1
  have hsp := hch.sp
  obtain ⟨hp0, hpn, hp1, hp2, hp3, hp4⟩ := id hsp
  have hnp : rN F ≤ 6 := hrw.2.2.2.2.1
  have hN := hrr.2.2.1
  refine g_aload_n C (pc := 0) dX11_listNow_0 0 rfl ?_
  refine g_getR C (pc := 1) fl_RX11_10 (by decide) (by first | assumption | rfl | omega) (by first | assumption | rfl | omega) (by first | assumption | rfl | omega) dX11_listNow_1 ?_
  refine g_getR C (pc := 4) fl_RX11_122 (by decide) (by first | assumption | rfl | omega) (by first | assumption | rfl | omega) (by first | assumption | rfl | omega) dX11_listNow_4 ?_
  refine g_aload_n C (pc := 7) dX11_listNow_7 0 rfl ?_
  refine g_getR C (pc := 8) fl_RX11_10 (by decide) (by first | assumption | rfl | omega) (by first | assumption | rfl | omega) (by first | assumption | rfl | omega) dX11_listNow_8 ?_
  refine g_getR C (pc := 11) fl_RX11_104 (by decide) (by first | assumption | rfl | omega) (by first | assumption | rfl | omega) (by first | assumption | rfl | omega) dX11_listNow_11 ?_
  refine g_iload_n C (pc := 14) dX11_listNow_14 1 rfl ?_
  refine g_aload_n C (pc := 15) dX11_listNow_15 0 rfl ?_
  refine g_getR C (pc := 16) fl_RX11_35 (by decide) (by first | assumption | rfl | omega) (by first | assumption | rfl | omega) (by first | assumption | rfl | omega) dX11_listNow_16 ?_
  refine g_getR C (pc := 19) fl_RX11_296 (by decide) (by first | assumption | rfl | omega) (by first | assumption | rfl | omega) (by first | assumption | rfl | omega) dX11_listNow_19 ?_
  refine g_callVI C (pc := 22) mf_X8_listMoves lk_RX11_300 (c_X8_listMoves n ρ I (1 + 5) (1 + 1) w 52 F b hn9 hst hrf hrr hrw hbr hbw hwd hp3 (by omega) (fun i hi => ⟨by omega, by omega⟩)) (by decide) (Nat.le_refl _) rfl (by first | assumption | rfl | omega) rfl (by first | assumption | rfl | omega) (Nat.le_of_ble_eq_true rfl) dX11_listNow_22 (fun v22 I22 h22 => ?_)
  obtain ⟨e22, f22, g22⟩ := h22
  refine g_iret C hR (pc := 25) rfl dX11_listNow_25 ?_
  refine ⟨rfl, _, rfl, ?_⟩
  exact ⟨e22, f22, g22⟩
set_option maxHeartbeats 400000 in
theorem c_X11_likelyNow (n : Nat) (ρ : Rho) (I : Mem) (F : RT) (b : BT) (w k : Nat) (x z : Int32) (hn9 : n ≤ 999) (hxs : XS n ρ) (hrr : RR I (1 + 1) F) (hrw : RW F) (hbr : BR I (1 + 5) F b) (hbw : BW F b) (hkw : KW F) (hno : lostP F b = none) (hwd : w < 5) (hk1 : 1 ≤ k) (hk3 : k ≤ 3) (hx : x = nI w) (hz : z = nI k) : ML yX11_likelyNow cX11_likelyNow 3 (some .long) 16 [.ref 0, .int x, .int z] n ρ I (fun v I1 => v = lN (valW F (bM b) (k - 1) b w) ∧ I1 47 4 = oI (chW F (bM b) (k - 1) b w) ∧ ∀ i, ¬ (29 ≤ i ∧ i ≤ 52) → I1 i = I i) := by
  refine MG.of (by decide +kernel) (Nat.le_of_ble_eq_true rfl) hn9 ?_
  intro κ C hR
  show G κ n ρ 0 [(0, .ref 0), (1, .int x), (2, .int z)] [] I
  subst hx hz
  obtain ⟨hxc, ⟨xb1, xb2, xb3, xb4, xb5, xb6, xb8⟩, ⟨xi0, xi1, xga, xgb⟩, ⟨xt0, xt1, xgd⟩, hch, ⟨xr0, xr1, xr2⟩, xa0, ⟨xw0, xw1⟩, xst⟩ := id hxs
  obtain ⟨xc0, xcn, xc1, hga, xc7, hss⟩ := id hxc
  have xcz : 0 < n := by omega
  obtain ⟨ga0, ga1, ga2, ga3, ga4, ga5, ga6, ga7, ga8, gan, hrf, hst⟩ := id hga
  have hrf0 := hrf.1
  have hst0 := hst.1
  have hsp := hch.sp
  obtain ⟨hp0, hpn, hp1, hp2, hp3, hp4⟩ := id hsp
  have hnp : rN F ≤ 6 := hrw.2.2.2.2.1
  have hN := hrr.2.2.1
  refine g_aload_n C (pc := 0) dX11_likelyNow_0 0 rfl ?_
  refine g_getR C (pc := 1) fl_RX11_35 (by decide) (by first | assumption | rfl | omega) (by first | assumption | rfl | omega) (by first | assumption | rfl | omega) dX11_likelyNow_1 ?_
  refine g_getR C (pc := 4) fl_RX11_210 (by decide) (by first | assumption | rfl | omega) (by first | assumption | rfl | omega) (by first | assumption | rfl | omega) dX11_likelyNow_4 ?_
  refine g_aload_n C (pc := 7) dX11_likelyNow_7 0 rfl ?_
  refine g_getR C (pc := 8) fl_RX11_10 (by decide) (by first | assumption | rfl | omega) (by first | assumption | rfl | omega) (by first | assumption | rfl | omega) dX11_likelyNow_8 ?_
  refine g_getR C (pc := 11) fl_RX11_122 (by decide) (by first | assumption | rfl | omega) (by first | assumption | rfl | omega) (by first | assumption | rfl | omega) dX11_likelyNow_11 ?_
  refine g_callVV C (pc := 14) mf_X8_copyFrom lk_RX11_211 (c_X8_copyFrom n ρ I (47 + 1) (1 + 5) hn9 hp4 hst (fun i k h1 h2 => by omega)) (by decide) (Nat.le_refl _) rfl (by first | assumption | rfl | omega) rfl (by first | assumption | rfl | omega) (Nat.le_of_ble_eq_true rfl) dX11_likelyNow_14 (fun I14 h14 => ?_)
  obtain ⟨a14, b14, d14, f14, g14⟩ := h14
  have hR14 : RR I14 (1 + 1) F := hrr.cong (fun i hi => g14 _ (by omega) (by omega) (by omega) (by omega))
  refine g_aload_n C (pc := 17) dX11_likelyNow_17 0 rfl ?_
  refine g_getR C (pc := 18) fl_RX11_10 (by decide) (by first | assumption | rfl | omega) (by first | assumption | rfl | omega) (by first | assumption | rfl | omega) dX11_likelyNow_18 ?_
  refine g_getR C (pc := 21) fl_RX11_104 (by decide) (by first | assumption | rfl | omega) (by first | assumption | rfl | omega) (by first | assumption | rfl | omega) dX11_likelyNow_21 ?_
  refine g_aload_n C (pc := 24) dX11_likelyNow_24 0 rfl ?_
  refine g_getR C (pc := 25) fl_RX11_10 (by decide) (by first | assumption | rfl | omega) (by first | assumption | rfl | omega) (by first | assumption | rfl | omega) dX11_likelyNow_25 ?_
  refine g_getR C (pc := 28) fl_RX11_122 (by decide) (by first | assumption | rfl | omega) (by first | assumption | rfl | omega) (by first | assumption | rfl | omega) dX11_likelyNow_28 ?_
  refine g_getI C (pc := 31) fl_RX11_125 (by decide) (by first | assumption | rfl | omega) (by first | assumption | rfl | omega) dX11_likelyNow_31 ?_
  refine g_aload_n C (pc := 34) dX11_likelyNow_34 0 rfl ?_
  refine g_getR C (pc := 35) fl_RX11_35 (by decide) (by first | assumption | rfl | omega) (by first | assumption | rfl | omega) (by first | assumption | rfl | omega) dX11_likelyNow_35 ?_
  refine g_iload_n C (pc := 38) dX11_likelyNow_38 1 rfl ?_
  refine g_iload_n C (pc := 39) dX11_likelyNow_39 2 rfl ?_
  refine g_callSL C (pc := 40) mf_X11_likelyBy lk_RX11_360 (likBy_all k n ρ I14 (1 + 1) 47 (bM b) w F b _ _ _ hn9 hrf (hch.of3 hk3) hR14 hrw hkw (hbr.copy hrw a14 b14 d14 f14) hbw hbw.1 hwd hno (by omega) hk1 hk3 (by rw [g14 _ (by decide) (by decide) (by decide) (by decide)]; exact hbr.1) rfl rfl) (by omega) (Nat.le_refl _) rfl (Nat.le_of_ble_eq_true rfl) dX11_likelyNow_40 (fun v40 I40 h40 => ?_)
  obtain ⟨e40, f40, g40⟩ := h40
  refine g_lret C hR (pc := 43) rfl dX11_likelyNow_43 ?_
  refine ⟨rfl, _, rfl, ?_⟩
  refine ⟨e40, f40, fun i hi => ?_⟩
  rw [g40 i (fun e9 => hi (by unfold Sc at e9; omega)), g14 i (by omega) (by omega) (by omega) (by omega)]
set_option maxHeartbeats 400000 in
theorem c_X11_greatestShared (n : Nat) (ρ : Rho) (I : Mem) (a b : Nat) (x z : Int64) (hn9 : n ≤ 999) (hx : x = lN a) (hz : z = lN b) (ha : a ≤ 91125) (hb : b ≤ 91125) (hb0 : 0 < b) : ML yX11_greatestShared cX11_greatestShared 11 (some .long) 0 [.long x, .long z] n ρ I (fun v I1 => v = lN (Nat.gcd a b) ∧ I = I1) := by
  refine MG.of (by decide +kernel) (Nat.le_of_ble_eq_true rfl) hn9 ?_
  intro κ C hR
  show G κ n ρ 0 [(0, .long x), (2, .long z)] [] I
  subst hx hz
  refine g_lload_n C (pc := 0) dX11_greatestShared_0 0 rfl ?_
  refine g_lstore C (pc := 1) dX11_greatestShared_1 (by decide) (fun v1 => [(4, .long v1), (0, .long (lN a)), (2, .long (lN b))]) (fun _ => rfl) (fun v1 ev1 => ?_)
  refine g_lload_n C (pc := 3) dX11_greatestShared_3 2 rfl ?_
  refine g_lstore C (pc := 4) dX11_greatestShared_4 (by decide) (fun v4 => [(6, .long v4), (4, .long v1), (0, .long (lN a)), (2, .long (lN b))]) (fun _ => rfl) (fun v4 ev4 => ?_)
  refine g_iconst C (pc := 6) 0 dX11_greatestShared_6 (by decide) ?_
  refine g_istore C (pc := 7) dX11_greatestShared_7 (by decide) (fun v7 => [(8, .int v7), (6, .long v4), (4, .long v1), (0, .long (lN a)), (2, .long (lN b))]) (fun _ => rfl) (fun v7 ev7 => ?_)
  have L9 : ∀ (k9 : Nat) (j m l : Nat) (wz8 : Int32) (wz6 : Int64) (wz4 : Int64) (hw8 : wz8 = nI j) (hw6 : wz6 = lN l) (hw4 : wz4 = lN m) (hj : j ≤ 200) (hg : Nat.gcd m l = Nat.gcd a b) (hm : m ≤ 91125) (hl : l ≤ 91125) (hj0 : j = 0 → 0 < l) (hm0 : j = 0 ∨ (0 < m ∧ l ≤ m ∧ m * l * 2 ^ (j - 1) < 2 ^ 34)), 200 - j < k9 → G κ n ρ 9 [(8, .int wz8), (6, .long wz6), (4, .long wz4)] [] I := by
    intro k9
    induction k9 with
    | zero => intro j m l wz8 wz6 wz4 hw8 hw6 hw4 hj hg hm hl hj0 hm0 hm9; exact absurd hm9 (Nat.not_lt_zero _)
    | succ k9 ih9 =>
      intro j m l wz8 wz6 wz4 hw8 hw6 hw4 hj hg hm hl hj0 hm0 hm9
      subst hw8 hw6 hw4
      refine g_iload C (pc := 9) dX11_greatestShared_9 0 rfl ?_
      refine g_sipush C (pc := 11) 200 dX11_greatestShared_11 (by decide) ?_
      refine g_icmp_ge C (pc := 14) 45 dX11_greatestShared_14 (by decide) (fun c14 => ?_) (fun c14 => ?_)
      · have hl0 : l = 0 := by
          replace c14 := (nI_leI (a := 200) (b := j) (by decide) (by omega)).mp c14
          have hj2 : j = 200 := by omega
          subst hj2
          rcases hm0 with h9 | ⟨h1, -, h3⟩
          · omega
          · rcases Nat.eq_zero_or_pos l with h8 | h8
            · exact h8
            · exfalso
              have h6 : 1 * 2 ^ (200 - 1) ≤ m * l * 2 ^ (200 - 1) := Nat.mul_le_mul_right _ (Nat.mul_pos h1 h8)
              have h7 : ¬ 1 * 2 ^ (200 - 1) < 2 ^ 34 := by decide
              exact h7 (Nat.lt_of_le_of_lt h6 h3)
        refine g_lload C (pc := 45) dX11_greatestShared_45 2 rfl ?_
        refine g_lret C hR (pc := 47) rfl dX11_greatestShared_47 ?_
        refine ⟨rfl, _, rfl, ?_⟩
        refine ⟨?_, rfl⟩
        rw [← hg, hl0, Nat.gcd_zero_right]
      · replace c14 := (nI_ltI (a := j) (b := 200) (by omega) (by decide)).mp c14
        refine g_lload C (pc := 17) dX11_greatestShared_17 1 rfl ?_
        refine g_lconst C (pc := 19) 0 dX11_greatestShared_19 (by decide) ?_
        refine g_lcmp C (pc := 20) dX11_greatestShared_20 ?_
        refine g_if_le C (pc := 21) 45 dX11_greatestShared_21 (by decide) (fun c21 => ?_) (fun c21 => ?_)
        · have hl0 : l = 0 := by
            rcases Nat.eq_zero_or_pos l with h9 | h9
            · exact h9
            · exact absurd ((cmp_gt (a := l) (b := 0) (by omega) (by decide)).mpr h9) (Int32.not_lt.mpr c21)
          refine g_lload C (pc := 45) dX11_greatestShared_45 2 rfl ?_
          refine g_lret C hR (pc := 47) rfl dX11_greatestShared_47 ?_
          refine ⟨rfl, _, rfl, ?_⟩
          refine ⟨?_, rfl⟩
          rw [← hg, hl0, Nat.gcd_zero_right]
        · have hlp : 0 < l := (cmp_gt (a := l) (b := 0) (by omega) (by decide)).mp c21
          refine g_lload C (pc := 24) dX11_greatestShared_24 2 rfl ?_
          refine g_lload C (pc := 26) dX11_greatestShared_26 1 rfl ?_
          refine g_lrem C (pc := 28) dX11_greatestShared_28 (lN_ne0 hlp (by omega)) ?_
          rw [lN_rem (by omega) hlp (by omega)]
          refine g_lstore C (pc := 29) dX11_greatestShared_29 (by decide) (fun v29 => [(9, .long v29), (8, .int (nI j)), (6, .long (lN l)), (4, .long (lN m))]) (fun _ => rfl) (fun v29 ev29 => ?_)
          refine g_lload C (pc := 31) dX11_greatestShared_31 2 rfl ?_
          refine g_lstore C (pc := 33) dX11_greatestShared_33 (by decide) (fun v33 => [(4, .long v33), (9, .long v29), (8, .int (nI j)), (6, .long (lN l))]) (fun _ => rfl) (fun v33 ev33 => ?_)
          refine g_lload C (pc := 35) dX11_greatestShared_35 1 rfl ?_
          refine g_lstore C (pc := 37) dX11_greatestShared_37 (by decide) (fun v37 => [(6, .long v37), (4, .long v33), (9, .long v29), (8, .int (nI j))]) (fun _ => rfl) (fun v37 ev37 => ?_)
          refine g_iinc C (pc := 39) (1) dX11_greatestShared_39 3 rfl (by decide) (by decide) (fun v39 => [(8, .int v39), (6, .long v37), (4, .long v33), (9, .long v29)]) (fun _ => rfl) (fun v39 ev39 => ?_)
          refine g_goto C (pc := 42) 9 dX11_greatestShared_42 (by decide) ?_
          refine g_lv C [0, 1, 2] rfl (ih9 (j + 1) l (m % l) _ _ _ ?_ ?_ ?_ ?_ ?_ ?_ ?_ ?_ ?_ (by omega))
          · subst_vars; exact nI_1 _
          · subst_vars; rfl
          · subst_vars; rfl
          · omega
          · exact gcd_step.trans hg
          · omega
          · have := Nat.mod_lt m hlp; omega
          · intro h9; omega
          · right
            refine ⟨hlp, Nat.le_of_lt (Nat.mod_lt m hlp), ?_⟩
            rcases hm0 with h9 | ⟨h1, h2, h3⟩
            · subst h9
              have h5 : m % l ≤ 91125 := Nat.le_trans (Nat.mod_le m l) hm
              have h6 : l * (m % l) ≤ 91125 * 91125 := Nat.mul_le_mul hl h5
              show l * (m % l) * 1 < 2 ^ 34
              omega
            · rcases Nat.eq_zero_or_pos j with h0 | h0
              · subst h0
                have h5 : m % l ≤ 91125 := Nat.le_trans (Nat.mod_le m l) hm
                have h6 : l * (m % l) ≤ 91125 * 91125 := Nat.mul_le_mul hl h5
                show l * (m % l) * 1 < 2 ^ 34
                omega
              · have := gcd_pot h2 hlp h3
                rw [show j + 1 - 1 = (j - 1) + 1 by omega, Nat.pow_succ]; exact this
  refine g_lv C [0, 1, 2] rfl (L9 (_ + 1) 0 a b _ _ _ ?_ ?_ ?_ ?_ ?_ ?_ ?_ ?_ ?_ (by first | omega | exact Nat.lt_succ_self _))
  · subst_vars; rfl
  · subst_vars; rfl
  · subst_vars; rfl
  · omega
  · rfl
  · exact ha
  · exact hb
  · intro _; exact hb0
  · exact Or.inl rfl
set_option maxHeartbeats 400000 in
theorem c_X11_part (n : Nat) (ρ : Rho) (I : Mem) (a b : Nat) (x z : Int64) (y9 : Int32) (hn9 : n ≤ 999) (hx : x = lN a) (hz : z = lN b) (ha : a ≤ 91125) (hb : b ≤ 91125) (hb0 : 0 < b) : ML yX11_part cX11_part 7 (some .long) 1 [.long x, .long z, .int y9] n ρ I (fun v I1 => v = lN (frN a b y9) ∧ I = I1) := by
  refine MG.of (by decide +kernel) (Nat.le_of_ble_eq_true rfl) hn9 ?_
  intro κ C hR
  show G κ n ρ 0 [(0, .long x), (2, .long z), (4, .int y9)] [] I
  subst hx hz
  have hgp : 0 < Nat.gcd a b := Nat.gcd_pos_of_pos_right a hb0
  have hgl : Nat.gcd a b ≤ b := Nat.gcd_le_right a hb0
  refine g_lload_n C (pc := 0) dX11_part_0 0 rfl ?_
  refine g_lload_n C (pc := 1) dX11_part_1 1 rfl ?_
  refine g_callSL C (pc := 2) mf_X11_greatestShared lk_RX11_367 (c_X11_greatestShared n ρ I a b _ _ hn9 rfl rfl ha hb hb0) (by decide) (Nat.le_refl _) rfl (Nat.le_of_ble_eq_true rfl) dX11_part_2 (fun v2 I2 h2 => ?_)
  obtain ⟨e2, rfl⟩ := h2
  refine g_lstore C (pc := 5) dX11_part_5 (by decide) (fun v5 => [(5, .long v5), (0, .long (lN a)), (2, .long (lN b)), (4, .int y9)]) (fun _ => rfl) (fun v5 ev5 => ?_)
  refine g_lload C (pc := 7) dX11_part_7 0 rfl ?_
  refine g_lconst C (pc := 9) 1 dX11_part_9 (by decide) ?_
  refine g_lcmp C (pc := 10) dX11_part_10 ?_
  refine g_if_ge C (pc := 11) 18 dX11_part_11 (by decide) (fun c11 => ?_) (fun c11 => ?_)
  · refine g_iload C (pc := 18) dX11_part_18 3 rfl ?_
    refine g_if_ne C (pc := 20) 30 dX11_part_20 (by decide) (fun c20 => ?_) (fun c20 => ?_)
    · refine g_lload_n C (pc := 30) dX11_part_30 2 rfl ?_
      refine g_lload C (pc := 31) dX11_part_31 0 rfl ?_
      refine g_ldiv C (pc := 33) dX11_part_33 (by rw [ev5, e2]; exact lN_ne0 hgp (by omega)) ?_
      refine g_lret C hR (pc := 34) rfl dX11_part_34 ?_
      refine ⟨rfl, _, rfl, ?_⟩
      refine ⟨?_, rfl⟩
      unfold frN
      first | (rw [if_pos c20, ev5, e2, lN_div (by omega) hgp (by omega)]; done) | (rw [if_neg c20, ev5, e2, lN_div (by omega) hgp (by omega)]; done)
    · refine g_lload_n C (pc := 23) dX11_part_23 1 rfl ?_
      refine g_lload C (pc := 24) dX11_part_24 0 rfl ?_
      refine g_ldiv C (pc := 26) dX11_part_26 (by rw [ev5, e2]; exact lN_ne0 hgp (by omega)) ?_
      refine g_goto C (pc := 27) 34 dX11_part_27 (by decide) ?_
      refine g_lret C hR (pc := 34) rfl dX11_part_34 ?_
      refine ⟨rfl, _, rfl, ?_⟩
      refine ⟨?_, rfl⟩
      unfold frN
      first | (rw [if_pos c20, ev5, e2, lN_div (by omega) hgp (by omega)]; done) | (rw [if_neg c20, ev5, e2, lN_div (by omega) hgp (by omega)]; done)
  · rw [ev5, e2] at c11; exact absurd c11 (Int32.not_lt.mpr ((cmp_ge (a := Nat.gcd a b) (b := 1) (by omega) (by decide)).mpr hgp))
set_option maxHeartbeats 400000 in
theorem c_X11_rule (n : Nat) (ρ : Rho) (I : Mem) (F : RT) (b : BT) (x : Int32) (hn9 : n ≤ 999) (hxs : XS n ρ) (hrr : RR I (1 + 1) F) (hrw : RW F) (hbr : BR I (1 + 5) F b) (hbw : BW F b) : MI yX11_rule cX11_rule 2 (some .int) 2 [.ref 0, .int x] n ρ I (fun v I1 => v = (if x = 0 then nI (rW F) else if x = 1 then nI (rH F) else if x = 2 then nI (rN F) else if x = 3 then I (1 + 1) 5 else if x = 4 then nI (bM b) else if x = 5 then I 1 5 else if x = 6 then oI (lostB F b) else -1) ∧ I = I1) := by
  refine MG.of (by decide +kernel) (Nat.le_of_ble_eq_true rfl) hn9 ?_
  intro κ C hR
  show G κ n ρ 0 [(0, .ref 0), (1, .int x)] [] I
  obtain ⟨hxc, ⟨xb1, xb2, xb3, xb4, xb5, xb6, xb8⟩, ⟨xi0, xi1, xga, xgb⟩, ⟨xt0, xt1, xgd⟩, hch, ⟨xr0, xr1, xr2⟩, xa0, ⟨xw0, xw1⟩, xst⟩ := id hxs
  obtain ⟨xc0, xcn, xc1, hga, xc7, hss⟩ := id hxc
  have xcz : 0 < n := by omega
  obtain ⟨ga0, ga1, ga2, ga3, ga4, ga5, ga6, ga7, ga8, gan, hrf, hst⟩ := id hga
  have hrf0 := hrf.1
  have hst0 := hst.1
  have hsp := hch.sp
  obtain ⟨hp0, hpn, hp1, hp2, hp3, hp4⟩ := id hsp
  have hnp : rN F ≤ 6 := hrw.2.2.2.2.1
  have hN := hrr.2.2.1
  refine g_iload_n C (pc := 0) dX11_rule_0 1 rfl ?_
  refine g_tsw C (pc := 1) dX11_rule_1 (by decide) (by decide) (by decide) (by decide) (swK_cons (fun c1_0 => ?_) (swK_cons (fun c1_1 => ?_) (swK_cons (fun c1_2 => ?_) (swK_cons (fun c1_3 => ?_) (swK_cons (fun c1_4 => ?_) (swK_cons (fun c1_5 => ?_) (swK_cons (fun c1_6 => ?_) swK_nil))))))) (fun c1_d => ?_)
  · show G κ n ρ 44 _ _ _
    replace c1_0 : x = 0 := c1_0
    refine g_aload_n C (pc := 44) dX11_rule_44 0 rfl ?_
    refine g_getR C (pc := 45) fl_RX11_10 (by decide) (by first | assumption | rfl | omega) (by first | assumption | rfl | omega) (by first | assumption | rfl | omega) dX11_rule_45 ?_
    refine g_getR C (pc := 48) fl_RX11_104 (by decide) (by first | assumption | rfl | omega) (by first | assumption | rfl | omega) (by first | assumption | rfl | omega) dX11_rule_48 ?_
    refine g_getI C (pc := 51) fl_RX11_108 (by decide) (by first | assumption | rfl | omega) (by first | assumption | rfl | omega) dX11_rule_51 ?_
    refine g_iret C hR (pc := 54) rfl dX11_rule_54 ?_
    refine ⟨rfl, _, rfl, ?_⟩
    refine ⟨?_, rfl⟩
    first | (subst c1_0; exact hrr.1) | (subst c1_1; exact hrr.2.1) | (subst c1_2; exact hrr.2.2.1) | (subst c1_3; rfl) | (subst c1_4; exact hbr.1) | (subst c1_5; rfl) | (subst c1_6; exact e121) | (rw [if_neg (show ¬ x = 0 from hnd 0 (by decide)), if_neg (show ¬ x = 1 from hnd 1 (by decide)), if_neg (show ¬ x = 2 from hnd 2 (by decide)), if_neg (show ¬ x = 3 from hnd 3 (by decide)), if_neg (show ¬ x = 4 from hnd 4 (by decide)), if_neg (show ¬ x = 5 from hnd 5 (by decide)), if_neg (show ¬ x = 6 from hnd 6 (by decide))])
  · show G κ n ρ 55 _ _ _
    replace c1_1 : x = 1 := c1_1
    refine g_aload_n C (pc := 55) dX11_rule_55 0 rfl ?_
    refine g_getR C (pc := 56) fl_RX11_10 (by decide) (by first | assumption | rfl | omega) (by first | assumption | rfl | omega) (by first | assumption | rfl | omega) dX11_rule_56 ?_
    refine g_getR C (pc := 59) fl_RX11_104 (by decide) (by first | assumption | rfl | omega) (by first | assumption | rfl | omega) (by first | assumption | rfl | omega) dX11_rule_59 ?_
    refine g_getI C (pc := 62) fl_RX11_113 (by decide) (by first | assumption | rfl | omega) (by first | assumption | rfl | omega) dX11_rule_62 ?_
    refine g_iret C hR (pc := 65) rfl dX11_rule_65 ?_
    refine ⟨rfl, _, rfl, ?_⟩
    refine ⟨?_, rfl⟩
    first | (subst c1_0; exact hrr.1) | (subst c1_1; exact hrr.2.1) | (subst c1_2; exact hrr.2.2.1) | (subst c1_3; rfl) | (subst c1_4; exact hbr.1) | (subst c1_5; rfl) | (subst c1_6; exact e121) | (rw [if_neg (show ¬ x = 0 from hnd 0 (by decide)), if_neg (show ¬ x = 1 from hnd 1 (by decide)), if_neg (show ¬ x = 2 from hnd 2 (by decide)), if_neg (show ¬ x = 3 from hnd 3 (by decide)), if_neg (show ¬ x = 4 from hnd 4 (by decide)), if_neg (show ¬ x = 5 from hnd 5 (by decide)), if_neg (show ¬ x = 6 from hnd 6 (by decide))])
  · show G κ n ρ 66 _ _ _
    replace c1_2 : x = 2 := c1_2
    refine g_aload_n C (pc := 66) dX11_rule_66 0 rfl ?_
    refine g_getR C (pc := 67) fl_RX11_10 (by decide) (by first | assumption | rfl | omega) (by first | assumption | rfl | omega) (by first | assumption | rfl | omega) dX11_rule_67 ?_
    refine g_getR C (pc := 70) fl_RX11_104 (by decide) (by first | assumption | rfl | omega) (by first | assumption | rfl | omega) (by first | assumption | rfl | omega) dX11_rule_70 ?_
    refine g_getI C (pc := 73) fl_RX11_116 (by decide) (by first | assumption | rfl | omega) (by first | assumption | rfl | omega) dX11_rule_73 ?_
    refine g_iret C hR (pc := 76) rfl dX11_rule_76 ?_
    refine ⟨rfl, _, rfl, ?_⟩
    refine ⟨?_, rfl⟩
    first | (subst c1_0; exact hrr.1) | (subst c1_1; exact hrr.2.1) | (subst c1_2; exact hrr.2.2.1) | (subst c1_3; rfl) | (subst c1_4; exact hbr.1) | (subst c1_5; rfl) | (subst c1_6; exact e121) | (rw [if_neg (show ¬ x = 0 from hnd 0 (by decide)), if_neg (show ¬ x = 1 from hnd 1 (by decide)), if_neg (show ¬ x = 2 from hnd 2 (by decide)), if_neg (show ¬ x = 3 from hnd 3 (by decide)), if_neg (show ¬ x = 4 from hnd 4 (by decide)), if_neg (show ¬ x = 5 from hnd 5 (by decide)), if_neg (show ¬ x = 6 from hnd 6 (by decide))])
  · show G κ n ρ 77 _ _ _
    replace c1_3 : x = 3 := c1_3
    refine g_aload_n C (pc := 77) dX11_rule_77 0 rfl ?_
    refine g_getR C (pc := 78) fl_RX11_10 (by decide) (by first | assumption | rfl | omega) (by first | assumption | rfl | omega) (by first | assumption | rfl | omega) dX11_rule_78 ?_
    refine g_getR C (pc := 81) fl_RX11_104 (by decide) (by first | assumption | rfl | omega) (by first | assumption | rfl | omega) (by first | assumption | rfl | omega) dX11_rule_81 ?_
    refine g_getI C (pc := 84) fl_RX11_119 (by decide) (by first | assumption | rfl | omega) (by first | assumption | rfl | omega) dX11_rule_84 ?_
    refine g_iret C hR (pc := 87) rfl dX11_rule_87 ?_
    refine ⟨rfl, _, rfl, ?_⟩
    refine ⟨?_, rfl⟩
    first | (subst c1_0; exact hrr.1) | (subst c1_1; exact hrr.2.1) | (subst c1_2; exact hrr.2.2.1) | (subst c1_3; rfl) | (subst c1_4; exact hbr.1) | (subst c1_5; rfl) | (subst c1_6; exact e121) | (rw [if_neg (show ¬ x = 0 from hnd 0 (by decide)), if_neg (show ¬ x = 1 from hnd 1 (by decide)), if_neg (show ¬ x = 2 from hnd 2 (by decide)), if_neg (show ¬ x = 3 from hnd 3 (by decide)), if_neg (show ¬ x = 4 from hnd 4 (by decide)), if_neg (show ¬ x = 5 from hnd 5 (by decide)), if_neg (show ¬ x = 6 from hnd 6 (by decide))])
  · show G κ n ρ 88 _ _ _
    replace c1_4 : x = 4 := c1_4
    refine g_aload_n C (pc := 88) dX11_rule_88 0 rfl ?_
    refine g_getR C (pc := 89) fl_RX11_10 (by decide) (by first | assumption | rfl | omega) (by first | assumption | rfl | omega) (by first | assumption | rfl | omega) dX11_rule_89 ?_
    refine g_getR C (pc := 92) fl_RX11_122 (by decide) (by first | assumption | rfl | omega) (by first | assumption | rfl | omega) (by first | assumption | rfl | omega) dX11_rule_92 ?_
    refine g_getI C (pc := 95) fl_RX11_125 (by decide) (by first | assumption | rfl | omega) (by first | assumption | rfl | omega) dX11_rule_95 ?_
    refine g_iret C hR (pc := 98) rfl dX11_rule_98 ?_
    refine ⟨rfl, _, rfl, ?_⟩
    refine ⟨?_, rfl⟩
    first | (subst c1_0; exact hrr.1) | (subst c1_1; exact hrr.2.1) | (subst c1_2; exact hrr.2.2.1) | (subst c1_3; rfl) | (subst c1_4; exact hbr.1) | (subst c1_5; rfl) | (subst c1_6; exact e121) | (rw [if_neg (show ¬ x = 0 from hnd 0 (by decide)), if_neg (show ¬ x = 1 from hnd 1 (by decide)), if_neg (show ¬ x = 2 from hnd 2 (by decide)), if_neg (show ¬ x = 3 from hnd 3 (by decide)), if_neg (show ¬ x = 4 from hnd 4 (by decide)), if_neg (show ¬ x = 5 from hnd 5 (by decide)), if_neg (show ¬ x = 6 from hnd 6 (by decide))])
  · show G κ n ρ 99 _ _ _
    replace c1_5 : x = 5 := c1_5
    refine g_aload_n C (pc := 99) dX11_rule_99 0 rfl ?_
    refine g_getR C (pc := 100) fl_RX11_10 (by decide) (by first | assumption | rfl | omega) (by first | assumption | rfl | omega) (by first | assumption | rfl | omega) dX11_rule_100 ?_
    refine g_getI C (pc := 103) fl_RX11_128 (by decide) (by first | assumption | rfl | omega) (by first | assumption | rfl | omega) dX11_rule_103 ?_
    refine g_iret C hR (pc := 106) rfl dX11_rule_106 ?_
    refine ⟨rfl, _, rfl, ?_⟩
    refine ⟨?_, rfl⟩
    first | (subst c1_0; exact hrr.1) | (subst c1_1; exact hrr.2.1) | (subst c1_2; exact hrr.2.2.1) | (subst c1_3; rfl) | (subst c1_4; exact hbr.1) | (subst c1_5; rfl) | (subst c1_6; exact e121) | (rw [if_neg (show ¬ x = 0 from hnd 0 (by decide)), if_neg (show ¬ x = 1 from hnd 1 (by decide)), if_neg (show ¬ x = 2 from hnd 2 (by decide)), if_neg (show ¬ x = 3 from hnd 3 (by decide)), if_neg (show ¬ x = 4 from hnd 4 (by decide)), if_neg (show ¬ x = 5 from hnd 5 (by decide)), if_neg (show ¬ x = 6 from hnd 6 (by decide))])
  · show G κ n ρ 107 _ _ _
    replace c1_6 : x = 6 := c1_6
    refine g_aload_n C (pc := 107) dX11_rule_107 0 rfl ?_
    refine g_getR C (pc := 108) fl_RX11_10 (by decide) (by first | assumption | rfl | omega) (by first | assumption | rfl | omega) (by first | assumption | rfl | omega) dX11_rule_108 ?_
    refine g_getR C (pc := 111) fl_RX11_122 (by decide) (by first | assumption | rfl | omega) (by first | assumption | rfl | omega) (by first | assumption | rfl | omega) dX11_rule_111 ?_
    refine g_aload_n C (pc := 114) dX11_rule_114 0 rfl ?_
    refine g_getR C (pc := 115) fl_RX11_10 (by decide) (by first | assumption | rfl | omega) (by first | assumption | rfl | omega) (by first | assumption | rfl | omega) dX11_rule_115 ?_
    refine g_getR C (pc := 118) fl_RX11_104 (by decide) (by first | assumption | rfl | omega) (by first | assumption | rfl | omega) (by first | assumption | rfl | omega) dX11_rule_118 ?_
    refine g_callVI C (pc := 121) mf_X8_lostSide lk_RX11_131 (c_X8_lostSide n ρ I (1 + 5) (1 + 1) (rN F) hn9 hst hrf hN hnp) (by decide) (Nat.le_refl _) rfl (by first | assumption | rfl | omega) rfl (by first | assumption | rfl | omega) (Nat.le_of_ble_eq_true rfl) dX11_rule_121 (fun v121 I121 h121 => ?_)
    obtain ⟨e121, rfl⟩ := h121
    replace e121 := e121.trans (lostI hrr hrw hbr hbw)
    refine g_iret C hR (pc := 124) rfl dX11_rule_124 ?_
    refine ⟨rfl, _, rfl, ?_⟩
    refine ⟨?_, rfl⟩
    first | (subst c1_0; exact hrr.1) | (subst c1_1; exact hrr.2.1) | (subst c1_2; exact hrr.2.2.1) | (subst c1_3; rfl) | (subst c1_4; exact hbr.1) | (subst c1_5; rfl) | (subst c1_6; exact e121) | (rw [if_neg (show ¬ x = 0 from hnd 0 (by decide)), if_neg (show ¬ x = 1 from hnd 1 (by decide)), if_neg (show ¬ x = 2 from hnd 2 (by decide)), if_neg (show ¬ x = 3 from hnd 3 (by decide)), if_neg (show ¬ x = 4 from hnd 4 (by decide)), if_neg (show ¬ x = 5 from hnd 5 (by decide)), if_neg (show ¬ x = 6 from hnd 6 (by decide))])
  · show G κ n ρ 125 _ _ _
    have hnd : ∀ q, q < 7 → x ≠ nI q := by
      intro q hq h9
      subst h9
      rcases c1_d with h8 | h8
      · exact absurd h8 (nI_pos (by omega))
      · have : ¬ nI 7 ≤ nI q := by rw [nI_leI (by decide) (by omega)]; omega
        exact this h8
    refine g_iconst C (pc := 125) (-1) dX11_rule_125 (by decide) ?_
    refine g_iret C hR (pc := 126) rfl dX11_rule_126 ?_
    refine ⟨rfl, _, rfl, ?_⟩
    refine ⟨?_, rfl⟩
    first | (subst c1_0; exact hrr.1) | (subst c1_1; exact hrr.2.1) | (subst c1_2; exact hrr.2.2.1) | (subst c1_3; rfl) | (subst c1_4; exact hbr.1) | (subst c1_5; rfl) | (subst c1_6; exact e121) | (rw [if_neg (show ¬ x = 0 from hnd 0 (by decide)), if_neg (show ¬ x = 1 from hnd 1 (by decide)), if_neg (show ¬ x = 2 from hnd 2 (by decide)), if_neg (show ¬ x = 3 from hnd 3 (by decide)), if_neg (show ¬ x = 4 from hnd 4 (by decide)), if_neg (show ¬ x = 5 from hnd 5 (by decide)), if_neg (show ¬ x = 6 from hnd 6 (by decide))])
set_option maxHeartbeats 400000 in
theorem c_X11_square (n : Nat) (ρ : Rho) (I : Mem) (F : RT) (b : BT) (x : Int32) (hn9 : n ≤ 999) (hxs : XS n ρ) (hrr : RR I (1 + 1) F) (hrw : RW F) (hbr : BR I (1 + 5) F b) (hbw : BW F b) : MI yX11_square cX11_square 2 (some .int) 2 [.ref 0, .int x] n ρ I (fun v I1 => v = (if 0 ≤ x ∧ x < nI (rW F * rH F) then oI (pon F b x.toNatClampNeg) else -1) ∧ I = I1) := by
  refine MG.of (by decide +kernel) (Nat.le_of_ble_eq_true rfl) hn9 ?_
  intro κ C hR
  show G κ n ρ 0 [(0, .ref 0), (1, .int x)] [] I
  obtain ⟨hxc, ⟨xb1, xb2, xb3, xb4, xb5, xb6, xb8⟩, ⟨xi0, xi1, xga, xgb⟩, ⟨xt0, xt1, xgd⟩, hch, ⟨xr0, xr1, xr2⟩, xa0, ⟨xw0, xw1⟩, xst⟩ := id hxs
  obtain ⟨xc0, xcn, xc1, hga, xc7, hss⟩ := id hxc
  have xcz : 0 < n := by omega
  obtain ⟨ga0, ga1, ga2, ga3, ga4, ga5, ga6, ga7, ga8, gan, hrf, hst⟩ := id hga
  have hrf0 := hrf.1
  have hst0 := hst.1
  have hsp := hch.sp
  obtain ⟨hp0, hpn, hp1, hp2, hp3, hp4⟩ := id hsp
  have hnp : rN F ≤ 6 := hrw.2.2.2.2.1
  have hN := hrr.2.2.1
  refine g_aload_n C (pc := 0) dX11_square_0 0 rfl ?_
  refine g_getR C (pc := 1) fl_RX11_10 (by decide) (by first | assumption | rfl | omega) (by first | assumption | rfl | omega) (by first | assumption | rfl | omega) dX11_square_1 ?_
  refine g_getR C (pc := 4) fl_RX11_104 (by decide) (by first | assumption | rfl | omega) (by first | assumption | rfl | omega) (by first | assumption | rfl | omega) dX11_square_4 ?_
  refine g_iload_n C (pc := 7) dX11_square_7 1 rfl ?_
  refine g_callVI C (pc := 8) mf_X5_isSquare lk_RX11_135 (c_X5_isSquare n ρ I (1 + 1) x hn9 hrf) (by decide) (Nat.le_refl _) rfl (by first | assumption | rfl | omega) rfl (by first | assumption | rfl | omega) (Nat.le_of_ble_eq_true rfl) dX11_square_8 (fun v8 I8 h8 => ?_)
  obtain ⟨e8, rfl⟩ := h8
  rw [hrr.1, hrr.2.1, pk_mul] at e8
  refine g_if_eq C (pc := 11) 35 dX11_square_11 (by decide) (fun c11 => ?_) (fun c11 => ?_)
  · have hx := bI_0.mp (e8.symm.trans c11)
    refine g_iconst C (pc := 35) (-1) dX11_square_35 (by decide) ?_
    refine g_iret C hR (pc := 36) rfl dX11_square_36 ?_
    refine ⟨rfl, _, rfl, ?_⟩
    refine ⟨?_, rfl⟩
    first | (rw [if_neg hx]; done) | (rw [if_pos hx, e29, pon_raw hbr hbw (by omega), nI_clamp (by omega)])
  · have hx : 0 ≤ x ∧ x < nI (rW F * rH F) := bI_1.mp (fun h => c11 (e8.trans h))
    obtain ⟨q, hq, hq25, rfl⟩ := sq_of hrw hx
    refine g_aload_n C (pc := 14) dX11_square_14 0 rfl ?_
    refine g_getR C (pc := 15) fl_RX11_10 (by decide) (by first | assumption | rfl | omega) (by first | assumption | rfl | omega) (by first | assumption | rfl | omega) dX11_square_15 ?_
    refine g_getR C (pc := 18) fl_RX11_122 (by decide) (by first | assumption | rfl | omega) (by first | assumption | rfl | omega) (by first | assumption | rfl | omega) dX11_square_18 ?_
    refine g_aload_n C (pc := 21) dX11_square_21 0 rfl ?_
    refine g_getR C (pc := 22) fl_RX11_10 (by decide) (by first | assumption | rfl | omega) (by first | assumption | rfl | omega) (by first | assumption | rfl | omega) dX11_square_22 ?_
    refine g_getR C (pc := 25) fl_RX11_104 (by decide) (by first | assumption | rfl | omega) (by first | assumption | rfl | omega) (by first | assumption | rfl | omega) dX11_square_25 ?_
    refine g_iload_n C (pc := 28) dX11_square_28 1 rfl ?_
    refine g_callVI C (pc := 29) mf_X8_pieceOn lk_RX11_139 (c_X8_pieceOn n ρ I (1 + 5) (1 + 1) (rN F) _ hn9 hst hrf hN hnp) (by decide) (Nat.le_refl _) rfl (by first | assumption | rfl | omega) rfl (by first | assumption | rfl | omega) (Nat.le_of_ble_eq_true rfl) dX11_square_29 (fun v29 I29 h29 => ?_)
    obtain ⟨e29, rfl⟩ := h29
    refine g_goto C (pc := 32) 36 dX11_square_32 (by decide) ?_
    refine g_iret C hR (pc := 36) rfl dX11_square_36 ?_
    refine ⟨rfl, _, rfl, ?_⟩
    refine ⟨?_, rfl⟩
    first | (rw [if_neg hx]; done) | (rw [if_pos hx, e29, pon_raw hbr hbw (by omega), nI_clamp (by omega)])
set_option maxHeartbeats 400000 in
theorem c_X11_piece (n : Nat) (ρ : Rho) (I : Mem) (F : RT) (b : BT) (x z : Int32) (hn9 : n ≤ 999) (hxs : XS n ρ) (hrr : RR I (1 + 1) F) (hrw : RW F) (hbr : BR I (1 + 5) F b) (hbw : BW F b) : MI yX11_piece cX11_piece 3 (some .int) 1 [.ref 0, .int x, .int z] n ρ I (fun v I1 => v = (if 0 ≤ x ∧ x < nI (rN F) then (if z = 0 then nI (rSd F x.toNatClampNeg) else if z = 1 then nI (rKd F x.toNatClampNeg) else if z = 2 then oI (bP b x.toNatClampNeg) else if z = 3 then nI (bO b x.toNatClampNeg) else -1) else -1) ∧ I = I1) := by
  refine MG.of (by decide +kernel) (Nat.le_of_ble_eq_true rfl) hn9 ?_
  intro κ C hR
  show G κ n ρ 0 [(0, .ref 0), (1, .int x), (2, .int z)] [] I
  obtain ⟨hxc, ⟨xb1, xb2, xb3, xb4, xb5, xb6, xb8⟩, ⟨xi0, xi1, xga, xgb⟩, ⟨xt0, xt1, xgd⟩, hch, ⟨xr0, xr1, xr2⟩, xa0, ⟨xw0, xw1⟩, xst⟩ := id hxs
  obtain ⟨xc0, xcn, xc1, hga, xc7, hss⟩ := id hxc
  have xcz : 0 < n := by omega
  obtain ⟨ga0, ga1, ga2, ga3, ga4, ga5, ga6, ga7, ga8, gan, hrf, hst⟩ := id hga
  have hrf0 := hrf.1
  have hst0 := hst.1
  have hsp := hch.sp
  obtain ⟨hp0, hpn, hp1, hp2, hp3, hp4⟩ := id hsp
  have hnp : rN F ≤ 6 := hrw.2.2.2.2.1
  have hN := hrr.2.2.1
  refine g_aload_n C (pc := 0) dX11_piece_0 0 rfl ?_
  refine g_getR C (pc := 1) fl_RX11_10 (by decide) (by first | assumption | rfl | omega) (by first | assumption | rfl | omega) (by first | assumption | rfl | omega) dX11_piece_1 ?_
  refine g_getR C (pc := 4) fl_RX11_104 (by decide) (by first | assumption | rfl | omega) (by first | assumption | rfl | omega) (by first | assumption | rfl | omega) dX11_piece_4 ?_
  refine g_iload_n C (pc := 7) dX11_piece_7 1 rfl ?_
  refine g_callVI C (pc := 8) mf_X5_isPiece lk_RX11_143 (c_X5_isPiece n ρ I (1 + 1) x hn9 hrf) (by decide) (Nat.le_refl _) rfl (by first | assumption | rfl | omega) rfl (by first | assumption | rfl | omega) (Nat.le_of_ble_eq_true rfl) dX11_piece_8 (fun v8 I8 h8 => ?_)
  obtain ⟨e8, rfl⟩ := h8
  rw [hN] at e8
  refine g_if_ne C (pc := 11) 16 dX11_piece_11 (by decide) (fun c11 => ?_) (fun c11 => ?_)
  · have hx : 0 ≤ x ∧ x < nI (rN F) := bI_1.mp (fun h => c11 (e8.trans h))
    obtain ⟨p, hp, rfl⟩ := pc_of hrw hx
    refine g_iload_n C (pc := 16) dX11_piece_16 2 rfl ?_
    refine g_tsw C (pc := 17) dX11_piece_17 (by decide) (by decide) (by decide) (by decide) (swK_cons (fun c17_0 => ?_) (swK_cons (fun c17_1 => ?_) (swK_cons (fun c17_2 => ?_) (swK_cons (fun c17_3 => ?_) swK_nil)))) (fun c17_d => ?_)
    · show G κ n ρ 48 _ _ _
      replace c17_0 : z = 0 := c17_0
      refine g_aload_n C (pc := 48) dX11_piece_48 0 rfl ?_
      refine g_getR C (pc := 49) fl_RX11_10 (by decide) (by first | assumption | rfl | omega) (by first | assumption | rfl | omega) (by first | assumption | rfl | omega) dX11_piece_49 ?_
      refine g_getR C (pc := 52) fl_RX11_104 (by decide) (by first | assumption | rfl | omega) (by first | assumption | rfl | omega) (by first | assumption | rfl | omega) dX11_piece_52 ?_
      refine g_iload_n C (pc := 55) dX11_piece_55 1 rfl ?_
      refine g_callVI C (pc := 56) mf_X5_sideOf lk_RX11_146 (c_X5_sideOf n ρ I (1 + 1) _ hn9 hrf) (by decide) (Nat.le_refl _) rfl (by first | assumption | rfl | omega) rfl (by first | assumption | rfl | omega) (Nat.le_of_ble_eq_true rfl) dX11_piece_56 (fun v56 I56 h56 => ?_)
      obtain ⟨e56, rfl⟩ := h56
      refine g_iret C hR (pc := 59) rfl dX11_piece_59 ?_
      refine ⟨rfl, _, rfl, ?_⟩
      refine ⟨?_, rfl⟩
      rw [if_pos hx, nI_clamp (by omega)]
      first | (subst c17_0; rw [e56, hN, at66 hnp hp]; exact (hrr.2.2.2.2.1 p hp).1) | (subst c17_1; rw [e68, hN, at66 hnp hp]; exact (hrr.2.2.2.2.1 p hp).2) | (subst c17_2; rw [e80, at6 (N := 6) 6 rfl (by decide) (by omega)]; exact (hbr.2.1 p hp).1) | (subst c17_3; rw [e92, at6 (N := 6) 6 rfl (by decide) (by omega)]; exact (hbr.2.1 p hp).2) | (rw [if_neg (show ¬ z = 0 from hnd 0 (by decide)), if_neg (show ¬ z = 1 from hnd 1 (by decide)), if_neg (show ¬ z = 2 from hnd 2 (by decide)), if_neg (show ¬ z = 3 from hnd 3 (by decide))])
    · show G κ n ρ 60 _ _ _
      replace c17_1 : z = 1 := c17_1
      refine g_aload_n C (pc := 60) dX11_piece_60 0 rfl ?_
      refine g_getR C (pc := 61) fl_RX11_10 (by decide) (by first | assumption | rfl | omega) (by first | assumption | rfl | omega) (by first | assumption | rfl | omega) dX11_piece_61 ?_
      refine g_getR C (pc := 64) fl_RX11_104 (by decide) (by first | assumption | rfl | omega) (by first | assumption | rfl | omega) (by first | assumption | rfl | omega) dX11_piece_64 ?_
      refine g_iload_n C (pc := 67) dX11_piece_67 1 rfl ?_
      refine g_callVI C (pc := 68) mf_X5_kindOf lk_RX11_150 (c_X5_kindOf n ρ I (1 + 1) _ hn9 hrf) (by decide) (Nat.le_refl _) rfl (by first | assumption | rfl | omega) rfl (by first | assumption | rfl | omega) (Nat.le_of_ble_eq_true rfl) dX11_piece_68 (fun v68 I68 h68 => ?_)
      obtain ⟨e68, rfl⟩ := h68
      refine g_iret C hR (pc := 71) rfl dX11_piece_71 ?_
      refine ⟨rfl, _, rfl, ?_⟩
      refine ⟨?_, rfl⟩
      rw [if_pos hx, nI_clamp (by omega)]
      first | (subst c17_0; rw [e56, hN, at66 hnp hp]; exact (hrr.2.2.2.2.1 p hp).1) | (subst c17_1; rw [e68, hN, at66 hnp hp]; exact (hrr.2.2.2.2.1 p hp).2) | (subst c17_2; rw [e80, at6 (N := 6) 6 rfl (by decide) (by omega)]; exact (hbr.2.1 p hp).1) | (subst c17_3; rw [e92, at6 (N := 6) 6 rfl (by decide) (by omega)]; exact (hbr.2.1 p hp).2) | (rw [if_neg (show ¬ z = 0 from hnd 0 (by decide)), if_neg (show ¬ z = 1 from hnd 1 (by decide)), if_neg (show ¬ z = 2 from hnd 2 (by decide)), if_neg (show ¬ z = 3 from hnd 3 (by decide))])
    · show G κ n ρ 72 _ _ _
      replace c17_2 : z = 2 := c17_2
      refine g_aload_n C (pc := 72) dX11_piece_72 0 rfl ?_
      refine g_getR C (pc := 73) fl_RX11_10 (by decide) (by first | assumption | rfl | omega) (by first | assumption | rfl | omega) (by first | assumption | rfl | omega) dX11_piece_73 ?_
      refine g_getR C (pc := 76) fl_RX11_122 (by decide) (by first | assumption | rfl | omega) (by first | assumption | rfl | omega) (by first | assumption | rfl | omega) dX11_piece_76 ?_
      refine g_iload_n C (pc := 79) dX11_piece_79 1 rfl ?_
      refine g_callVI C (pc := 80) mf_X8_placeOf lk_RX11_153 (c_X8_placeOf n ρ I (1 + 5) _ hn9 hst) (by decide) (Nat.le_refl _) rfl (by first | assumption | rfl | omega) rfl (by first | assumption | rfl | omega) (Nat.le_of_ble_eq_true rfl) dX11_piece_80 (fun v80 I80 h80 => ?_)
      obtain ⟨e80, rfl⟩ := h80
      refine g_iret C hR (pc := 83) rfl dX11_piece_83 ?_
      refine ⟨rfl, _, rfl, ?_⟩
      refine ⟨?_, rfl⟩
      rw [if_pos hx, nI_clamp (by omega)]
      first | (subst c17_0; rw [e56, hN, at66 hnp hp]; exact (hrr.2.2.2.2.1 p hp).1) | (subst c17_1; rw [e68, hN, at66 hnp hp]; exact (hrr.2.2.2.2.1 p hp).2) | (subst c17_2; rw [e80, at6 (N := 6) 6 rfl (by decide) (by omega)]; exact (hbr.2.1 p hp).1) | (subst c17_3; rw [e92, at6 (N := 6) 6 rfl (by decide) (by omega)]; exact (hbr.2.1 p hp).2) | (rw [if_neg (show ¬ z = 0 from hnd 0 (by decide)), if_neg (show ¬ z = 1 from hnd 1 (by decide)), if_neg (show ¬ z = 2 from hnd 2 (by decide)), if_neg (show ¬ z = 3 from hnd 3 (by decide))])
    · show G κ n ρ 84 _ _ _
      replace c17_3 : z = 3 := c17_3
      refine g_aload_n C (pc := 84) dX11_piece_84 0 rfl ?_
      refine g_getR C (pc := 85) fl_RX11_10 (by decide) (by first | assumption | rfl | omega) (by first | assumption | rfl | omega) (by first | assumption | rfl | omega) dX11_piece_85 ?_
      refine g_getR C (pc := 88) fl_RX11_122 (by decide) (by first | assumption | rfl | omega) (by first | assumption | rfl | omega) (by first | assumption | rfl | omega) dX11_piece_88 ?_
      refine g_iload_n C (pc := 91) dX11_piece_91 1 rfl ?_
      refine g_callVI C (pc := 92) mf_X8_oilOf lk_RX11_156 (c_X8_oilOf n ρ I (1 + 5) _ hn9 hst) (by decide) (Nat.le_refl _) rfl (by first | assumption | rfl | omega) rfl (by first | assumption | rfl | omega) (Nat.le_of_ble_eq_true rfl) dX11_piece_92 (fun v92 I92 h92 => ?_)
      obtain ⟨e92, rfl⟩ := h92
      refine g_iret C hR (pc := 95) rfl dX11_piece_95 ?_
      refine ⟨rfl, _, rfl, ?_⟩
      refine ⟨?_, rfl⟩
      rw [if_pos hx, nI_clamp (by omega)]
      first | (subst c17_0; rw [e56, hN, at66 hnp hp]; exact (hrr.2.2.2.2.1 p hp).1) | (subst c17_1; rw [e68, hN, at66 hnp hp]; exact (hrr.2.2.2.2.1 p hp).2) | (subst c17_2; rw [e80, at6 (N := 6) 6 rfl (by decide) (by omega)]; exact (hbr.2.1 p hp).1) | (subst c17_3; rw [e92, at6 (N := 6) 6 rfl (by decide) (by omega)]; exact (hbr.2.1 p hp).2) | (rw [if_neg (show ¬ z = 0 from hnd 0 (by decide)), if_neg (show ¬ z = 1 from hnd 1 (by decide)), if_neg (show ¬ z = 2 from hnd 2 (by decide)), if_neg (show ¬ z = 3 from hnd 3 (by decide))])
    · show G κ n ρ 96 _ _ _
      have hnd : ∀ q, q < 4 → z ≠ nI q := by
        intro q hq h9
        subst h9
        rcases c17_d with h8 | h8
        · exact absurd h8 (nI_pos (by omega))
        · have : ¬ nI 4 ≤ nI q := by rw [nI_leI (by decide) (by omega)]; omega
          exact this h8
      refine g_iconst C (pc := 96) (-1) dX11_piece_96 (by decide) ?_
      refine g_iret C hR (pc := 97) rfl dX11_piece_97 ?_
      refine ⟨rfl, _, rfl, ?_⟩
      refine ⟨?_, rfl⟩
      rw [if_pos hx, nI_clamp (by omega)]
      first | (subst c17_0; rw [e56, hN, at66 hnp hp]; exact (hrr.2.2.2.2.1 p hp).1) | (subst c17_1; rw [e68, hN, at66 hnp hp]; exact (hrr.2.2.2.2.1 p hp).2) | (subst c17_2; rw [e80, at6 (N := 6) 6 rfl (by decide) (by omega)]; exact (hbr.2.1 p hp).1) | (subst c17_3; rw [e92, at6 (N := 6) 6 rfl (by decide) (by omega)]; exact (hbr.2.1 p hp).2) | (rw [if_neg (show ¬ z = 0 from hnd 0 (by decide)), if_neg (show ¬ z = 1 from hnd 1 (by decide)), if_neg (show ¬ z = 2 from hnd 2 (by decide)), if_neg (show ¬ z = 3 from hnd 3 (by decide))])
  · have hx := bI_0.mp (e8.symm.trans c11)
    refine g_iconst C (pc := 14) (-1) dX11_piece_14 (by decide) ?_
    refine g_iret C hR (pc := 15) rfl dX11_piece_15 ?_
    refine ⟨rfl, _, rfl, ?_⟩
    refine ⟨?_, rfl⟩
    rw [if_neg hx]
