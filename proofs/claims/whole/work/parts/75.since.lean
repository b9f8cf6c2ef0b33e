/-- an image, as the reference's heap holds it -/
def ImM (I : Mem) (F : RT) (k : Nat) (b : BT) : Prop := (∀ p, p < rN F → I 98 (41 * (k + 1) + p) = oI (bP b p) ∧ I 98 (41 * (k + 1) + (6 + p)) = nI (bO b p)) ∧ I 98 (41 * (k + 1) + 18) = nI (bM b)
theorem fnd_b30 {F : RT} {g : BT → Bool} (hn : rN F ≤ 6) {k : Nat} (hk : k ≤ 3) (b : BT) : (fnd F g k b).length < 2 ^ 31 := by
  have h1 := fnd_cnt (F := F) (g := g) hn k b
  have h9 : 120 ^ k ≤ 120 ^ 3 := Nat.pow_le_pow_right (by decide) hk
  have h8 : (120 : Nat) ^ 3 = 1728000 := by decide
  omega
theorem wdL_dig {m c : Nat} : wdL (dig5 m c) 0 m = digL m c := by
  rw [wdL_eq]
  unfold digL
  apply List.map_congr_left
  intro q _
  rw [Nat.zero_add]
/-- the best of the rows so far, as the reference keeps it -/
def fwI : Option (Nat × Nat) → Int32
  | none => nI 1000000
  | some (f, _) => nI f
def fdI : Option (Nat × Nat) → Int32
  | none => -4
  | some (_, k) => nI k
def rwN (tn : Nat) : Nat := if tn = 0 then 0 else pw 5 tn
theorem rwN_le {tn : Nat} (h : tn ≤ 3) : rwN tn ≤ 125 := by
  have : ∀ tn, tn ≤ 3 → rwN tn ≤ 125 := by decide
  exact this tn h
theorem rwN_all {F : RT} {b : BT} {tn : Nat} {tl : Nat → Nat} (h : lostB F b = none) : blowF F b tn tl (rwN tn) = blowF F b tn tl (pw 5 tn) := by
  unfold rwN
  split
  · rename_i h0
    subst h0
    show blowF F b 0 tl 0 = blowF F b 0 tl 1
    rw [blowF, blowF, blowF]
    show none = if canB F (bM b) (digL 0 0) b = true then some (othN 0 tl 0, 0) else none
    rw [show digL 0 0 = [] from rfl, canB_nil h, if_neg (by decide)]
  · rfl
theorem blow_t {F : RT} {b : BT} {m c : Nat} {tl : Nat → Nat} (h : fwI (blowF F b m tl c) ≤ nI (othN m tl c)) (hm : m ≤ 3) : blowF F b m tl (c + 1) = blowF F b m tl c := by
  have ho := othN_le m tl c
  rw [blowF]
  cases e : blowF F b m tl c with
  | none =>
    exfalso
    rw [e] at h
    have := (nI_leI (a := 1000000) (by decide) (by omega)).mp h
    omega
  | some q =>
    obtain ⟨f, k⟩ := q
    have hf := blowF_le e
    rw [e] at h
    have := (nI_leI (a := f) (by omega) (by omega)).mp h
    show (if othN m tl c < f ∧ _ then _ else _) = _
    rw [if_neg (fun h9 => by omega)]
theorem blow_f {F : RT} {b : BT} {m c : Nat} {tl : Nat → Nat} (h : nI (othN m tl c) < fwI (blowF F b m tl c)) (hm : m ≤ 3) : blowF F b m tl (c + 1) = if canB F (bM b) (digL m c) b = true then some (othN m tl c, c) else blowF F b m tl c := by
  have ho := othN_le m tl c
  rw [blowF]
  cases e : blowF F b m tl c with
  | none => rfl
  | some q =>
    obtain ⟨f, k⟩ := q
    have hf := blowF_le e
    rw [e] at h
    have h2 := (nI_ltI (a := othN m tl c) (b := f) (by omega) (by omega)).mp h
    show (if othN m tl c < f ∧ canB F (bM b) (digL m c) b = true then some (othN m tl c, c) else some (f, k)) = _
    by_cases h3 : canB F (bM b) (digL m c) b = true
    · rw [if_pos ⟨h2, h3⟩, if_pos h3]
    · rw [if_neg (fun h9 => h3 h9.2), if_neg h3]
theorem ask_in {u : Int32} (h : u = 0 ∨ (10 ≤ u ∧ u ≤ 12)) (h0 : ¬ u = 0) : ∃ k, 10 ≤ k ∧ k ≤ 12 ∧ u = nI k := by
  rcases h with h | ⟨h1, h2⟩
  · exact absurd h h0
  · refine (inL (x := u) (lo := 10) (hi := 12) (by decide) (by decide)).mp ⟨?_, ?_⟩
    · rw [show lN 10 = (10 : Int32).toInt64 from by decide, i2l_le]; exact h1
    · rw [show lN 12 = (12 : Int32).toInt64 from by decide, i2l_le]; exact h2
set_option maxHeartbeats 400000 in
theorem c_X12_fits (n : Nat) (ρ : Rho) (I : Mem) (F : RT) (b : BT) (sn : Nat) (sq : Nat → Nat) (sd : Nat → Option Nat) (x : Int32) (hn9 : n ≤ 999) (hms : MS n ρ) (hqn : QN I F b) (hrw : RW F) (hbw : BW F b) (hl1 : L1 F b) (hpw : PW F b) (hsm : SnM I sn sq sd) (hN1 : 1 ≤ rN F) : MI yX12_fits cX12_fits 2 (some .int) 6 [.ref 97, .int x] n ρ I (fun v I1 => ((∃ k, (k ≤ 3 ∧ x = nI k) ∧ v = nI (fnd F (seeB F sn sq sd) k b).length) ∨ (¬ (∃ k, (k ≤ 3 ∧ x = nI k)) ∧ v = -1)) ∧ Kp I I1) := by
  refine MG.of (by decide +kernel) (Nat.le_of_ble_eq_true rfl) hn9 ?_
  intro κ C hR
  show G κ n ρ 0 [(0, .ref 97), (1, .int x)] [] I
  obtain ⟨mn, ⟨m0, m1, m5, m6, m7, m11, m12, m15⟩, ⟨m23, m24, m26, m27, m28, m30, m31, m32, m33⟩, ⟨m38, m39, m40, m42⟩⟩ := id hms
  obtain ⟨hqf, hqe, hqs, hqt⟩ := id hqn
  obtain ⟨qw, qh, qn, qk⟩ := id hqf
  have hn6 : rN F ≤ 6 := hrw.2.2.2.2.1
  have hm25 := Nat.mul_le_mul hrw.2.1 hrw.2.2.2.1
  have hm4 := Nat.mul_le_mul hrw.1 hrw.2.2.1
  refine g_iload_n C (pc := 0) dX12_fits_0 1 rfl ?_
  refine g_i2l C (pc := 1) dX12_fits_1 ?_
  refine g_lconst C (pc := 2) 0 dX12_fits_2 (by decide) ?_
  refine g_ldc2 C (pc := 3) _ gk_RX12_291 dX12_fits_3 ?_
  refine g_callSI C (pc := 6) mf_X12_in lk_RX12_113 (c_X12_in n ρ I _ _ _ hn9) (by decide) (Nat.le_refl _) rfl (Nat.le_of_ble_eq_true rfl) dX12_fits_6 (fun v6 I6 h6 => ?_)
  obtain ⟨e6, rfl⟩ := h6
  refine g_if_ne C (pc := 9) 14 dX12_fits_9 (by decide) (fun c9 => ?_) (fun c9 => ?_)
  · obtain ⟨k, hkl, hkh, hxk⟩ := (inL (x := x) (lo := 0) (hi := 3) (by decide) (by decide)).mp (bI_1.mp (fun h => c9 (e6.trans h)))
    refine g_aload_n C (pc := 14) dX12_fits_14 0 rfl ?_
    refine g_callVV C (pc := 15) mf_X12_starts lk_RX12_227 (c_X12_startsB n ρ I F b hn9 hms hqn hrw hbw) (by decide) (Nat.le_refl _) rfl (by first | assumption | rfl | omega) rfl (by first | assumption | rfl | omega) (Nat.le_of_ble_eq_true rfl) dX12_fits_15 (fun I15 h15 => ?_)
    obtain ⟨f15, k15⟩ := h15
    refine g_aload_n C (pc := 18) dX12_fits_18 0 rfl ?_
    refine g_iconst C (pc := 19) 0 dX12_fits_19 (by decide) ?_
    refine g_putI C (pc := 20) fl_RX12_321 (by decide) fp_11_36 (Or.inl rfl) ⟨rfl, rfl⟩ (by first | assumption | rfl | omega) (by first | assumption | rfl | omega) hn9 dX12_fits_20 ?_
    obtain ⟨JW, hJW⟩ : ∃ JW, JW = wr I15 97 36 0 := ⟨_, rfl⟩
    rw [← hJW]
    have kJW : Kp I JW := by rw [hJW]; exact k15.trans (Kp.sc (by decide) (by decide))
    have wJW : JW 97 36 = 0 := by rw [hJW, wr_ss]
    have qbJW : QB JW F b := f15.cong (fun _ _ => by rw [hJW, wr_n (by decide)]) (fun _ _ => by rw [hJW, wr_n (by decide)]) (by rw [hJW, wr_sn (by decide)]) hn6
    refine g_aload_n C (pc := 23) dX12_fits_23 0 rfl ?_
    refine g_iload_n C (pc := 24) dX12_fits_24 1 rfl ?_
    refine g_iconst C (pc := 25) 1 dX12_fits_25 (by decide) ?_
    refine g_callVV C (pc := 26) mf_X12_findRows lk_RX12_339 (c_X12_findRowsR n ρ JW F b (seeB F sn sq sd) 0 k x 1 hn9 hms (hqf.kp kJW) hrw (hqe.kp kJW) qbJW hbw hl1 hpw hxk hkh (by decide) wJW (lfc1 hn9 hms (hqf.kp kJW) (hsm.kp kJW) hrw (by omega))) (by decide) (Nat.le_refl _) rfl (by first | assumption | rfl | omega) rfl (by first | assumption | rfl | omega) (Nat.le_of_ble_eq_true rfl) dX12_fits_26 (fun I26 h26 => ?_)
    obtain ⟨f26, k26⟩ := h26
    refine g_aload_n C (pc := 29) dX12_fits_29 0 rfl ?_
    refine g_getI C (pc := 30) fl_RX12_315 (by decide) (by first | assumption | rfl | omega) (by first | assumption | rfl | omega) dX12_fits_30 ?_
    refine g_iret C hR (pc := 33) rfl dX12_fits_33 ?_
    refine ⟨rfl, _, rfl, ?_⟩
    exact ⟨Or.inl ⟨k, ⟨hkh, hxk⟩, f26.1⟩, kJW.trans k26⟩
  · have hx := fun h => bI_0.mp (e6.symm.trans c9) ((inL (x := x) (lo := 0) (hi := 3) (by decide) (by decide)).mpr h)
    refine g_iconst C (pc := 12) (-1) dX12_fits_12 (by decide) ?_
    refine g_iret C hR (pc := 13) rfl dX12_fits_13 ?_
    refine ⟨rfl, _, rfl, ?_⟩
    exact ⟨Or.inr ⟨fun ⟨k9, h1, h2⟩ => hx ⟨k9, by omega, h1, h2⟩, rfl⟩, Kp.rfl'⟩
set_option maxHeartbeats 400000 in
theorem c_X12_where (n : Nat) (ρ : Rho) (I : Mem) (F : RT) (b : BT) (sn : Nat) (sq : Nat → Nat) (sd : Nat → Option Nat) (x z : Int32) (hn9 : n ≤ 999) (hms : MS n ρ) (hqn : QN I F b) (hrw : RW F) (hbw : BW F b) (hl1 : L1 F b) (hpw : PW F b) (hsm : SnM I sn sq sd) (hN1 : 1 ≤ rN F) : MI yX12_where cX12_where 3 (some .int) 6 [.ref 97, .int x, .int z] n ρ I (fun v I1 => ((∃ p k, (p < rN F ∧ k ≤ 3 ∧ x = nI p ∧ z = nI k) ∧ ∀ i, i < 32 → bt v i = (fnd F (seeB F sn sq sd) k b).any (fun r => plB (some p) r.2 i)) ∨ (¬ (∃ p k, (p < rN F ∧ k ≤ 3 ∧ x = nI p ∧ z = nI k)) ∧ v = -1)) ∧ Kp I I1) := by
  refine MG.of (by decide +kernel) (Nat.le_of_ble_eq_true rfl) hn9 ?_
  intro κ C hR
  show G κ n ρ 0 [(0, .ref 97), (1, .int x), (2, .int z)] [] I
  obtain ⟨mn, ⟨m0, m1, m5, m6, m7, m11, m12, m15⟩, ⟨m23, m24, m26, m27, m28, m30, m31, m32, m33⟩, ⟨m38, m39, m40, m42⟩⟩ := id hms
  obtain ⟨hqf, hqe, hqs, hqt⟩ := id hqn
  obtain ⟨qw, qh, qn, qk⟩ := id hqf
  have hn6 : rN F ≤ 6 := hrw.2.2.2.2.1
  have hm25 := Nat.mul_le_mul hrw.2.1 hrw.2.2.2.1
  have hm4 := Nat.mul_le_mul hrw.1 hrw.2.2.1
  refine g_aload_n C (pc := 0) dX12_where_0 0 rfl ?_
  refine g_iload_n C (pc := 1) dX12_where_1 1 rfl ?_
  refine g_callVI C (pc := 2) mf_X12_isPiece lk_RX12_233 (c_X12_isPiece n ρ I F x hn9 hms hqf hrw hN1) (by decide) (Nat.le_refl _) rfl (by first | assumption | rfl | omega) rfl (by first | assumption | rfl | omega) (Nat.le_of_ble_eq_true rfl) dX12_where_2 (fun v2 I2 h2 => ?_)
  obtain ⟨e2, rfl⟩ := h2
  refine g_if_eq C (pc := 5) 20 dX12_where_5 (by decide) (fun c5 => ?_) (fun c5 => ?_)
  · have hx := bI_0.mp (e2.symm.trans c5)
    refine g_iconst C (pc := 20) (-1) dX12_where_20 (by decide) ?_
    refine g_iret C hR (pc := 21) rfl dX12_where_21 ?_
    refine ⟨rfl, _, rfl, ?_⟩
    refine ⟨Or.inr ⟨?_, rfl⟩, Kp.rfl'⟩
    rintro ⟨p9, k9, h1, h2, h3, h4⟩
    first | exact hx (by rw [h3]; exact ⟨nI_pos' (by omega), nI_lt h1 (by omega)⟩) | exact hz ⟨k9, by omega, h2, h4⟩
  · have hx := bI_1.mp (fun h => c5 (e2.trans h))
    obtain ⟨p, hp, hxp⟩ := pc_of hrw hx
    refine g_iload_n C (pc := 8) dX12_where_8 2 rfl ?_
    refine g_i2l C (pc := 9) dX12_where_9 ?_
    refine g_lconst C (pc := 10) 0 dX12_where_10 (by decide) ?_
    refine g_ldc2 C (pc := 11) _ gk_RX12_291 dX12_where_11 ?_
    refine g_callSI C (pc := 14) mf_X12_in lk_RX12_113 (c_X12_in n ρ I _ _ _ hn9) (by decide) (Nat.le_refl _) rfl (Nat.le_of_ble_eq_true rfl) dX12_where_14 (fun v14 I14 h14 => ?_)
    obtain ⟨e14, rfl⟩ := h14
    refine g_if_ne C (pc := 17) 22 dX12_where_17 (by decide) (fun c17 => ?_) (fun c17 => ?_)
    · obtain ⟨k, hkl, hkh, hzk⟩ := (inL (x := z) (lo := 0) (hi := 3) (by decide) (by decide)).mp (bI_1.mp (fun h => c17 (e14.trans h)))
      refine g_aload_n C (pc := 22) dX12_where_22 0 rfl ?_
      refine g_callVV C (pc := 23) mf_X12_starts lk_RX12_227 (c_X12_startsB n ρ I F b hn9 hms hqn hrw hbw) (by decide) (Nat.le_refl _) rfl (by first | assumption | rfl | omega) rfl (by first | assumption | rfl | omega) (Nat.le_of_ble_eq_true rfl) dX12_where_23 (fun I23 h23 => ?_)
      obtain ⟨f23, k23⟩ := h23
      refine g_aload_n C (pc := 26) dX12_where_26 0 rfl ?_
      refine g_iload_n C (pc := 27) dX12_where_27 1 rfl ?_
      refine g_putI C (pc := 28) fl_RX12_321 (by decide) fp_11_36 (Or.inl rfl) ⟨rfl, rfl⟩ (by first | assumption | rfl | omega) (by first | assumption | rfl | omega) hn9 dX12_where_28 ?_
      obtain ⟨JW, hJW⟩ : ∃ JW, JW = wr I23 97 36 x := ⟨_, rfl⟩
      rw [← hJW]
      have kJW : Kp I JW := by rw [hJW]; exact k23.trans (Kp.sc (by decide) (by decide))
      have wJW : JW 97 36 = x := by rw [hJW, wr_ss]
      have qbJW : QB JW F b := f23.cong (fun _ _ => by rw [hJW, wr_n (by decide)]) (fun _ _ => by rw [hJW, wr_n (by decide)]) (by rw [hJW, wr_sn (by decide)]) hn6
      refine g_aload_n C (pc := 31) dX12_where_31 0 rfl ?_
      refine g_iload_n C (pc := 32) dX12_where_32 2 rfl ?_
      refine g_iconst C (pc := 33) 1 dX12_where_33 (by decide) ?_
      refine g_callVV C (pc := 34) mf_X12_findRows lk_RX12_339 (c_X12_findRowsR n ρ JW F b (seeB F sn sq sd) p k z 1 hn9 hms (hqf.kp kJW) hrw (hqe.kp kJW) qbJW hbw hl1 hpw hzk hkh (by decide) (wJW.trans hxp) (lfc1 hn9 hms (hqf.kp kJW) (hsm.kp kJW) hrw hp)) (by decide) (Nat.le_refl _) rfl (by first | assumption | rfl | omega) rfl (by first | assumption | rfl | omega) (Nat.le_of_ble_eq_true rfl) dX12_where_34 (fun I34 h34 => ?_)
      obtain ⟨f34, k34⟩ := h34
      refine g_aload_n C (pc := 37) dX12_where_37 0 rfl ?_
      refine g_getI C (pc := 38) fl_RX12_318 (by decide) (by first | assumption | rfl | omega) (by first | assumption | rfl | omega) dX12_where_38 ?_
      refine g_iret C hR (pc := 41) rfl dX12_where_41 ?_
      refine ⟨rfl, _, rfl, ?_⟩
      exact ⟨Or.inl ⟨p, k, ⟨hp, hkh, hxp, hzk⟩, f34.2.1⟩, kJW.trans k34⟩
    · have hz := fun h => bI_0.mp (e14.symm.trans c17) ((inL (x := z) (lo := 0) (hi := 3) (by decide) (by decide)).mpr h)
      refine g_iconst C (pc := 20) (-1) dX12_where_20 (by decide) ?_
      refine g_iret C hR (pc := 21) rfl dX12_where_21 ?_
      refine ⟨rfl, _, rfl, ?_⟩
      refine ⟨Or.inr ⟨?_, rfl⟩, Kp.rfl'⟩
      rintro ⟨p9, k9, h1, h2, h3, h4⟩
      first | exact hx (by rw [h3]; exact ⟨nI_pos' (by omega), nI_lt h1 (by omega)⟩) | exact hz ⟨k9, by omega, h2, h4⟩
set_option maxHeartbeats 1600000 in
theorem c_X12_since (n : Nat) (ρ : Rho) (I : Mem) (F : RT) (b : BT) (kp : Nat → Bool) (bi : Nat → BT) (x z u : Int32) (hn9 : n ≤ 999) (hms : MS n ρ) (hqn : QN I F b) (hrw : RW F) (hbw : BW F b) (hl1 : L1 F b) (hpw : PW F b) (hkp : ∀ k, k < 2 → I 99 k = bI (kp k = true)) (him : ∀ k, k < 2 → kp k = true → ImM I F k (bi k) ∧ BW F (bi k) ∧ L1 F (bi k) ∧ PW F (bi k)) (hN1 : 1 ≤ rN F) : MI yX12_since cX12_since 6 (some .int) 6 [.ref 97, .int x, .int z, .int u] n ρ I (fun v I1 => ((∃ k m, (k < 2 ∧ m ≤ 3 ∧ x = nI k ∧ z = nI m ∧ (u = 0 ∨ (10 ≤ u ∧ u ≤ 12))) ∧ ((kp k = false ∧ v = -2) ∨ (kp k = true ∧ v = sinA F b (bi k) m u))) ∨ (¬ (∃ k m, (k < 2 ∧ m ≤ 3 ∧ x = nI k ∧ z = nI m ∧ (u = 0 ∨ (10 ≤ u ∧ u ≤ 12)))) ∧ v = -1)) ∧ Kp I I1) := by
  refine MG.of (by decide +kernel) (Nat.le_of_ble_eq_true rfl) hn9 ?_
  intro κ C hR
  show G κ n ρ 0 [(0, .ref 97), (1, .int x), (2, .int z), (3, .int u)] [] I
  obtain ⟨mn, ⟨m0, m1, m5, m6, m7, m11, m12, m15⟩, ⟨m23, m24, m26, m27, m28, m30, m31, m32, m33⟩, ⟨m38, m39, m40, m42⟩⟩ := id hms
  obtain ⟨hqf, hqe, hqs, hqt⟩ := id hqn
  obtain ⟨qw, qh, qn, qk⟩ := id hqf
  have hn6 : rN F ≤ 6 := hrw.2.2.2.2.1
  have hm25 := Nat.mul_le_mul hrw.2.1 hrw.2.2.2.1
  have hm4 := Nat.mul_le_mul hrw.1 hrw.2.2.1
  refine g_iload_n C (pc := 0) dX12_since_0 1 rfl ?_
  refine g_i2l C (pc := 1) dX12_since_1 ?_
  refine g_lconst C (pc := 2) 0 dX12_since_2 (by decide) ?_
  refine g_lconst C (pc := 3) 1 dX12_since_3 (by decide) ?_
  refine g_callSI C (pc := 4) mf_X12_in lk_RX12_113 (c_X12_in n ρ I _ _ _ hn9) (by decide) (Nat.le_refl _) rfl (Nat.le_of_ble_eq_true rfl) dX12_since_4 (fun v4 I4 h4 => ?_)
  obtain ⟨e4, rfl⟩ := h4
  refine g_if_eq C (pc := 7) 40 dX12_since_7 (by decide) (fun c7 => ?_) (fun c7 => ?_)
  · have hx := fun h => bI_0.mp (e4.symm.trans c7) ((inL (x := x) (lo := 0) (hi := 1) (by decide) (by decide)).mpr h)
    refine g_iconst C (pc := 40) (-1) dX12_since_40 (by decide) ?_
    refine g_iret C hR (pc := 41) rfl dX12_since_41 ?_
    refine ⟨rfl, _, rfl, ?_⟩
    refine ⟨Or.inr ⟨?_, rfl⟩, Kp.rfl'⟩
    rintro ⟨k9, m9, h1, h2, h3, h4, h5⟩
    first | exact hx ⟨k9, by omega, by omega, h3⟩ | exact hz ⟨m9, by omega, h2, h4⟩ | exact hu (ask_in h5 c23)
  · obtain ⟨k, hkl, hkh, hxk⟩ := (inL (x := x) (lo := 0) (hi := 1) (by decide) (by decide)).mp (bI_1.mp (fun h => c7 (e4.trans h)))
    refine g_iload_n C (pc := 10) dX12_since_10 2 rfl ?_
    refine g_i2l C (pc := 11) dX12_since_11 ?_
    refine g_lconst C (pc := 12) 0 dX12_since_12 (by decide) ?_
    refine g_ldc2 C (pc := 13) _ gk_RX12_291 dX12_since_13 ?_
    refine g_callSI C (pc := 16) mf_X12_in lk_RX12_113 (c_X12_in n ρ I _ _ _ hn9) (by decide) (Nat.le_refl _) rfl (Nat.le_of_ble_eq_true rfl) dX12_since_16 (fun v16 I16 h16 => ?_)
    obtain ⟨e16, rfl⟩ := h16
    refine g_if_eq C (pc := 19) 40 dX12_since_19 (by decide) (fun c19 => ?_) (fun c19 => ?_)
    · have hz := fun h => bI_0.mp (e16.symm.trans c19) ((inL (x := z) (lo := 0) (hi := 3) (by decide) (by decide)).mpr h)
      refine g_iconst C (pc := 40) (-1) dX12_since_40 (by decide) ?_
      refine g_iret C hR (pc := 41) rfl dX12_since_41 ?_
      refine ⟨rfl, _, rfl, ?_⟩
      refine ⟨Or.inr ⟨?_, rfl⟩, Kp.rfl'⟩
      rintro ⟨k9, m9, h1, h2, h3, h4, h5⟩
      first | exact hx ⟨k9, by omega, by omega, h3⟩ | exact hz ⟨m9, by omega, h2, h4⟩ | exact hu (ask_in h5 c23)
    · obtain ⟨m, hml, hmh, hzm⟩ := (inL (x := z) (lo := 0) (hi := 3) (by decide) (by decide)).mp (bI_1.mp (fun h => c19 (e16.trans h)))
      refine g_iload_n C (pc := 22) dX12_since_22 3 rfl ?_
      refine g_if_eq C (pc := 23) 42 dX12_since_23 (by decide) (fun c23 => ?_) (fun c23 => ?_)
      · have hu9 : u = 0 ∨ (10 ≤ u ∧ u ≤ 12) := Or.inl c23
        refine g_aload_n C (pc := 42) dX12_since_42 0 rfl ?_
        refine g_getR C (pc := 43) fl_RX12_13 (by decide) (by first | assumption | rfl | omega) (by first | assumption | rfl | omega) (by first | assumption | rfl | omega) dX12_since_43 ?_
        refine g_iload_n C (pc := 46) dX12_since_46 1 rfl ?_
        refine g_zald C (pc := 47) (by first | assumption | rfl | omega) (by first | assumption | rfl | omega) (by rw [hxk]; exact vp_in_nI (by omega) (by decide)) dX12_since_47 ?_
        have h48 : I 99 x.toNatClampNeg = bI (kp k = true) := by rw [hxk, nI_clamp (by omega)]; exact hkp k (by omega)
        rw [h48]
        refine g_if_ne C (pc := 48) 54 dX12_since_48 (by decide) (fun c48 => ?_) (fun c48 => ?_)
        · have hkt : kp k = true := bI_1.mp c48
          obtain ⟨him1, hbi, hli, hpi⟩ := him k (by omega) hkt
          refine g_bipush C (pc := 54) 41 dX12_since_54 (by decide) ?_
          refine g_iload_n C (pc := 56) dX12_since_56 1 rfl ?_
          refine g_iconst C (pc := 57) 1 dX12_since_57 (by decide) ?_
          refine g_iadd C (pc := 58) dX12_since_58 ?_
          refine g_imul C (pc := 59) dX12_since_59 ?_
          refine g_istore C (pc := 60) dX12_since_60 (by decide) (fun v60 => [(4, .int v60), (0, .ref 97), (1, .int x), (2, .int z), (3, .int u)]) (fun _ => rfl) (fun v60 ev60 => ?_)
          first
          | (have h60 : v60 = nI (41 * (k + 1)) := by rw [ev60, hxk, nI_1, show (41 : Int32) = nI 41 from rfl, pk_mul])
          | skip
          refine g_iconst C (pc := 62) 0 dX12_since_62 (by decide) ?_
          refine g_istore C (pc := 63) dX12_since_63 (by decide) (fun v63 => [(5, .int v63), (4, .int v60), (0, .ref 97), (1, .int x), (2, .int z), (3, .int u)]) (fun _ => rfl) (fun v63 ev63 => ?_)
          have L65 : ∀ (k9 : Nat) (j : Nat) (wz5 : Int32) (J : Mem) (hw5 : wz5 = nI j) (hj : j ≤ 6) (hA : ∀ q, q < j → J 106 q = I 98 (41 * (k + 1) + q) ∧ J 107 q = I 98 (41 * (k + 1) + (6 + q))) (hF : ∀ i, i ≠ 106 → i ≠ 107 → J i = I i), 6 - j < k9 → G κ n ρ 65 [(5, .int wz5), (4, .int v60), (0, .ref 97), (1, .int x), (2, .int z), (3, .int u)] [] J := by
            intro k9
            induction k9 with
            | zero => intro j wz5 J hw5 hj hA hF hm65; exact absurd hm65 (Nat.not_lt_zero _)
            | succ k9 ih65 =>
              intro j wz5 J hw5 hj hA hF hm65
              subst hw5
              refine g_iload C (pc := 65) dX12_since_65 0 rfl ?_
              refine g_bipush C (pc := 67) 6 dX12_since_67 (by decide) ?_
              refine g_icmp_ge C (pc := 69) 117 dX12_since_69 (by decide) (fun c69 => ?_) (fun c69 => ?_)
              · replace c69 := (nI_leI (a := 6) (b := j) (by decide) (by omega)).mp c69
                refine g_aload_n C (pc := 117) dX12_since_117 2 rfl ?_
                refine g_aload_n C (pc := 118) dX12_since_118 2 rfl ?_
                refine g_getR C (pc := 119) fl_RX12_7 (by decide) (by first | assumption | rfl | omega) (by first | assumption | rfl | omega) (by first | assumption | rfl | omega) dX12_since_119 ?_
                refine g_iload C (pc := 122) dX12_since_122 1 rfl ?_
                refine g_bipush C (pc := 124) 18 dX12_since_124 (by decide) ?_
                refine g_iadd C (pc := 126) dX12_since_126 ?_
                refine g_iald C (pc := 127) (by first | assumption | rfl | omega) (by first | assumption | rfl | omega) (by rw [h60, show (18 : Int32) = nI 18 from rfl, nI_add]; exact vp_in_nI (by omega) (by decide)) dX12_since_127 ?_
                rw [h60, show (18 : Int32) = nI 18 from rfl, nI_add, nI_clamp (show 41 * (k + 1) + 18 < 2 ^ 31 by omega), hF 98 (by decide) (by decide), him1.2]
                refine g_putI C (pc := 128) fl_RX12_204 (by decide) fp_11_25 (Or.inl rfl) ⟨rfl, rfl⟩ (by first | assumption | rfl | omega) (by first | assumption | rfl | omega) hn9 dX12_since_128 ?_
                refine g_aload_n C (pc := 131) dX12_since_131 2 rfl ?_
                refine g_iconst C (pc := 132) 0 dX12_since_132 (by decide) ?_
                refine g_putI C (pc := 133) fl_RX12_321 (by decide) fp_11_36 (Or.inl rfl) ⟨rfl, rfl⟩ (by first | assumption | rfl | omega) (by first | assumption | rfl | omega) hn9 dX12_since_133 ?_
                obtain ⟨JW, hJW⟩ : ∃ JW, JW = wr (wr J 97 25 (nI (bM (bi k)))) 97 36 0 := ⟨_, rfl⟩
                rw [← hJW]
                have kJW : Kp I JW := ⟨fun z9 hz9 => by rw [hJW, wr_sn (by omega), wr_sn (by omega), hF 97 (by decide) (by decide)], fun i hi => by rw [hJW, wr_n (by omega), wr_n (by omega), hF i (by omega) (by omega)]⟩
                have wJW : JW 97 36 = nI 0 := by rw [hJW, wr_ss]; rfl
                have qbJW : QB JW F (bi k) := ⟨fun p hp => by rw [hJW, wr_n (by decide), wr_n (by decide), wr_n (by decide), wr_n (by decide), (hA p (by omega)).1, (hA p (by omega)).2]; exact him1.1 p hp, by rw [hJW, wr_sn (by decide), wr_ss]⟩
                refine g_aload_n C (pc := 136) dX12_since_136 2 rfl ?_
                refine g_iload_n C (pc := 137) dX12_since_137 4 rfl ?_
                refine g_iconst C (pc := 138) 0 dX12_since_138 (by decide) ?_
                refine g_callVV C (pc := 139) mf_X12_findRows lk_RX12_339 (c_X12_findRowsR n ρ JW F (bi k) (asB F b) 0 m z 0 hn9 hms (hqf.kp kJW) hrw (hqe.kp kJW) qbJW hbi hli hpi hzm hmh (by decide) wJW (lfc0 hn9 hms (hqn.kp kJW) hrw hbw (by omega))) (by decide) (Nat.le_refl _) rfl (by first | assumption | rfl | omega) rfl (by first | assumption | rfl | omega) (Nat.le_of_ble_eq_true rfl) dX12_since_139 (fun I139 h139 => ?_)
                obtain ⟨f139, k139⟩ := h139
                have hfl := fnd_b30 (F := F) (g := asB F b) hn6 hmh (bi k)
                have h34 : I139 97 34 = nI (fnd F (asB F b) m (bi k)).length := f139.1
                refine g_iload_n C (pc := 142) dX12_since_142 5 rfl ?_
                refine g_if_ne C (pc := 143) 153 dX12_since_143 (by decide) (fun c143 => ?_) (fun c143 => ?_)
                · obtain ⟨i, hi3, hui⟩ := asked_of hu9 c143
                  refine g_aload_n C (pc := 153) dX12_since_153 2 rfl ?_
                  refine g_getI C (pc := 154) fl_RX12_315 (by decide) (by first | assumption | rfl | omega) (by first | assumption | rfl | omega) dX12_since_154 ?_
                  refine g_if_le C (pc := 157) 180 dX12_since_157 (by decide) (fun c157 => ?_) (fun c157 => ?_)
                  · have hnil : fnd F (asB F b) m (bi k) = [] := by
                      rw [h34] at c157
                      have := (nI_leI (b := 0) (by omega) (by decide)).mp c157
                      exact List.eq_nil_of_length_eq_zero (by omega)
                    refine g_bipush C (pc := 180) (-4) dX12_since_180 (by decide) ?_
                    refine g_iret C hR (pc := 182) rfl dX12_since_182 ?_
                    refine ⟨rfl, _, rfl, ?_⟩
                    refine ⟨Or.inl ⟨k, m, ⟨by omega, hmh, hxk, hzm, hu9⟩, Or.inr ⟨hkt, ?_⟩⟩, kJW.trans k139⟩
                    unfold sinA
                    first
                    | (rw [if_pos c143]; exact h34)
                    | (rw [if_neg c143, hnil]; done)
                    | (rw [if_neg c143, hrL]
                       show _ = oI (r.1[(u - 10).toNatClampNeg]?)
                       rw [hui, nI_clamp (show i < 2 ^ 31 by omega), List.getElem?_eq_none (by omega)]; rfl)
                    | (rw [if_neg c143, hrL]
                       show _ = oI (r.1[(u - 10).toNatClampNeg]?)
                       have hg9 := List.getElem?_eq_getElem (l := r.1) (i := i) (by omega)
                       rw [hui, nI_clamp (show i < 2 ^ 31 by omega), hg9]
                       exact (f139.2.2 r L hrL).2 i _ hg9)
                  · obtain ⟨r, L, hrL⟩ : ∃ r L, fnd F (asB F b) m (bi k) = r :: L := by
                      cases h9 : fnd F (asB F b) m (bi k) with
                      | nil => exfalso; rw [h34, h9] at c157; exact absurd c157 (by decide)
                      | cons r L => exact ⟨r, L, rfl⟩
                    have hrl : r.1.length = m := (fnd_len (show r ∈ fnd F (asB F b) m (bi k) by rw [hrL]; exact List.mem_cons_self)).1
                    refine g_iload_n C (pc := 160) dX12_since_160 5 rfl ?_
                    refine g_bipush C (pc := 161) 10 dX12_since_161 (by decide) ?_
                    refine g_isub C (pc := 163) dX12_since_163 ?_
                    refine g_iload_n C (pc := 164) dX12_since_164 4 rfl ?_
                    rw [hui, hzm]
                    refine g_icmp_ge C (pc := 165) 180 dX12_since_165 (by decide) (fun c165 => ?_) (fun c165 => ?_)
                    · replace c165 := (nI_leI (by omega) (by omega)).mp c165
                      refine g_bipush C (pc := 180) (-4) dX12_since_180 (by decide) ?_
                      refine g_iret C hR (pc := 182) rfl dX12_since_182 ?_
                      refine ⟨rfl, _, rfl, ?_⟩
                      refine ⟨Or.inl ⟨k, m, ⟨by omega, hmh, hxk, hzm, hu9⟩, Or.inr ⟨hkt, ?_⟩⟩, kJW.trans k139⟩
                      unfold sinA
                      first
                      | (rw [if_pos c143]; exact h34)
                      | (rw [if_neg c143, hnil]; done)
                      | (rw [if_neg c143, hrL]
                         show _ = oI (r.1[(u - 10).toNatClampNeg]?)
                         rw [hui, nI_clamp (show i < 2 ^ 31 by omega), List.getElem?_eq_none (by omega)]; rfl)
                      | (rw [if_neg c143, hrL]
                         show _ = oI (r.1[(u - 10).toNatClampNeg]?)
                         have hg9 := List.getElem?_eq_getElem (l := r.1) (i := i) (by omega)
                         rw [hui, nI_clamp (show i < 2 ^ 31 by omega), hg9]
                         exact (f139.2.2 r L hrL).2 i _ hg9)
                    · replace c165 := (nI_ltI (by omega) (by omega)).mp c165
                      refine g_aload_n C (pc := 168) dX12_since_168 2 rfl ?_
                      refine g_getR C (pc := 169) fl_RX12_59 (by decide) (by first | assumption | rfl | omega) (by first | assumption | rfl | omega) (by first | assumption | rfl | omega) dX12_since_169 ?_
                      refine g_iload_n C (pc := 172) dX12_since_172 5 rfl ?_
                      refine g_bipush C (pc := 173) 10 dX12_since_173 (by decide) ?_
                      refine g_isub C (pc := 175) dX12_since_175 ?_
                      rw [hui]
                      refine g_iald C (pc := 176) (by first | assumption | rfl | omega) (by first | assumption | rfl | omega) (vp_in_nI (by omega) (by decide)) dX12_since_176 ?_
                      rw [nI_clamp (show i < 2 ^ 31 by omega)]
                      refine g_goto C (pc := 177) 182 dX12_since_177 (by decide) ?_
                      refine g_iret C hR (pc := 182) rfl dX12_since_182 ?_
                      refine ⟨rfl, _, rfl, ?_⟩
                      refine ⟨Or.inl ⟨k, m, ⟨by omega, hmh, hxk, hzm, hu9⟩, Or.inr ⟨hkt, ?_⟩⟩, kJW.trans k139⟩
                      unfold sinA
                      first
                      | (rw [if_pos c143]; exact h34)
                      | (rw [if_neg c143, hnil]; done)
                      | (rw [if_neg c143, hrL]
                         show _ = oI (r.1[(u - 10).toNatClampNeg]?)
                         rw [hui, nI_clamp (show i < 2 ^ 31 by omega), List.getElem?_eq_none (by omega)]; rfl)
                      | (rw [if_neg c143, hrL]
                         show _ = oI (r.1[(u - 10).toNatClampNeg]?)
                         have hg9 := List.getElem?_eq_getElem (l := r.1) (i := i) (by omega)
                         rw [hui, nI_clamp (show i < 2 ^ 31 by omega), hg9]
                         exact (f139.2.2 r L hrL).2 i _ hg9)
                · refine g_aload_n C (pc := 146) dX12_since_146 2 rfl ?_
                  refine g_getI C (pc := 147) fl_RX12_315 (by decide) (by first | assumption | rfl | omega) (by first | assumption | rfl | omega) dX12_since_147 ?_
                  refine g_goto C (pc := 150) 182 dX12_since_150 (by decide) ?_
                  refine g_iret C hR (pc := 182) rfl dX12_since_182 ?_
                  refine ⟨rfl, _, rfl, ?_⟩
                  refine ⟨Or.inl ⟨k, m, ⟨by omega, hmh, hxk, hzm, hu9⟩, Or.inr ⟨hkt, ?_⟩⟩, kJW.trans k139⟩
                  unfold sinA
                  first
                  | (rw [if_pos c143]; exact h34)
                  | (rw [if_neg c143, hnil]; done)
                  | (rw [if_neg c143, hrL]
                     show _ = oI (r.1[(u - 10).toNatClampNeg]?)
                     rw [hui, nI_clamp (show i < 2 ^ 31 by omega), List.getElem?_eq_none (by omega)]; rfl)
                  | (rw [if_neg c143, hrL]
                     show _ = oI (r.1[(u - 10).toNatClampNeg]?)
                     have hg9 := List.getElem?_eq_getElem (l := r.1) (i := i) (by omega)
                     rw [hui, nI_clamp (show i < 2 ^ 31 by omega), hg9]
                     exact (f139.2.2 r L hrL).2 i _ hg9)
              · replace c69 := (nI_ltI (a := j) (b := 6) (by omega) (by decide)).mp c69
                have hcj : (nI j).toNatClampNeg = j := nI_clamp (by omega)
                have ix1 : (v60 + 0 + nI j).toNatClampNeg = 41 * (k + 1) + j := by rw [h60, Int32.add_zero, nI_add]; exact nI_clamp (by omega)
                have ix2 : (v60 + 6 + nI j).toNatClampNeg = 41 * (k + 1) + (6 + j) := by rw [h60, show (6 : Int32) = nI 6 from rfl, nI_add, nI_add]; rw [nI_clamp (by omega)]; omega
                refine g_aload_n C (pc := 72) dX12_since_72 2 rfl ?_
                refine g_getR C (pc := 73) fl_RX12_35 (by decide) (by first | assumption | rfl | omega) (by first | assumption | rfl | omega) (by first | assumption | rfl | omega) dX12_since_73 ?_
                refine g_iload C (pc := 76) dX12_since_76 0 rfl ?_
                refine g_aload_n C (pc := 78) dX12_since_78 2 rfl ?_
                refine g_getR C (pc := 79) fl_RX12_7 (by decide) (by first | assumption | rfl | omega) (by first | assumption | rfl | omega) (by first | assumption | rfl | omega) dX12_since_79 ?_
                refine g_iload C (pc := 82) dX12_since_82 1 rfl ?_
                refine g_iconst C (pc := 84) 0 dX12_since_84 (by decide) ?_
                refine g_iadd C (pc := 85) dX12_since_85 ?_
                refine g_iload C (pc := 86) dX12_since_86 0 rfl ?_
                refine g_iadd C (pc := 88) dX12_since_88 ?_
                refine g_iald C (pc := 89) (by first | assumption | rfl | omega) (by first | assumption | rfl | omega) (by rw [h60, Int32.add_zero, nI_add]; exact vp_in_nI (by omega) (by decide)) dX12_since_89 ?_
                refine g_iast C (pc := 90) (by first | assumption | rfl | omega) (by first | assumption | rfl | omega) hn9 (vp_in_nI (by omega) (by decide)) dX12_since_90 ?_
                refine g_aload_n C (pc := 91) dX12_since_91 2 rfl ?_
                refine g_getR C (pc := 92) fl_RX12_38 (by decide) (by first | assumption | rfl | omega) (by first | assumption | rfl | omega) (by first | assumption | rfl | omega) dX12_since_92 ?_
                refine g_iload C (pc := 95) dX12_since_95 0 rfl ?_
                refine g_aload_n C (pc := 97) dX12_since_97 2 rfl ?_
                refine g_getR C (pc := 98) fl_RX12_7 (by decide) (by first | assumption | rfl | omega) (by first | assumption | rfl | omega) (by first | assumption | rfl | omega) dX12_since_98 ?_
                refine g_iload C (pc := 101) dX12_since_101 1 rfl ?_
                refine g_bipush C (pc := 103) 6 dX12_since_103 (by decide) ?_
                refine g_iadd C (pc := 105) dX12_since_105 ?_
                refine g_iload C (pc := 106) dX12_since_106 0 rfl ?_
                refine g_iadd C (pc := 108) dX12_since_108 ?_
                refine g_iald C (pc := 109) (by first | assumption | rfl | omega) (by first | assumption | rfl | omega) (by rw [h60, show (6 : Int32) = nI 6 from rfl, nI_add, nI_add]; exact vp_in_nI (by omega) (by decide)) dX12_since_109 ?_
                refine g_iast C (pc := 110) (by first | assumption | rfl | omega) (by first | assumption | rfl | omega) hn9 (vp_in_nI (by omega) (by decide)) dX12_since_110 ?_
                refine g_iinc C (pc := 111) (1) dX12_since_111 0 rfl (by decide) (by decide) (fun v111 => [(5, .int v111), (4, .int v60), (0, .ref 97), (1, .int x), (2, .int z), (3, .int u)]) (fun _ => rfl) (fun v111 ev111 => ?_)
                refine g_goto C (pc := 114) 65 dX12_since_114 (by decide) ?_
                refine g_lv C [0, 1, 2, 3, 4, 5] rfl (ih65 (j + 1) _ _ ?_ ?_ ?_ ?_ (by omega))
                · subst ev111; exact nI_1 _
                · omega
                · intro q hq
                  rw [hcj, ix1, ix2]
                  have e98 : wr J 106 j (J 98 (41 * (k + 1) + j)) 98 = J 98 := wr_n (by decide)
                  rw [e98, hF 98 (by decide) (by decide), wr_n (a := 106) (by decide), wr_s, wr_s]
                  rcases Nat.lt_or_ge q j with h1 | h1
                  · rw [upd_n (by omega), upd_n (by omega), wr_n (a := 107) (by decide)]; exact hA q h1
                  · have : q = j := by omega
                    subst this
                    rw [upd_s, upd_s]; exact ⟨rfl, rfl⟩
                · intro i h1 h2; rw [wr_n h2, wr_n h1]; exact hF i h1 h2
          refine g_lv C [0, 1, 2, 3, 4, 5] rfl (L65 (_ + 1) 0 _ _ ?_ ?_ ?_ ?_ (by first | omega | exact Nat.lt_succ_self _))
          · subst_vars; rfl
          · omega
          · intro q hq; omega
          · intro i _ _; rfl
        · have hkf : kp k = false := by
            cases h9 : kp k with
            | false => rfl
            | true => exact absurd h9 (bI_0.mp c48)
          refine g_bipush C (pc := 51) (-2) dX12_since_51 (by decide) ?_
          refine g_iret C hR (pc := 53) rfl dX12_since_53 ?_
          refine ⟨rfl, _, rfl, ?_⟩
          exact ⟨Or.inl ⟨k, m, ⟨by omega, hmh, hxk, hzm, hu9⟩, Or.inl ⟨hkf, rfl⟩⟩, Kp.rfl'⟩
      · refine g_iload_n C (pc := 26) dX12_since_26 3 rfl ?_
        refine g_i2l C (pc := 27) dX12_since_27 ?_
        refine g_ldc2 C (pc := 28) _ gk_RX12_335 dX12_since_28 ?_
        refine g_ldc2 C (pc := 31) _ gk_RX12_337 dX12_since_31 ?_
        refine g_callSI C (pc := 34) mf_X12_in lk_RX12_113 (c_X12_in n ρ I _ _ _ hn9) (by decide) (Nat.le_refl _) rfl (Nat.le_of_ble_eq_true rfl) dX12_since_34 (fun v34 I34 h34 => ?_)
        obtain ⟨e34, rfl⟩ := h34
        refine g_if_ne C (pc := 37) 42 dX12_since_37 (by decide) (fun c37 => ?_) (fun c37 => ?_)
        · obtain ⟨q, hql, hqh, huq⟩ := (inL (x := u) (lo := 10) (hi := 12) (by decide) (by decide)).mp (bI_1.mp (fun h => c37 (e34.trans h)))
          have hu9 : u = 0 ∨ (10 ≤ u ∧ u ≤ 12) := Or.inr ⟨by rw [huq]; exact nI_le (a := 10) hql (by omega), by rw [huq]; exact nI_le (b := 12) hqh (by decide)⟩
          refine g_aload_n C (pc := 42) dX12_since_42 0 rfl ?_
          refine g_getR C (pc := 43) fl_RX12_13 (by decide) (by first | assumption | rfl | omega) (by first | assumption | rfl | omega) (by first | assumption | rfl | omega) dX12_since_43 ?_
          refine g_iload_n C (pc := 46) dX12_since_46 1 rfl ?_
          refine g_zald C (pc := 47) (by first | assumption | rfl | omega) (by first | assumption | rfl | omega) (by rw [hxk]; exact vp_in_nI (by omega) (by decide)) dX12_since_47 ?_
          have h48 : I 99 x.toNatClampNeg = bI (kp k = true) := by rw [hxk, nI_clamp (by omega)]; exact hkp k (by omega)
          rw [h48]
          refine g_if_ne C (pc := 48) 54 dX12_since_48 (by decide) (fun c48 => ?_) (fun c48 => ?_)
          · have hkt : kp k = true := bI_1.mp c48
            obtain ⟨him1, hbi, hli, hpi⟩ := him k (by omega) hkt
            refine g_bipush C (pc := 54) 41 dX12_since_54 (by decide) ?_
            refine g_iload_n C (pc := 56) dX12_since_56 1 rfl ?_
            refine g_iconst C (pc := 57) 1 dX12_since_57 (by decide) ?_
            refine g_iadd C (pc := 58) dX12_since_58 ?_
            refine g_imul C (pc := 59) dX12_since_59 ?_
            refine g_istore C (pc := 60) dX12_since_60 (by decide) (fun v60 => [(4, .int v60), (0, .ref 97), (1, .int x), (2, .int z), (3, .int u)]) (fun _ => rfl) (fun v60 ev60 => ?_)
            first
            | (have h60 : v60 = nI (41 * (k + 1)) := by rw [ev60, hxk, nI_1, show (41 : Int32) = nI 41 from rfl, pk_mul])
            | skip
            refine g_iconst C (pc := 62) 0 dX12_since_62 (by decide) ?_
            refine g_istore C (pc := 63) dX12_since_63 (by decide) (fun v63 => [(5, .int v63), (4, .int v60), (0, .ref 97), (1, .int x), (2, .int z), (3, .int u)]) (fun _ => rfl) (fun v63 ev63 => ?_)
            have L65 : ∀ (k9 : Nat) (j : Nat) (wz5 : Int32) (J : Mem) (hw5 : wz5 = nI j) (hj : j ≤ 6) (hA : ∀ q, q < j → J 106 q = I 98 (41 * (k + 1) + q) ∧ J 107 q = I 98 (41 * (k + 1) + (6 + q))) (hF : ∀ i, i ≠ 106 → i ≠ 107 → J i = I i), 6 - j < k9 → G κ n ρ 65 [(5, .int wz5), (4, .int v60), (0, .ref 97), (1, .int x), (2, .int z), (3, .int u)] [] J := by
              intro k9
              induction k9 with
              | zero => intro j wz5 J hw5 hj hA hF hm65; exact absurd hm65 (Nat.not_lt_zero _)
              | succ k9 ih65 =>
                intro j wz5 J hw5 hj hA hF hm65
                subst hw5
                refine g_iload C (pc := 65) dX12_since_65 0 rfl ?_
                refine g_bipush C (pc := 67) 6 dX12_since_67 (by decide) ?_
                refine g_icmp_ge C (pc := 69) 117 dX12_since_69 (by decide) (fun c69 => ?_) (fun c69 => ?_)
                · replace c69 := (nI_leI (a := 6) (b := j) (by decide) (by omega)).mp c69
                  refine g_aload_n C (pc := 117) dX12_since_117 2 rfl ?_
                  refine g_aload_n C (pc := 118) dX12_since_118 2 rfl ?_
                  refine g_getR C (pc := 119) fl_RX12_7 (by decide) (by first | assumption | rfl | omega) (by first | assumption | rfl | omega) (by first | assumption | rfl | omega) dX12_since_119 ?_
                  refine g_iload C (pc := 122) dX12_since_122 1 rfl ?_
                  refine g_bipush C (pc := 124) 18 dX12_since_124 (by decide) ?_
                  refine g_iadd C (pc := 126) dX12_since_126 ?_
                  refine g_iald C (pc := 127) (by first | assumption | rfl | omega) (by first | assumption | rfl | omega) (by rw [h60, show (18 : Int32) = nI 18 from rfl, nI_add]; exact vp_in_nI (by omega) (by decide)) dX12_since_127 ?_
                  rw [h60, show (18 : Int32) = nI 18 from rfl, nI_add, nI_clamp (show 41 * (k + 1) + 18 < 2 ^ 31 by omega), hF 98 (by decide) (by decide), him1.2]
                  refine g_putI C (pc := 128) fl_RX12_204 (by decide) fp_11_25 (Or.inl rfl) ⟨rfl, rfl⟩ (by first | assumption | rfl | omega) (by first | assumption | rfl | omega) hn9 dX12_since_128 ?_
                  refine g_aload_n C (pc := 131) dX12_since_131 2 rfl ?_
                  refine g_iconst C (pc := 132) 0 dX12_since_132 (by decide) ?_
                  refine g_putI C (pc := 133) fl_RX12_321 (by decide) fp_11_36 (Or.inl rfl) ⟨rfl, rfl⟩ (by first | assumption | rfl | omega) (by first | assumption | rfl | omega) hn9 dX12_since_133 ?_
                  obtain ⟨JW, hJW⟩ : ∃ JW, JW = wr (wr J 97 25 (nI (bM (bi k)))) 97 36 0 := ⟨_, rfl⟩
                  rw [← hJW]
                  have kJW : Kp I JW := ⟨fun z9 hz9 => by rw [hJW, wr_sn (by omega), wr_sn (by omega), hF 97 (by decide) (by decide)], fun i hi => by rw [hJW, wr_n (by omega), wr_n (by omega), hF i (by omega) (by omega)]⟩
                  have wJW : JW 97 36 = nI 0 := by rw [hJW, wr_ss]; rfl
                  have qbJW : QB JW F (bi k) := ⟨fun p hp => by rw [hJW, wr_n (by decide), wr_n (by decide), wr_n (by decide), wr_n (by decide), (hA p (by omega)).1, (hA p (by omega)).2]; exact him1.1 p hp, by rw [hJW, wr_sn (by decide), wr_ss]⟩
                  refine g_aload_n C (pc := 136) dX12_since_136 2 rfl ?_
                  refine g_iload_n C (pc := 137) dX12_since_137 4 rfl ?_
                  refine g_iconst C (pc := 138) 0 dX12_since_138 (by decide) ?_
                  refine g_callVV C (pc := 139) mf_X12_findRows lk_RX12_339 (c_X12_findRowsR n ρ JW F (bi k) (asB F b) 0 m z 0 hn9 hms (hqf.kp kJW) hrw (hqe.kp kJW) qbJW hbi hli hpi hzm hmh (by decide) wJW (lfc0 hn9 hms (hqn.kp kJW) hrw hbw (by omega))) (by decide) (Nat.le_refl _) rfl (by first | assumption | rfl | omega) rfl (by first | assumption | rfl | omega) (Nat.le_of_ble_eq_true rfl) dX12_since_139 (fun I139 h139 => ?_)
                  obtain ⟨f139, k139⟩ := h139
                  have hfl := fnd_b30 (F := F) (g := asB F b) hn6 hmh (bi k)
                  have h34 : I139 97 34 = nI (fnd F (asB F b) m (bi k)).length := f139.1
                  refine g_iload_n C (pc := 142) dX12_since_142 5 rfl ?_
                  refine g_if_ne C (pc := 143) 153 dX12_since_143 (by decide) (fun c143 => ?_) (fun c143 => ?_)
                  · obtain ⟨i, hi3, hui⟩ := asked_of hu9 c143
                    refine g_aload_n C (pc := 153) dX12_since_153 2 rfl ?_
                    refine g_getI C (pc := 154) fl_RX12_315 (by decide) (by first | assumption | rfl | omega) (by first | assumption | rfl | omega) dX12_since_154 ?_
                    refine g_if_le C (pc := 157) 180 dX12_since_157 (by decide) (fun c157 => ?_) (fun c157 => ?_)
                    · have hnil : fnd F (asB F b) m (bi k) = [] := by
                        rw [h34] at c157
                        have := (nI_leI (b := 0) (by omega) (by decide)).mp c157
                        exact List.eq_nil_of_length_eq_zero (by omega)
                      refine g_bipush C (pc := 180) (-4) dX12_since_180 (by decide) ?_
                      refine g_iret C hR (pc := 182) rfl dX12_since_182 ?_
                      refine ⟨rfl, _, rfl, ?_⟩
                      refine ⟨Or.inl ⟨k, m, ⟨by omega, hmh, hxk, hzm, hu9⟩, Or.inr ⟨hkt, ?_⟩⟩, kJW.trans k139⟩
                      unfold sinA
                      first
                      | (rw [if_pos c143]; exact h34)
                      | (rw [if_neg c143, hnil]; done)
                      | (rw [if_neg c143, hrL]
                         show _ = oI (r.1[(u - 10).toNatClampNeg]?)
                         rw [hui, nI_clamp (show i < 2 ^ 31 by omega), List.getElem?_eq_none (by omega)]; rfl)
                      | (rw [if_neg c143, hrL]
                         show _ = oI (r.1[(u - 10).toNatClampNeg]?)
                         have hg9 := List.getElem?_eq_getElem (l := r.1) (i := i) (by omega)
                         rw [hui, nI_clamp (show i < 2 ^ 31 by omega), hg9]
                         exact (f139.2.2 r L hrL).2 i _ hg9)
                    · obtain ⟨r, L, hrL⟩ : ∃ r L, fnd F (asB F b) m (bi k) = r :: L := by
                        cases h9 : fnd F (asB F b) m (bi k) with
                        | nil => exfalso; rw [h34, h9] at c157; exact absurd c157 (by decide)
                        | cons r L => exact ⟨r, L, rfl⟩
                      have hrl : r.1.length = m := (fnd_len (show r ∈ fnd F (asB F b) m (bi k) by rw [hrL]; exact List.mem_cons_self)).1
                      refine g_iload_n C (pc := 160) dX12_since_160 5 rfl ?_
                      refine g_bipush C (pc := 161) 10 dX12_since_161 (by decide) ?_
                      refine g_isub C (pc := 163) dX12_since_163 ?_
                      refine g_iload_n C (pc := 164) dX12_since_164 4 rfl ?_
                      rw [hui, hzm]
                      refine g_icmp_ge C (pc := 165) 180 dX12_since_165 (by decide) (fun c165 => ?_) (fun c165 => ?_)
                      · replace c165 := (nI_leI (by omega) (by omega)).mp c165
                        refine g_bipush C (pc := 180) (-4) dX12_since_180 (by decide) ?_
                        refine g_iret C hR (pc := 182) rfl dX12_since_182 ?_
                        refine ⟨rfl, _, rfl, ?_⟩
                        refine ⟨Or.inl ⟨k, m, ⟨by omega, hmh, hxk, hzm, hu9⟩, Or.inr ⟨hkt, ?_⟩⟩, kJW.trans k139⟩
                        unfold sinA
                        first
                        | (rw [if_pos c143]; exact h34)
                        | (rw [if_neg c143, hnil]; done)
                        | (rw [if_neg c143, hrL]
                           show _ = oI (r.1[(u - 10).toNatClampNeg]?)
                           rw [hui, nI_clamp (show i < 2 ^ 31 by omega), List.getElem?_eq_none (by omega)]; rfl)
                        | (rw [if_neg c143, hrL]
                           show _ = oI (r.1[(u - 10).toNatClampNeg]?)
                           have hg9 := List.getElem?_eq_getElem (l := r.1) (i := i) (by omega)
                           rw [hui, nI_clamp (show i < 2 ^ 31 by omega), hg9]
                           exact (f139.2.2 r L hrL).2 i _ hg9)
                      · replace c165 := (nI_ltI (by omega) (by omega)).mp c165
                        refine g_aload_n C (pc := 168) dX12_since_168 2 rfl ?_
                        refine g_getR C (pc := 169) fl_RX12_59 (by decide) (by first | assumption | rfl | omega) (by first | assumption | rfl | omega) (by first | assumption | rfl | omega) dX12_since_169 ?_
                        refine g_iload_n C (pc := 172) dX12_since_172 5 rfl ?_
                        refine g_bipush C (pc := 173) 10 dX12_since_173 (by decide) ?_
                        refine g_isub C (pc := 175) dX12_since_175 ?_
                        rw [hui]
                        refine g_iald C (pc := 176) (by first | assumption | rfl | omega) (by first | assumption | rfl | omega) (vp_in_nI (by omega) (by decide)) dX12_since_176 ?_
                        rw [nI_clamp (show i < 2 ^ 31 by omega)]
                        refine g_goto C (pc := 177) 182 dX12_since_177 (by decide) ?_
                        refine g_iret C hR (pc := 182) rfl dX12_since_182 ?_
                        refine ⟨rfl, _, rfl, ?_⟩
                        refine ⟨Or.inl ⟨k, m, ⟨by omega, hmh, hxk, hzm, hu9⟩, Or.inr ⟨hkt, ?_⟩⟩, kJW.trans k139⟩
                        unfold sinA
                        first
                        | (rw [if_pos c143]; exact h34)
                        | (rw [if_neg c143, hnil]; done)
                        | (rw [if_neg c143, hrL]
                           show _ = oI (r.1[(u - 10).toNatClampNeg]?)
                           rw [hui, nI_clamp (show i < 2 ^ 31 by omega), List.getElem?_eq_none (by omega)]; rfl)
                        | (rw [if_neg c143, hrL]
                           show _ = oI (r.1[(u - 10).toNatClampNeg]?)
                           have hg9 := List.getElem?_eq_getElem (l := r.1) (i := i) (by omega)
                           rw [hui, nI_clamp (show i < 2 ^ 31 by omega), hg9]
                           exact (f139.2.2 r L hrL).2 i _ hg9)
                  · refine g_aload_n C (pc := 146) dX12_since_146 2 rfl ?_
                    refine g_getI C (pc := 147) fl_RX12_315 (by decide) (by first | assumption | rfl | omega) (by first | assumption | rfl | omega) dX12_since_147 ?_
                    refine g_goto C (pc := 150) 182 dX12_since_150 (by decide) ?_
                    refine g_iret C hR (pc := 182) rfl dX12_since_182 ?_
                    refine ⟨rfl, _, rfl, ?_⟩
                    refine ⟨Or.inl ⟨k, m, ⟨by omega, hmh, hxk, hzm, hu9⟩, Or.inr ⟨hkt, ?_⟩⟩, kJW.trans k139⟩
                    unfold sinA
                    first
                    | (rw [if_pos c143]; exact h34)
                    | (rw [if_neg c143, hnil]; done)
                    | (rw [if_neg c143, hrL]
                       show _ = oI (r.1[(u - 10).toNatClampNeg]?)
                       rw [hui, nI_clamp (show i < 2 ^ 31 by omega), List.getElem?_eq_none (by omega)]; rfl)
                    | (rw [if_neg c143, hrL]
                       show _ = oI (r.1[(u - 10).toNatClampNeg]?)
                       have hg9 := List.getElem?_eq_getElem (l := r.1) (i := i) (by omega)
                       rw [hui, nI_clamp (show i < 2 ^ 31 by omega), hg9]
                       exact (f139.2.2 r L hrL).2 i _ hg9)
                · replace c69 := (nI_ltI (a := j) (b := 6) (by omega) (by decide)).mp c69
                  have hcj : (nI j).toNatClampNeg = j := nI_clamp (by omega)
                  have ix1 : (v60 + 0 + nI j).toNatClampNeg = 41 * (k + 1) + j := by rw [h60, Int32.add_zero, nI_add]; exact nI_clamp (by omega)
                  have ix2 : (v60 + 6 + nI j).toNatClampNeg = 41 * (k + 1) + (6 + j) := by rw [h60, show (6 : Int32) = nI 6 from rfl, nI_add, nI_add]; rw [nI_clamp (by omega)]; omega
                  refine g_aload_n C (pc := 72) dX12_since_72 2 rfl ?_
                  refine g_getR C (pc := 73) fl_RX12_35 (by decide) (by first | assumption | rfl | omega) (by first | assumption | rfl | omega) (by first | assumption | rfl | omega) dX12_since_73 ?_
                  refine g_iload C (pc := 76) dX12_since_76 0 rfl ?_
                  refine g_aload_n C (pc := 78) dX12_since_78 2 rfl ?_
                  refine g_getR C (pc := 79) fl_RX12_7 (by decide) (by first | assumption | rfl | omega) (by first | assumption | rfl | omega) (by first | assumption | rfl | omega) dX12_since_79 ?_
                  refine g_iload C (pc := 82) dX12_since_82 1 rfl ?_
                  refine g_iconst C (pc := 84) 0 dX12_since_84 (by decide) ?_
                  refine g_iadd C (pc := 85) dX12_since_85 ?_
                  refine g_iload C (pc := 86) dX12_since_86 0 rfl ?_
                  refine g_iadd C (pc := 88) dX12_since_88 ?_
                  refine g_iald C (pc := 89) (by first | assumption | rfl | omega) (by first | assumption | rfl | omega) (by rw [h60, Int32.add_zero, nI_add]; exact vp_in_nI (by omega) (by decide)) dX12_since_89 ?_
                  refine g_iast C (pc := 90) (by first | assumption | rfl | omega) (by first | assumption | rfl | omega) hn9 (vp_in_nI (by omega) (by decide)) dX12_since_90 ?_
                  refine g_aload_n C (pc := 91) dX12_since_91 2 rfl ?_
                  refine g_getR C (pc := 92) fl_RX12_38 (by decide) (by first | assumption | rfl | omega) (by first | assumption | rfl | omega) (by first | assumption | rfl | omega) dX12_since_92 ?_
                  refine g_iload C (pc := 95) dX12_since_95 0 rfl ?_
                  refine g_aload_n C (pc := 97) dX12_since_97 2 rfl ?_
                  refine g_getR C (pc := 98) fl_RX12_7 (by decide) (by first | assumption | rfl | omega) (by first | assumption | rfl | omega) (by first | assumption | rfl | omega) dX12_since_98 ?_
                  refine g_iload C (pc := 101) dX12_since_101 1 rfl ?_
                  refine g_bipush C (pc := 103) 6 dX12_since_103 (by decide) ?_
                  refine g_iadd C (pc := 105) dX12_since_105 ?_
                  refine g_iload C (pc := 106) dX12_since_106 0 rfl ?_
                  refine g_iadd C (pc := 108) dX12_since_108 ?_
                  refine g_iald C (pc := 109) (by first | assumption | rfl | omega) (by first | assumption | rfl | omega) (by rw [h60, show (6 : Int32) = nI 6 from rfl, nI_add, nI_add]; exact vp_in_nI (by omega) (by decide)) dX12_since_109 ?_
                  refine g_iast C (pc := 110) (by first | assumption | rfl | omega) (by first | assumption | rfl | omega) hn9 (vp_in_nI (by omega) (by decide)) dX12_since_110 ?_
                  refine g_iinc C (pc := 111) (1) dX12_since_111 0 rfl (by decide) (by decide) (fun v111 => [(5, .int v111), (4, .int v60), (0, .ref 97), (1, .int x), (2, .int z), (3, .int u)]) (fun _ => rfl) (fun v111 ev111 => ?_)
                  refine g_goto C (pc := 114) 65 dX12_since_114 (by decide) ?_
                  refine g_lv C [0, 1, 2, 3, 4, 5] rfl (ih65 (j + 1) _ _ ?_ ?_ ?_ ?_ (by omega))
                  · subst ev111; exact nI_1 _
                  · omega
                  · intro q hq
                    rw [hcj, ix1, ix2]
                    have e98 : wr J 106 j (J 98 (41 * (k + 1) + j)) 98 = J 98 := wr_n (by decide)
                    rw [e98, hF 98 (by decide) (by decide), wr_n (a := 106) (by decide), wr_s, wr_s]
                    rcases Nat.lt_or_ge q j with h1 | h1
                    · rw [upd_n (by omega), upd_n (by omega), wr_n (a := 107) (by decide)]; exact hA q h1
                    · have : q = j := by omega
                      subst this
                      rw [upd_s, upd_s]; exact ⟨rfl, rfl⟩
                  · intro i h1 h2; rw [wr_n h2, wr_n h1]; exact hF i h1 h2
            refine g_lv C [0, 1, 2, 3, 4, 5] rfl (L65 (_ + 1) 0 _ _ ?_ ?_ ?_ ?_ (by first | omega | exact Nat.lt_succ_self _))
            · subst_vars; rfl
            · omega
            · intro q hq; omega
            · intro i _ _; rfl
          · have hkf : kp k = false := by
              cases h9 : kp k with
              | false => rfl
              | true => exact absurd h9 (bI_0.mp c48)
            refine g_bipush C (pc := 51) (-2) dX12_since_51 (by decide) ?_
            refine g_iret C hR (pc := 53) rfl dX12_since_53 ?_
            refine ⟨rfl, _, rfl, ?_⟩
            exact ⟨Or.inl ⟨k, m, ⟨by omega, hmh, hxk, hzm, hu9⟩, Or.inl ⟨hkf, rfl⟩⟩, Kp.rfl'⟩
        · have hu := fun h => bI_0.mp (e34.symm.trans c37) ((inL (x := u) (lo := 10) (hi := 12) (by decide) (by decide)).mpr h)
          refine g_iconst C (pc := 40) (-1) dX12_since_40 (by decide) ?_
          refine g_iret C hR (pc := 41) rfl dX12_since_41 ?_
          refine ⟨rfl, _, rfl, ?_⟩
          refine ⟨Or.inr ⟨?_, rfl⟩, Kp.rfl'⟩
          rintro ⟨k9, m9, h1, h2, h3, h4, h5⟩
          first | exact hx ⟨k9, by omega, by omega, h3⟩ | exact hz ⟨m9, by omega, h2, h4⟩ | exact hu (ask_in h5 c23)
set_option maxHeartbeats 1600000 in
theorem c_X12_blow (n : Nat) (ρ : Rho) (I : Mem) (F : RT) (b : BT) (tn : Nat) (tl : Nat → Nat) (u : Int32) (hn9 : n ≤ 999) (hms : MS n ρ) (hqn : QN I F b) (hrw : RW F) (hbw : BW F b) (hl1 : L1 F b) (hpw : PW F b) (htn : I 98 37 = nI tn) (ht3 : tn ≤ 3) (htl : ∀ q, q < tn → I 98 (38 + q) = nI (tl q) ∧ tl q < 5) : MI yX12_blow cX12_blow 8 (some .int) 6 [.ref 97, .int u] n ρ I (fun v I1 => ((¬ (u = 0 ∨ (10 ≤ u ∧ u ≤ 12)) ∧ v = -1) ∨ ((u = 0 ∨ (10 ≤ u ∧ u ≤ 12)) ∧ ((¬ lostB F b = none ∧ v = -2) ∨ (lostB F b = none ∧ v = blwA F b tn tl u)))) ∧ Kp I I1) := by
  refine MG.of (by decide +kernel) (Nat.le_of_ble_eq_true rfl) hn9 ?_
  intro κ C hR
  show G κ n ρ 0 [(0, .ref 97), (1, .int u)] [] I
  obtain ⟨mn, ⟨m0, m1, m5, m6, m7, m11, m12, m15⟩, ⟨m23, m24, m26, m27, m28, m30, m31, m32, m33⟩, ⟨m38, m39, m40, m42⟩⟩ := id hms
  obtain ⟨hqf, hqe, hqs, hqt⟩ := id hqn
  obtain ⟨qw, qh, qn, qk⟩ := id hqf
  have hn6 : rN F ≤ 6 := hrw.2.2.2.2.1
  have hm25 := Nat.mul_le_mul hrw.2.1 hrw.2.2.2.1
  have hm4 := Nat.mul_le_mul hrw.1 hrw.2.2.1
  refine g_iload_n C (pc := 0) dX12_blow_0 1 rfl ?_
  refine g_if_eq C (pc := 1) 20 dX12_blow_1 (by decide) (fun c1 => ?_) (fun c1 => ?_)
  · have hu9 : u = 0 ∨ (10 ≤ u ∧ u ≤ 12) := Or.inl c1
    refine g_aload_n C (pc := 20) dX12_blow_20 0 rfl ?_
    refine g_callVV C (pc := 21) mf_X12_starts lk_RX12_227 (c_X12_startsB n ρ I F b hn9 hms hqn hrw hbw) (by decide) (Nat.le_refl _) rfl (by first | assumption | rfl | omega) rfl (by first | assumption | rfl | omega) (Nat.le_of_ble_eq_true rfl) dX12_blow_21 (fun I21 h21 => ?_)
    obtain ⟨f21, k21⟩ := h21
    refine g_aload_n C (pc := 24) dX12_blow_24 0 rfl ?_
    refine g_callVI C (pc := 25) mf_X12_lost lk_RX12_221 (c_X12_lost n ρ I21 F b hn9 hms (hqf.kp k21) hrw f21 hbw hl1) (by decide) (Nat.le_refl _) rfl (by first | assumption | rfl | omega) rfl (by first | assumption | rfl | omega) (Nat.le_of_ble_eq_true rfl) dX12_blow_25 (fun v25 I25 h25 => ?_)
    obtain ⟨e25, rfl⟩ := h25
    refine g_bipush C (pc := 28) (-4) dX12_blow_28 (by decide) ?_
    refine g_icmp_eq C (pc := 30) 36 dX12_blow_30 (by decide) (fun c30 => ?_) (fun c30 => ?_)
    · have hov : lostB F b = none := (oI_none (lostB_lt2 hrw)).mp (e25.symm.trans c30)
      refine g_aload_n C (pc := 36) dX12_blow_36 0 rfl ?_
      refine g_getR C (pc := 37) fl_RX12_7 (by decide) (by first | assumption | rfl | omega) (by first | assumption | rfl | omega) (by first | assumption | rfl | omega) dX12_blow_37 ?_
      refine g_bipush C (pc := 40) 37 dX12_blow_40 (by decide) ?_
      refine g_iald C (pc := 42) (by first | assumption | rfl | omega) (by first | assumption | rfl | omega) (vp_in_nI (n := 37) (by decide) (by decide)) dX12_blow_42 ?_
      refine g_istore_n C (pc := 43) dX12_blow_43 (by decide) (fun v43 => [(2, .int v43), (0, .ref 97), (1, .int u)]) (fun _ => rfl) (fun v43 ev43 => ?_)
      have h43 : v43 = nI tn := by rw [ev43, k21.2 98 (by decide)]; exact htn
      refine g_iload_n C (pc := 44) dX12_blow_44 0 rfl ?_
      refine g_if_ne C (pc := 45) 52 dX12_blow_45 (by decide) (fun c45 => ?_) (fun c45 => ?_)
      · refine g_iload_n C (pc := 52) dX12_blow_52 0 rfl ?_
        refine g_iconst C (pc := 53) 1 dX12_blow_53 (by decide) ?_
        refine g_icmp_ne C (pc := 54) 61 dX12_blow_54 (by decide) (fun c54 => ?_) (fun c54 => ?_)
        · refine g_iload_n C (pc := 61) dX12_blow_61 0 rfl ?_
          refine g_iconst C (pc := 62) 2 dX12_blow_62 (by decide) ?_
          refine g_icmp_ne C (pc := 63) 71 dX12_blow_63 (by decide) (fun c63 => ?_) (fun c63 => ?_)
          · have h73a : (125 : Int32) = nI (rwN tn) := by
              have h0 : tn ≠ 0 := fun h => c45 (by rw [h43, h]; rfl)
              have h1 : tn ≠ 1 := fun h => c54 (by rw [h43, h]; rfl)
              have h2 : tn ≠ 2 := fun h => c63 (by rw [h43, h]; rfl)
              have : tn = 3 := by omega
              subst this; rfl
            refine g_bipush C (pc := 71) 125 dX12_blow_71 (by decide) ?_
            refine g_istore_n C (pc := 73) dX12_blow_73 (by decide) (fun v73 => [(3, .int v73), (2, .int v43), (0, .ref 97), (1, .int u)]) (fun _ => rfl) (fun v73 ev73 => ?_)
            have h73 : v73 = nI (rwN tn) := ev73.trans h73a
            refine g_ldc_w C (pc := 74) _ gk_RX12_342 dX12_blow_74 ?_
            refine g_istore C (pc := 77) dX12_blow_77 (by decide) (fun v77 => [(4, .int v77), (3, .int v73), (2, .int v43), (0, .ref 97), (1, .int u)]) (fun _ => rfl) (fun v77 ev77 => ?_)
            refine g_bipush C (pc := 79) (-4) dX12_blow_79 (by decide) ?_
            refine g_istore C (pc := 81) dX12_blow_81 (by decide) (fun v81 => [(5, .int v81), (4, .int v77), (3, .int v73), (2, .int v43), (0, .ref 97), (1, .int u)]) (fun _ => rfl) (fun v81 ev81 => ?_)
            refine g_iconst C (pc := 83) 0 dX12_blow_83 (by decide) ?_
            refine g_istore C (pc := 84) dX12_blow_84 (by decide) (fun v84 => [(6, .int v84), (5, .int v81), (4, .int v77), (3, .int v73), (2, .int v43), (0, .ref 97), (1, .int u)]) (fun _ => rfl) (fun v84 ev84 => ?_)
            have L86 : ∀ (k9 : Nat) (j : Nat) (wz6 : Int32) (wz5 : Int32) (wz4 : Int32) (J : Mem) (hw6 : wz6 = nI j) (hj : j ≤ rwN tn) (h4 : wz4 = fwI (blowF F b tn tl j)) (h5 : wz5 = fdI (blowF F b tn tl j)) (hkJ : Kp I J), rwN tn - j < k9 → G κ n ρ 86 [(6, .int wz6), (5, .int wz5), (4, .int wz4), (3, .int v73), (2, .int v43), (0, .ref 97), (1, .int u)] [] J := by
              intro k9
              induction k9 with
              | zero => intro j wz6 wz5 wz4 J hw6 hj h4 h5 hkJ hm86; exact absurd hm86 (Nat.not_lt_zero _)
              | succ k9 ih86 =>
                intro j wz6 wz5 wz4 J hw6 hj h4 h5 hkJ hm86
                subst hw6
                have hr125 := rwN_le ht3
                refine g_iload C (pc := 86) dX12_blow_86 0 rfl ?_
                refine g_iload_n C (pc := 88) dX12_blow_88 3 rfl ?_
                refine g_icmp_ge C (pc := 89) 156 dX12_blow_89 (by decide) (fun c89 => ?_) (fun c89 => ?_)
                · have hjr : j = rwN tn := by
                    rw [h73, nI_leI (by omega) (by omega)] at c89
                    omega
                  subst hjr
                  rw [rwN_all hov] at h4 h5
                  refine g_iload C (pc := 156) dX12_blow_156 1 rfl ?_
                  refine g_bipush C (pc := 158) (-4) dX12_blow_158 (by decide) ?_
                  refine g_icmp_eq C (pc := 160) 167 dX12_blow_160 (by decide) (fun c160 => ?_) (fun c160 => ?_)
                  · have hbf : blowF F b tn tl (pw 5 tn) = none := by
                      cases h9 : blowF F b tn tl (pw 5 tn) with
                      | none => rfl
                      | some q =>
                        obtain ⟨f9, k9⟩ := q
                        have h8 := blowF_le h9
                        have hp9 : pw 5 tn ≤ 125 := by
                          have h7 : ∀ t, t ≤ 3 → pw 5 t ≤ 125 := by decide
                          exact h7 tn ht3
                        rw [h5, h9] at c160; exact absurd c160 (nI_ne4 (by omega))
                    refine g_iload C (pc := 167) dX12_blow_167 1 rfl ?_
                    refine g_bipush C (pc := 169) (-4) dX12_blow_169 (by decide) ?_
                    refine g_icmp_ne C (pc := 171) 179 dX12_blow_171 (by decide) (fun c171 => ?_) (fun c171 => ?_)
                    · exact absurd c160 c171
                    · refine g_bipush C (pc := 174) (-4) dX12_blow_174 (by decide) ?_
                      refine g_goto C (pc := 176) 181 dX12_blow_176 (by decide) ?_
                      refine g_iret C hR (pc := 181) rfl dX12_blow_181 ?_
                      refine ⟨rfl, _, rfl, ?_⟩
                      refine ⟨Or.inr ⟨hu9, Or.inr ⟨hov, ?_⟩⟩, hkJ⟩
                      unfold blwA
                      first
                      | (rw [hbf]; done)
                      | (rw [hbf]
                         show _ = if u = 0 then nI ff else _
                         rw [if_pos c164, h4, hbf]; rfl)
                  · obtain ⟨ff, kf, hbf⟩ : ∃ ff kf, blowF F b tn tl (pw 5 tn) = some (ff, kf) := by
                      cases h9 : blowF F b tn tl (pw 5 tn) with
                      | none => exact absurd (h5.trans (by rw [h9]; rfl)) c160
                      | some q => exact ⟨q.1, q.2, rfl⟩
                    have hp9 : pw 5 tn ≤ 125 := by
                      have h7 : ∀ t, t ≤ 3 → pw 5 t ≤ 125 := by decide
                      exact h7 tn ht3
                    have hbl := blowF_le hbf
                    refine g_iload_n C (pc := 163) dX12_blow_163 6 rfl ?_
                    refine g_if_ne C (pc := 164) 182 dX12_blow_164 (by decide) (fun c164 => ?_) (fun c164 => ?_)
                    · obtain ⟨i, hi3, hui⟩ := asked_of hu9 c164
                      refine g_aload_n C (pc := 182) dX12_blow_182 5 rfl ?_
                      refine g_iload C (pc := 183) dX12_blow_183 1 rfl ?_
                      refine g_iload_n C (pc := 185) dX12_blow_185 4 rfl ?_
                      refine g_callVI C (pc := 186) mf_X12_blownOf lk_RX12_343 (c_X12_blownOf n ρ J kf tn tl _ _ hn9 hms ht3 (fun q hq => by rw [hkJ.2 98 (by decide)]; exact htl q hq) (by omega) (h5.trans (by rw [hbf]; rfl)) h43) (by decide) (Nat.le_refl _) rfl (by first | assumption | rfl | omega) rfl (by first | assumption | rfl | omega) (Nat.le_of_ble_eq_true rfl) dX12_blow_186 (fun v186 I186 h186 => ?_)
                      obtain ⟨e186, d186, i186, g186⟩ := h186
                      refine g_pop C (pc := 189) dX12_blow_189 rfl ?_
                      refine g_iload_n C (pc := 190) dX12_blow_190 6 rfl ?_
                      refine g_bipush C (pc := 191) 10 dX12_blow_191 (by decide) ?_
                      refine g_isub C (pc := 193) dX12_blow_193 ?_
                      refine g_iload_n C (pc := 194) dX12_blow_194 4 rfl ?_
                      rw [hui, h43]
                      refine g_icmp_ge C (pc := 195) 210 dX12_blow_195 (by decide) (fun c195 => ?_) (fun c195 => ?_)
                      · replace c195 := (nI_leI (by omega) (by omega)).mp c195
                        refine g_bipush C (pc := 210) (-4) dX12_blow_210 (by decide) ?_
                        refine g_iret C hR (pc := 212) rfl dX12_blow_212 ?_
                        refine ⟨rfl, _, rfl, ?_⟩
                        have k186 : Kp J I186 := ⟨fun z9 hz9 => by rw [g186 97 (by decide)], fun i hi => g186 i (by omega)⟩
                        refine ⟨Or.inr ⟨hu9, Or.inr ⟨hov, ?_⟩⟩, hkJ.trans k186⟩
                        unfold blwA
                        rw [hbf]
                        show _ = if u = 0 then nI ff else if (u - 10).toNatClampNeg < tn then nI (dig5 tn kf (u - 10).toNatClampNeg) else -4
                        rw [if_neg c164, hui, nI_clamp (show i < 2 ^ 31 by omega)]
                        first
                        | (rw [if_neg (by omega)]; done)
                        | (rw [if_pos c195]; exact d186 i c195)
                      · replace c195 := (nI_ltI (by omega) (by omega)).mp c195
                        refine g_aload_n C (pc := 198) dX12_blow_198 5 rfl ?_
                        refine g_getR C (pc := 199) fl_RX12_56 (by decide) (by first | assumption | rfl | omega) (by first | assumption | rfl | omega) (by first | assumption | rfl | omega) dX12_blow_199 ?_
                        refine g_iload_n C (pc := 202) dX12_blow_202 6 rfl ?_
                        refine g_bipush C (pc := 203) 10 dX12_blow_203 (by decide) ?_
                        refine g_isub C (pc := 205) dX12_blow_205 ?_
                        rw [hui]
                        refine g_iald C (pc := 206) (by first | assumption | rfl | omega) (by first | assumption | rfl | omega) (vp_in_nI (by omega) (by decide)) dX12_blow_206 ?_
                        rw [nI_clamp (show i < 2 ^ 31 by omega)]
                        refine g_goto C (pc := 207) 212 dX12_blow_207 (by decide) ?_
                        refine g_iret C hR (pc := 212) rfl dX12_blow_212 ?_
                        refine ⟨rfl, _, rfl, ?_⟩
                        have k186 : Kp J I186 := ⟨fun z9 hz9 => by rw [g186 97 (by decide)], fun i hi => g186 i (by omega)⟩
                        refine ⟨Or.inr ⟨hu9, Or.inr ⟨hov, ?_⟩⟩, hkJ.trans k186⟩
                        unfold blwA
                        rw [hbf]
                        show _ = if u = 0 then nI ff else if (u - 10).toNatClampNeg < tn then nI (dig5 tn kf (u - 10).toNatClampNeg) else -4
                        rw [if_neg c164, hui, nI_clamp (show i < 2 ^ 31 by omega)]
                        first
                        | (rw [if_neg (by omega)]; done)
                        | (rw [if_pos c195]; exact d186 i c195)
                    · refine g_iload C (pc := 167) dX12_blow_167 1 rfl ?_
                      refine g_bipush C (pc := 169) (-4) dX12_blow_169 (by decide) ?_
                      refine g_icmp_ne C (pc := 171) 179 dX12_blow_171 (by decide) (fun c171 => ?_) (fun c171 => ?_)
                      · refine g_iload C (pc := 179) dX12_blow_179 2 rfl ?_
                        refine g_iret C hR (pc := 181) rfl dX12_blow_181 ?_
                        refine ⟨rfl, _, rfl, ?_⟩
                        refine ⟨Or.inr ⟨hu9, Or.inr ⟨hov, ?_⟩⟩, hkJ⟩
                        unfold blwA
                        first
                        | (rw [hbf]; done)
                        | (rw [hbf]
                           show _ = if u = 0 then nI ff else _
                           rw [if_pos c164, h4, hbf]; rfl)
                      · exact absurd c171 c160
                · rw [h73, nI_ltI (by omega) (by omega)] at c89
                  refine g_aload_n C (pc := 92) dX12_blow_92 5 rfl ?_
                  refine g_iload C (pc := 93) dX12_blow_93 0 rfl ?_
                  refine g_iload_n C (pc := 95) dX12_blow_95 4 rfl ?_
                  refine g_callVI C (pc := 96) mf_X12_blownOf lk_RX12_343 (c_X12_blownOf n ρ J j tn tl _ _ hn9 hms ht3 (fun q hq => by rw [hkJ.2 98 (by decide)]; exact htl q hq) (by omega) rfl h43) (by decide) (Nat.le_refl _) rfl (by first | assumption | rfl | omega) rfl (by first | assumption | rfl | omega) (Nat.le_of_ble_eq_true rfl) dX12_blow_96 (fun v96 I96 h96 => ?_)
                  obtain ⟨e96, d96, i96, g96⟩ := h96
                  have k96 : Kp J I96 := ⟨fun z9 hz9 => by rw [g96 97 (by decide)], fun i hi => g96 i (by omega)⟩
                  refine g_istore C (pc := 99) dX12_blow_99 (by decide) (fun v99 => [(7, .int v99), (6, .int (nI j)), (5, .int wz5), (4, .int wz4), (3, .int v73), (2, .int v43), (0, .ref 97), (1, .int u)]) (fun _ => rfl) (fun v99 ev99 => ?_)
                  refine g_iload C (pc := 101) dX12_blow_101 0 rfl ?_
                  refine g_iload C (pc := 103) dX12_blow_103 3 rfl ?_
                  refine g_icmp_ge C (pc := 105) 150 dX12_blow_105 (by decide) (fun c105 => ?_) (fun c105 => ?_)
                  · have hst : blowF F b tn tl (j + 1) = blowF F b tn tl j := blow_t (by rw [← h4, ← e96, ← ev99]; exact c105) ht3
                    refine g_iinc C (pc := 150) (1) dX12_blow_150 1 rfl (by decide) (by decide) (fun v150 => [(6, .int v150), (7, .int v99), (5, .int wz5), (4, .int wz4), (3, .int v73), (2, .int v43), (0, .ref 97), (1, .int u)]) (fun _ => rfl) (fun v150 ev150 => ?_)
                    refine g_goto C (pc := 153) 86 dX12_blow_153 (by decide) ?_
                    refine g_lv C [0, 2, 3, 4, 5, 6, 7] rfl (ih86 (j + 1) _ _ _ _ ?_ ?_ ?_ ?_ ?_ (by omega))
                    · subst ev150; exact nI_1 _
                    · omega
                    · first | (rw [hst]; exact h4) | (rw [hst, ev148, if_pos hcan, ev99]; exact e96) | (rw [hst, ev148, if_neg hcan]; exact h4)
                    · first | (rw [hst]; exact h5) | (rw [hst, ev132, if_pos hcan]; rfl) | (rw [hst, ev132, if_neg hcan]; exact h5)
                    · first | exact (hkJ.trans k96).trans (k109.trans k115) | exact hkJ.trans k96
                  · have hst := blow_f (F := F) (b := b) (m := tn) (c := j) (tl := tl) (by rw [← h4, ← e96, ← ev99]; exact c105) ht3
                    refine g_aload_n C (pc := 108) dX12_blow_108 6 rfl ?_
                    refine g_callVV C (pc := 109) mf_X12_starts lk_RX12_227 (c_X12_starts n ρ I96 hn9 hms) (by decide) (Nat.le_refl _) rfl (by first | assumption | rfl | omega) rfl (by first | assumption | rfl | omega) (Nat.le_of_ble_eq_true rfl) dX12_blow_109 (fun I109 h109 => ?_)
                    obtain ⟨a109, b109, d109, g109⟩ := h109
                    have hq2 : QN I96 F b := hqn.kp (hkJ.trans k96)
                    have f109 : QB I109 F b := ⟨fun p hp => by rw [(a109 p (by omega)).1, (a109 p (by omega)).2]; exact hq2.2.2.1 p hp, b109.trans hq2.2.2.2⟩
                    have k109 : Kp I96 I109 := Kp.qb d109 g109
                    have s109 : I109 113 = I96 113 := g109 113 (by decide) (by decide) (by decide)
                    refine g_aload_n C (pc := 112) dX12_blow_112 6 rfl ?_
                    refine g_iload_n C (pc := 113) dX12_blow_113 5 rfl ?_
                    refine g_iconst C (pc := 114) 2 dX12_blow_114 (by decide) ?_
                    refine g_callVV C (pc := 115) mf_X12_findRows lk_RX12_339 (c_X12_findRowsB n ρ I109 F b (dig5 tn j) tn _ 2 hn9 hms (hqf.kp ((hkJ.trans k96).trans k109)) hrw (hqe.kp ((hkJ.trans k96).trans k109)) f109 hbw hl1 hpw h43 ht3 rfl (fun q hq => ⟨by rw [s109]; exact d96 q hq, by unfold dig5; exact Nat.mod_lt _ (by decide)⟩) hov) (by decide) (Nat.le_refl _) rfl (by first | assumption | rfl | omega) rfl (by first | assumption | rfl | omega) (Nat.le_of_ble_eq_true rfl) dX12_blow_115 (fun I115 h115 => ?_)
                    obtain ⟨f115, k115⟩ := h115
                    rw [wdL_dig] at f115
                    refine g_aload_n C (pc := 118) dX12_blow_118 6 rfl ?_
                    refine g_getI C (pc := 119) fl_RX12_325 (by decide) (by first | assumption | rfl | omega) (by first | assumption | rfl | omega) dX12_blow_119 ?_
                    refine g_if_eq C (pc := 122) 130 dX12_blow_122 (by decide) (fun c122 => ?_) (fun c122 => ?_)
                    · have hcan : ¬ canB F (bM b) (digL tn j) b = true := bI_0.mp (f115.symm.trans c122)
                      refine g_iload C (pc := 130) dX12_blow_130 2 rfl ?_
                      refine g_istore C (pc := 132) dX12_blow_132 (by decide) (fun v132 => [(5, .int v132), (7, .int v99), (6, .int (nI j)), (4, .int wz4), (3, .int v73), (2, .int v43), (0, .ref 97), (1, .int u)]) (fun _ => rfl) (fun v132 ev132 => ?_)
                      refine g_aload_n C (pc := 134) dX12_blow_134 6 rfl ?_
                      refine g_getI C (pc := 135) fl_RX12_325 (by decide) (by first | assumption | rfl | omega) (by first | assumption | rfl | omega) dX12_blow_135 ?_
                      refine g_if_eq C (pc := 138) 146 dX12_blow_138 (by decide) (fun c138 => ?_) (fun c138 => ?_)
                      · refine g_iload C (pc := 146) dX12_blow_146 3 rfl ?_
                        refine g_istore C (pc := 148) dX12_blow_148 (by decide) (fun v148 => [(4, .int v148), (5, .int v132), (7, .int v99), (6, .int (nI j)), (3, .int v73), (2, .int v43), (0, .ref 97), (1, .int u)]) (fun _ => rfl) (fun v148 ev148 => ?_)
                        refine g_iinc C (pc := 150) (1) dX12_blow_150 3 rfl (by decide) (by decide) (fun v150 => [(6, .int v150), (4, .int v148), (5, .int v132), (7, .int v99), (3, .int v73), (2, .int v43), (0, .ref 97), (1, .int u)]) (fun _ => rfl) (fun v150 ev150 => ?_)
                        refine g_goto C (pc := 153) 86 dX12_blow_153 (by decide) ?_
                        refine g_lv C [0, 2, 1, 4, 5, 6, 7] rfl (ih86 (j + 1) _ _ _ _ ?_ ?_ ?_ ?_ ?_ (by omega))
                        · subst ev150; exact nI_1 _
                        · omega
                        · first | (rw [hst]; exact h4) | (rw [hst, ev148, if_pos hcan, ev99]; exact e96) | (rw [hst, ev148, if_neg hcan]; exact h4)
                        · first | (rw [hst]; exact h5) | (rw [hst, ev132, if_pos hcan]; rfl) | (rw [hst, ev132, if_neg hcan]; exact h5)
                        · first | exact (hkJ.trans k96).trans (k109.trans k115) | exact hkJ.trans k96
                      · exact absurd c122 c138
                    · have hcan : canB F (bM b) (digL tn j) b = true := bI_1.mp (fun h => c122 (f115.trans h))
                      refine g_iload C (pc := 125) dX12_blow_125 1 rfl ?_
                      refine g_goto C (pc := 127) 132 dX12_blow_127 (by decide) ?_
                      refine g_istore C (pc := 132) dX12_blow_132 (by decide) (fun v132 => [(5, .int v132), (7, .int v99), (6, .int (nI j)), (4, .int wz4), (3, .int v73), (2, .int v43), (0, .ref 97), (1, .int u)]) (fun _ => rfl) (fun v132 ev132 => ?_)
                      refine g_aload_n C (pc := 134) dX12_blow_134 6 rfl ?_
                      refine g_getI C (pc := 135) fl_RX12_325 (by decide) (by first | assumption | rfl | omega) (by first | assumption | rfl | omega) dX12_blow_135 ?_
                      refine g_if_eq C (pc := 138) 146 dX12_blow_138 (by decide) (fun c138 => ?_) (fun c138 => ?_)
                      · exact absurd c138 c122
                      · refine g_iload C (pc := 141) dX12_blow_141 1 rfl ?_
                        refine g_goto C (pc := 143) 148 dX12_blow_143 (by decide) ?_
                        refine g_istore C (pc := 148) dX12_blow_148 (by decide) (fun v148 => [(4, .int v148), (5, .int v132), (7, .int v99), (6, .int (nI j)), (3, .int v73), (2, .int v43), (0, .ref 97), (1, .int u)]) (fun _ => rfl) (fun v148 ev148 => ?_)
                        refine g_iinc C (pc := 150) (1) dX12_blow_150 3 rfl (by decide) (by decide) (fun v150 => [(6, .int v150), (4, .int v148), (5, .int v132), (7, .int v99), (3, .int v73), (2, .int v43), (0, .ref 97), (1, .int u)]) (fun _ => rfl) (fun v150 ev150 => ?_)
                        refine g_goto C (pc := 153) 86 dX12_blow_153 (by decide) ?_
                        refine g_lv C [0, 2, 1, 4, 5, 6, 7] rfl (ih86 (j + 1) _ _ _ _ ?_ ?_ ?_ ?_ ?_ (by omega))
                        · subst ev150; exact nI_1 _
                        · omega
                        · first | (rw [hst]; exact h4) | (rw [hst, ev148, if_pos hcan, ev99]; exact e96) | (rw [hst, ev148, if_neg hcan]; exact h4)
                        · first | (rw [hst]; exact h5) | (rw [hst, ev132, if_pos hcan]; rfl) | (rw [hst, ev132, if_neg hcan]; exact h5)
                        · first | exact (hkJ.trans k96).trans (k109.trans k115) | exact hkJ.trans k96
            refine g_lv C [0, 1, 2, 3, 4, 5, 6] rfl (L86 (_ + 1) 0 _ _ _ _ ?_ ?_ ?_ ?_ ?_ (by first | omega | exact Nat.lt_succ_self _))
            · subst ev84; rfl
            · omega
            · subst ev77; rfl
            · subst ev81; rfl
            · exact k21
          · have h73a : (25 : Int32) = nI (rwN tn) := by
              have : tn = 2 := (nI_eq (b := 2) (by omega) (by decide)).mp (h43.symm.trans c63)
              subst this; rfl
            refine g_bipush C (pc := 66) 25 dX12_blow_66 (by decide) ?_
            refine g_goto C (pc := 68) 73 dX12_blow_68 (by decide) ?_
            refine g_istore_n C (pc := 73) dX12_blow_73 (by decide) (fun v73 => [(3, .int v73), (2, .int v43), (0, .ref 97), (1, .int u)]) (fun _ => rfl) (fun v73 ev73 => ?_)
            have h73 : v73 = nI (rwN tn) := ev73.trans h73a
            refine g_ldc_w C (pc := 74) _ gk_RX12_342 dX12_blow_74 ?_
            refine g_istore C (pc := 77) dX12_blow_77 (by decide) (fun v77 => [(4, .int v77), (3, .int v73), (2, .int v43), (0, .ref 97), (1, .int u)]) (fun _ => rfl) (fun v77 ev77 => ?_)
            refine g_bipush C (pc := 79) (-4) dX12_blow_79 (by decide) ?_
            refine g_istore C (pc := 81) dX12_blow_81 (by decide) (fun v81 => [(5, .int v81), (4, .int v77), (3, .int v73), (2, .int v43), (0, .ref 97), (1, .int u)]) (fun _ => rfl) (fun v81 ev81 => ?_)
            refine g_iconst C (pc := 83) 0 dX12_blow_83 (by decide) ?_
            refine g_istore C (pc := 84) dX12_blow_84 (by decide) (fun v84 => [(6, .int v84), (5, .int v81), (4, .int v77), (3, .int v73), (2, .int v43), (0, .ref 97), (1, .int u)]) (fun _ => rfl) (fun v84 ev84 => ?_)
            have L86 : ∀ (k9 : Nat) (j : Nat) (wz6 : Int32) (wz5 : Int32) (wz4 : Int32) (J : Mem) (hw6 : wz6 = nI j) (hj : j ≤ rwN tn) (h4 : wz4 = fwI (blowF F b tn tl j)) (h5 : wz5 = fdI (blowF F b tn tl j)) (hkJ : Kp I J), rwN tn - j < k9 → G κ n ρ 86 [(6, .int wz6), (5, .int wz5), (4, .int wz4), (3, .int v73), (2, .int v43), (0, .ref 97), (1, .int u)] [] J := by
              intro k9
              induction k9 with
              | zero => intro j wz6 wz5 wz4 J hw6 hj h4 h5 hkJ hm86; exact absurd hm86 (Nat.not_lt_zero _)
              | succ k9 ih86 =>
                intro j wz6 wz5 wz4 J hw6 hj h4 h5 hkJ hm86
                subst hw6
                have hr125 := rwN_le ht3
                refine g_iload C (pc := 86) dX12_blow_86 0 rfl ?_
                refine g_iload_n C (pc := 88) dX12_blow_88 3 rfl ?_
                refine g_icmp_ge C (pc := 89) 156 dX12_blow_89 (by decide) (fun c89 => ?_) (fun c89 => ?_)
                · have hjr : j = rwN tn := by
                    rw [h73, nI_leI (by omega) (by omega)] at c89
                    omega
                  subst hjr
                  rw [rwN_all hov] at h4 h5
                  refine g_iload C (pc := 156) dX12_blow_156 1 rfl ?_
                  refine g_bipush C (pc := 158) (-4) dX12_blow_158 (by decide) ?_
                  refine g_icmp_eq C (pc := 160) 167 dX12_blow_160 (by decide) (fun c160 => ?_) (fun c160 => ?_)
                  · have hbf : blowF F b tn tl (pw 5 tn) = none := by
                      cases h9 : blowF F b tn tl (pw 5 tn) with
                      | none => rfl
                      | some q =>
                        obtain ⟨f9, k9⟩ := q
                        have h8 := blowF_le h9
                        have hp9 : pw 5 tn ≤ 125 := by
                          have h7 : ∀ t, t ≤ 3 → pw 5 t ≤ 125 := by decide
                          exact h7 tn ht3
                        rw [h5, h9] at c160; exact absurd c160 (nI_ne4 (by omega))
                    refine g_iload C (pc := 167) dX12_blow_167 1 rfl ?_
                    refine g_bipush C (pc := 169) (-4) dX12_blow_169 (by decide) ?_
                    refine g_icmp_ne C (pc := 171) 179 dX12_blow_171 (by decide) (fun c171 => ?_) (fun c171 => ?_)
                    · exact absurd c160 c171
                    · refine g_bipush C (pc := 174) (-4) dX12_blow_174 (by decide) ?_
                      refine g_goto C (pc := 176) 181 dX12_blow_176 (by decide) ?_
                      refine g_iret C hR (pc := 181) rfl dX12_blow_181 ?_
                      refine ⟨rfl, _, rfl, ?_⟩
                      refine ⟨Or.inr ⟨hu9, Or.inr ⟨hov, ?_⟩⟩, hkJ⟩
                      unfold blwA
                      first
                      | (rw [hbf]; done)
                      | (rw [hbf]
                         show _ = if u = 0 then nI ff else _
                         rw [if_pos c164, h4, hbf]; rfl)
                  · obtain ⟨ff, kf, hbf⟩ : ∃ ff kf, blowF F b tn tl (pw 5 tn) = some (ff, kf) := by
                      cases h9 : blowF F b tn tl (pw 5 tn) with
                      | none => exact absurd (h5.trans (by rw [h9]; rfl)) c160
                      | some q => exact ⟨q.1, q.2, rfl⟩
                    have hp9 : pw 5 tn ≤ 125 := by
                      have h7 : ∀ t, t ≤ 3 → pw 5 t ≤ 125 := by decide
                      exact h7 tn ht3
                    have hbl := blowF_le hbf
                    refine g_iload_n C (pc := 163) dX12_blow_163 6 rfl ?_
                    refine g_if_ne C (pc := 164) 182 dX12_blow_164 (by decide) (fun c164 => ?_) (fun c164 => ?_)
                    · obtain ⟨i, hi3, hui⟩ := asked_of hu9 c164
                      refine g_aload_n C (pc := 182) dX12_blow_182 5 rfl ?_
                      refine g_iload C (pc := 183) dX12_blow_183 1 rfl ?_
                      refine g_iload_n C (pc := 185) dX12_blow_185 4 rfl ?_
                      refine g_callVI C (pc := 186) mf_X12_blownOf lk_RX12_343 (c_X12_blownOf n ρ J kf tn tl _ _ hn9 hms ht3 (fun q hq => by rw [hkJ.2 98 (by decide)]; exact htl q hq) (by omega) (h5.trans (by rw [hbf]; rfl)) h43) (by decide) (Nat.le_refl _) rfl (by first | assumption | rfl | omega) rfl (by first | assumption | rfl | omega) (Nat.le_of_ble_eq_true rfl) dX12_blow_186 (fun v186 I186 h186 => ?_)
                      obtain ⟨e186, d186, i186, g186⟩ := h186
                      refine g_pop C (pc := 189) dX12_blow_189 rfl ?_
                      refine g_iload_n C (pc := 190) dX12_blow_190 6 rfl ?_
                      refine g_bipush C (pc := 191) 10 dX12_blow_191 (by decide) ?_
                      refine g_isub C (pc := 193) dX12_blow_193 ?_
                      refine g_iload_n C (pc := 194) dX12_blow_194 4 rfl ?_
                      rw [hui, h43]
                      refine g_icmp_ge C (pc := 195) 210 dX12_blow_195 (by decide) (fun c195 => ?_) (fun c195 => ?_)
                      · replace c195 := (nI_leI (by omega) (by omega)).mp c195
                        refine g_bipush C (pc := 210) (-4) dX12_blow_210 (by decide) ?_
                        refine g_iret C hR (pc := 212) rfl dX12_blow_212 ?_
                        refine ⟨rfl, _, rfl, ?_⟩
                        have k186 : Kp J I186 := ⟨fun z9 hz9 => by rw [g186 97 (by decide)], fun i hi => g186 i (by omega)⟩
                        refine ⟨Or.inr ⟨hu9, Or.inr ⟨hov, ?_⟩⟩, hkJ.trans k186⟩
                        unfold blwA
                        rw [hbf]
                        show _ = if u = 0 then nI ff else if (u - 10).toNatClampNeg < tn then nI (dig5 tn kf (u - 10).toNatClampNeg) else -4
                        rw [if_neg c164, hui, nI_clamp (show i < 2 ^ 31 by omega)]
                        first
                        | (rw [if_neg (by omega)]; done)
                        | (rw [if_pos c195]; exact d186 i c195)
                      · replace c195 := (nI_ltI (by omega) (by omega)).mp c195
                        refine g_aload_n C (pc := 198) dX12_blow_198 5 rfl ?_
                        refine g_getR C (pc := 199) fl_RX12_56 (by decide) (by first | assumption | rfl | omega) (by first | assumption | rfl | omega) (by first | assumption | rfl | omega) dX12_blow_199 ?_
                        refine g_iload_n C (pc := 202) dX12_blow_202 6 rfl ?_
                        refine g_bipush C (pc := 203) 10 dX12_blow_203 (by decide) ?_
                        refine g_isub C (pc := 205) dX12_blow_205 ?_
                        rw [hui]
                        refine g_iald C (pc := 206) (by first | assumption | rfl | omega) (by first | assumption | rfl | omega) (vp_in_nI (by omega) (by decide)) dX12_blow_206 ?_
                        rw [nI_clamp (show i < 2 ^ 31 by omega)]
                        refine g_goto C (pc := 207) 212 dX12_blow_207 (by decide) ?_
                        refine g_iret C hR (pc := 212) rfl dX12_blow_212 ?_
                        refine ⟨rfl, _, rfl, ?_⟩
                        have k186 : Kp J I186 := ⟨fun z9 hz9 => by rw [g186 97 (by decide)], fun i hi => g186 i (by omega)⟩
                        refine ⟨Or.inr ⟨hu9, Or.inr ⟨hov, ?_⟩⟩, hkJ.trans k186⟩
                        unfold blwA
                        rw [hbf]
                        show _ = if u = 0 then nI ff else if (u - 10).toNatClampNeg < tn then nI (dig5 tn kf (u - 10).toNatClampNeg) else -4
                        rw [if_neg c164, hui, nI_clamp (show i < 2 ^ 31 by omega)]
                        first
                        | (rw [if_neg (by omega)]; done)
                        | (rw [if_pos c195]; exact d186 i c195)
                    · refine g_iload C (pc := 167) dX12_blow_167 1 rfl ?_
                      refine g_bipush C (pc := 169) (-4) dX12_blow_169 (by decide) ?_
                      refine g_icmp_ne C (pc := 171) 179 dX12_blow_171 (by decide) (fun c171 => ?_) (fun c171 => ?_)
                      · refine g_iload C (pc := 179) dX12_blow_179 2 rfl ?_
                        refine g_iret C hR (pc := 181) rfl dX12_blow_181 ?_
                        refine ⟨rfl, _, rfl, ?_⟩
                        refine ⟨Or.inr ⟨hu9, Or.inr ⟨hov, ?_⟩⟩, hkJ⟩
                        unfold blwA
                        first
                        | (rw [hbf]; done)
                        | (rw [hbf]
                           show _ = if u = 0 then nI ff else _
                           rw [if_pos c164, h4, hbf]; rfl)
                      · exact absurd c171 c160
                · rw [h73, nI_ltI (by omega) (by omega)] at c89
                  refine g_aload_n C (pc := 92) dX12_blow_92 5 rfl ?_
                  refine g_iload C (pc := 93) dX12_blow_93 0 rfl ?_
                  refine g_iload_n C (pc := 95) dX12_blow_95 4 rfl ?_
                  refine g_callVI C (pc := 96) mf_X12_blownOf lk_RX12_343 (c_X12_blownOf n ρ J j tn tl _ _ hn9 hms ht3 (fun q hq => by rw [hkJ.2 98 (by decide)]; exact htl q hq) (by omega) rfl h43) (by decide) (Nat.le_refl _) rfl (by first | assumption | rfl | omega) rfl (by first | assumption | rfl | omega) (Nat.le_of_ble_eq_true rfl) dX12_blow_96 (fun v96 I96 h96 => ?_)
                  obtain ⟨e96, d96, i96, g96⟩ := h96
                  have k96 : Kp J I96 := ⟨fun z9 hz9 => by rw [g96 97 (by decide)], fun i hi => g96 i (by omega)⟩
                  refine g_istore C (pc := 99) dX12_blow_99 (by decide) (fun v99 => [(7, .int v99), (6, .int (nI j)), (5, .int wz5), (4, .int wz4), (3, .int v73), (2, .int v43), (0, .ref 97), (1, .int u)]) (fun _ => rfl) (fun v99 ev99 => ?_)
                  refine g_iload C (pc := 101) dX12_blow_101 0 rfl ?_
                  refine g_iload C (pc := 103) dX12_blow_103 3 rfl ?_
                  refine g_icmp_ge C (pc := 105) 150 dX12_blow_105 (by decide) (fun c105 => ?_) (fun c105 => ?_)
                  · have hst : blowF F b tn tl (j + 1) = blowF F b tn tl j := blow_t (by rw [← h4, ← e96, ← ev99]; exact c105) ht3
                    refine g_iinc C (pc := 150) (1) dX12_blow_150 1 rfl (by decide) (by decide) (fun v150 => [(6, .int v150), (7, .int v99), (5, .int wz5), (4, .int wz4), (3, .int v73), (2, .int v43), (0, .ref 97), (1, .int u)]) (fun _ => rfl) (fun v150 ev150 => ?_)
                    refine g_goto C (pc := 153) 86 dX12_blow_153 (by decide) ?_
                    refine g_lv C [0, 2, 3, 4, 5, 6, 7] rfl (ih86 (j + 1) _ _ _ _ ?_ ?_ ?_ ?_ ?_ (by omega))
                    · subst ev150; exact nI_1 _
                    · omega
                    · first | (rw [hst]; exact h4) | (rw [hst, ev148, if_pos hcan, ev99]; exact e96) | (rw [hst, ev148, if_neg hcan]; exact h4)
                    · first | (rw [hst]; exact h5) | (rw [hst, ev132, if_pos hcan]; rfl) | (rw [hst, ev132, if_neg hcan]; exact h5)
                    · first | exact (hkJ.trans k96).trans (k109.trans k115) | exact hkJ.trans k96
                  · have hst := blow_f (F := F) (b := b) (m := tn) (c := j) (tl := tl) (by rw [← h4, ← e96, ← ev99]; exact c105) ht3
                    refine g_aload_n C (pc := 108) dX12_blow_108 6 rfl ?_
                    refine g_callVV C (pc := 109) mf_X12_starts lk_RX12_227 (c_X12_starts n ρ I96 hn9 hms) (by decide) (Nat.le_refl _) rfl (by first | assumption | rfl | omega) rfl (by first | assumption | rfl | omega) (Nat.le_of_ble_eq_true rfl) dX12_blow_109 (fun I109 h109 => ?_)
                    obtain ⟨a109, b109, d109, g109⟩ := h109
                    have hq2 : QN I96 F b := hqn.kp (hkJ.trans k96)
                    have f109 : QB I109 F b := ⟨fun p hp => by rw [(a109 p (by omega)).1, (a109 p (by omega)).2]; exact hq2.2.2.1 p hp, b109.trans hq2.2.2.2⟩
                    have k109 : Kp I96 I109 := Kp.qb d109 g109
                    have s109 : I109 113 = I96 113 := g109 113 (by decide) (by decide) (by decide)
                    refine g_aload_n C (pc := 112) dX12_blow_112 6 rfl ?_
                    refine g_iload_n C (pc := 113) dX12_blow_113 5 rfl ?_
                    refine g_iconst C (pc := 114) 2 dX12_blow_114 (by decide) ?_
                    refine g_callVV C (pc := 115) mf_X12_findRows lk_RX12_339 (c_X12_findRowsB n ρ I109 F b (dig5 tn j) tn _ 2 hn9 hms (hqf.kp ((hkJ.trans k96).trans k109)) hrw (hqe.kp ((hkJ.trans k96).trans k109)) f109 hbw hl1 hpw h43 ht3 rfl (fun q hq => ⟨by rw [s109]; exact d96 q hq, by unfold dig5; exact Nat.mod_lt _ (by decide)⟩) hov) (by decide) (Nat.le_refl _) rfl (by first | assumption | rfl | omega) rfl (by first | assumption | rfl | omega) (Nat.le_of_ble_eq_true rfl) dX12_blow_115 (fun I115 h115 => ?_)
                    obtain ⟨f115, k115⟩ := h115
                    rw [wdL_dig] at f115
                    refine g_aload_n C (pc := 118) dX12_blow_118 6 rfl ?_
                    refine g_getI C (pc := 119) fl_RX12_325 (by decide) (by first | assumption | rfl | omega) (by first | assumption | rfl | omega) dX12_blow_119 ?_
                    refine g_if_eq C (pc := 122) 130 dX12_blow_122 (by decide) (fun c122 => ?_) (fun c122 => ?_)
                    · have hcan : ¬ canB F (bM b) (digL tn j) b = true := bI_0.mp (f115.symm.trans c122)
                      refine g_iload C (pc := 130) dX12_blow_130 2 rfl ?_
                      refine g_istore C (pc := 132) dX12_blow_132 (by decide) (fun v132 => [(5, .int v132), (7, .int v99), (6, .int (nI j)), (4, .int wz4), (3, .int v73), (2, .int v43), (0, .ref 97), (1, .int u)]) (fun _ => rfl) (fun v132 ev132 => ?_)
                      refine g_aload_n C (pc := 134) dX12_blow_134 6 rfl ?_
                      refine g_getI C (pc := 135) fl_RX12_325 (by decide) (by first | assumption | rfl | omega) (by first | assumption | rfl | omega) dX12_blow_135 ?_
                      refine g_if_eq C (pc := 138) 146 dX12_blow_138 (by decide) (fun c138 => ?_) (fun c138 => ?_)
                      · refine g_iload C (pc := 146) dX12_blow_146 3 rfl ?_
                        refine g_istore C (pc := 148) dX12_blow_148 (by decide) (fun v148 => [(4, .int v148), (5, .int v132), (7, .int v99), (6, .int (nI j)), (3, .int v73), (2, .int v43), (0, .ref 97), (1, .int u)]) (fun _ => rfl) (fun v148 ev148 => ?_)
                        refine g_iinc C (pc := 150) (1) dX12_blow_150 3 rfl (by decide) (by decide) (fun v150 => [(6, .int v150), (4, .int v148), (5, .int v132), (7, .int v99), (3, .int v73), (2, .int v43), (0, .ref 97), (1, .int u)]) (fun _ => rfl) (fun v150 ev150 => ?_)
                        refine g_goto C (pc := 153) 86 dX12_blow_153 (by decide) ?_
                        refine g_lv C [0, 2, 1, 4, 5, 6, 7] rfl (ih86 (j + 1) _ _ _ _ ?_ ?_ ?_ ?_ ?_ (by omega))
                        · subst ev150; exact nI_1 _
                        · omega
                        · first | (rw [hst]; exact h4) | (rw [hst, ev148, if_pos hcan, ev99]; exact e96) | (rw [hst, ev148, if_neg hcan]; exact h4)
                        · first | (rw [hst]; exact h5) | (rw [hst, ev132, if_pos hcan]; rfl) | (rw [hst, ev132, if_neg hcan]; exact h5)
                        · first | exact (hkJ.trans k96).trans (k109.trans k115) | exact hkJ.trans k96
                      · exact absurd c122 c138
                    · have hcan : canB F (bM b) (digL tn j) b = true := bI_1.mp (fun h => c122 (f115.trans h))
                      refine g_iload C (pc := 125) dX12_blow_125 1 rfl ?_
                      refine g_goto C (pc := 127) 132 dX12_blow_127 (by decide) ?_
                      refine g_istore C (pc := 132) dX12_blow_132 (by decide) (fun v132 => [(5, .int v132), (7, .int v99), (6, .int (nI j)), (4, .int wz4), (3, .int v73), (2, .int v43), (0, .ref 97), (1, .int u)]) (fun _ => rfl) (fun v132 ev132 => ?_)
                      refine g_aload_n C (pc := 134) dX12_blow_134 6 rfl ?_
                      refine g_getI C (pc := 135) fl_RX12_325 (by decide) (by first | assumption | rfl | omega) (by first | assumption | rfl | omega) dX12_blow_135 ?_
                      refine g_if_eq C (pc := 138) 146 dX12_blow_138 (by decide) (fun c138 => ?_) (fun c138 => ?_)
                      · exact absurd c138 c122
                      · refine g_iload C (pc := 141) dX12_blow_141 1 rfl ?_
                        refine g_goto C (pc := 143) 148 dX12_blow_143 (by decide) ?_
                        refine g_istore C (pc := 148) dX12_blow_148 (by decide) (fun v148 => [(4, .int v148), (5, .int v132), (7, .int v99), (6, .int (nI j)), (3, .int v73), (2, .int v43), (0, .ref 97), (1, .int u)]) (fun _ => rfl) (fun v148 ev148 => ?_)
                        refine g_iinc C (pc := 150) (1) dX12_blow_150 3 rfl (by decide) (by decide) (fun v150 => [(6, .int v150), (4, .int v148), (5, .int v132), (7, .int v99), (3, .int v73), (2, .int v43), (0, .ref 97), (1, .int u)]) (fun _ => rfl) (fun v150 ev150 => ?_)
                        refine g_goto C (pc := 153) 86 dX12_blow_153 (by decide) ?_
                        refine g_lv C [0, 2, 1, 4, 5, 6, 7] rfl (ih86 (j + 1) _ _ _ _ ?_ ?_ ?_ ?_ ?_ (by omega))
                        · subst ev150; exact nI_1 _
                        · omega
                        · first | (rw [hst]; exact h4) | (rw [hst, ev148, if_pos hcan, ev99]; exact e96) | (rw [hst, ev148, if_neg hcan]; exact h4)
                        · first | (rw [hst]; exact h5) | (rw [hst, ev132, if_pos hcan]; rfl) | (rw [hst, ev132, if_neg hcan]; exact h5)
                        · first | exact (hkJ.trans k96).trans (k109.trans k115) | exact hkJ.trans k96
            refine g_lv C [0, 1, 2, 3, 4, 5, 6] rfl (L86 (_ + 1) 0 _ _ _ _ ?_ ?_ ?_ ?_ ?_ (by first | omega | exact Nat.lt_succ_self _))
            · subst ev84; rfl
            · omega
            · subst ev77; rfl
            · subst ev81; rfl
            · exact k21
        · have h73a : (5 : Int32) = nI (rwN tn) := by
            have : tn = 1 := (nI_eq (b := 1) (by omega) (by decide)).mp (h43.symm.trans c54)
            subst this; rfl
          refine g_iconst C (pc := 57) 5 dX12_blow_57 (by decide) ?_
          refine g_goto C (pc := 58) 73 dX12_blow_58 (by decide) ?_
          refine g_istore_n C (pc := 73) dX12_blow_73 (by decide) (fun v73 => [(3, .int v73), (2, .int v43), (0, .ref 97), (1, .int u)]) (fun _ => rfl) (fun v73 ev73 => ?_)
          have h73 : v73 = nI (rwN tn) := ev73.trans h73a
          refine g_ldc_w C (pc := 74) _ gk_RX12_342 dX12_blow_74 ?_
          refine g_istore C (pc := 77) dX12_blow_77 (by decide) (fun v77 => [(4, .int v77), (3, .int v73), (2, .int v43), (0, .ref 97), (1, .int u)]) (fun _ => rfl) (fun v77 ev77 => ?_)
          refine g_bipush C (pc := 79) (-4) dX12_blow_79 (by decide) ?_
          refine g_istore C (pc := 81) dX12_blow_81 (by decide) (fun v81 => [(5, .int v81), (4, .int v77), (3, .int v73), (2, .int v43), (0, .ref 97), (1, .int u)]) (fun _ => rfl) (fun v81 ev81 => ?_)
          refine g_iconst C (pc := 83) 0 dX12_blow_83 (by decide) ?_
          refine g_istore C (pc := 84) dX12_blow_84 (by decide) (fun v84 => [(6, .int v84), (5, .int v81), (4, .int v77), (3, .int v73), (2, .int v43), (0, .ref 97), (1, .int u)]) (fun _ => rfl) (fun v84 ev84 => ?_)
          have L86 : ∀ (k9 : Nat) (j : Nat) (wz6 : Int32) (wz5 : Int32) (wz4 : Int32) (J : Mem) (hw6 : wz6 = nI j) (hj : j ≤ rwN tn) (h4 : wz4 = fwI (blowF F b tn tl j)) (h5 : wz5 = fdI (blowF F b tn tl j)) (hkJ : Kp I J), rwN tn - j < k9 → G κ n ρ 86 [(6, .int wz6), (5, .int wz5), (4, .int wz4), (3, .int v73), (2, .int v43), (0, .ref 97), (1, .int u)] [] J := by
            intro k9
            induction k9 with
            | zero => intro j wz6 wz5 wz4 J hw6 hj h4 h5 hkJ hm86; exact absurd hm86 (Nat.not_lt_zero _)
            | succ k9 ih86 =>
              intro j wz6 wz5 wz4 J hw6 hj h4 h5 hkJ hm86
              subst hw6
              have hr125 := rwN_le ht3
              refine g_iload C (pc := 86) dX12_blow_86 0 rfl ?_
              refine g_iload_n C (pc := 88) dX12_blow_88 3 rfl ?_
              refine g_icmp_ge C (pc := 89) 156 dX12_blow_89 (by decide) (fun c89 => ?_) (fun c89 => ?_)
              · have hjr : j = rwN tn := by
                  rw [h73, nI_leI (by omega) (by omega)] at c89
                  omega
                subst hjr
                rw [rwN_all hov] at h4 h5
                refine g_iload C (pc := 156) dX12_blow_156 1 rfl ?_
                refine g_bipush C (pc := 158) (-4) dX12_blow_158 (by decide) ?_
                refine g_icmp_eq C (pc := 160) 167 dX12_blow_160 (by decide) (fun c160 => ?_) (fun c160 => ?_)
                · have hbf : blowF F b tn tl (pw 5 tn) = none := by
                    cases h9 : blowF F b tn tl (pw 5 tn) with
                    | none => rfl
                    | some q =>
                      obtain ⟨f9, k9⟩ := q
                      have h8 := blowF_le h9
                      have hp9 : pw 5 tn ≤ 125 := by
                        have h7 : ∀ t, t ≤ 3 → pw 5 t ≤ 125 := by decide
                        exact h7 tn ht3
                      rw [h5, h9] at c160; exact absurd c160 (nI_ne4 (by omega))
                  refine g_iload C (pc := 167) dX12_blow_167 1 rfl ?_
                  refine g_bipush C (pc := 169) (-4) dX12_blow_169 (by decide) ?_
                  refine g_icmp_ne C (pc := 171) 179 dX12_blow_171 (by decide) (fun c171 => ?_) (fun c171 => ?_)
                  · exact absurd c160 c171
                  · refine g_bipush C (pc := 174) (-4) dX12_blow_174 (by decide) ?_
                    refine g_goto C (pc := 176) 181 dX12_blow_176 (by decide) ?_
                    refine g_iret C hR (pc := 181) rfl dX12_blow_181 ?_
                    refine ⟨rfl, _, rfl, ?_⟩
                    refine ⟨Or.inr ⟨hu9, Or.inr ⟨hov, ?_⟩⟩, hkJ⟩
                    unfold blwA
                    first
                    | (rw [hbf]; done)
                    | (rw [hbf]
                       show _ = if u = 0 then nI ff else _
                       rw [if_pos c164, h4, hbf]; rfl)
                · obtain ⟨ff, kf, hbf⟩ : ∃ ff kf, blowF F b tn tl (pw 5 tn) = some (ff, kf) := by
                    cases h9 : blowF F b tn tl (pw 5 tn) with
                    | none => exact absurd (h5.trans (by rw [h9]; rfl)) c160
                    | some q => exact ⟨q.1, q.2, rfl⟩
                  have hp9 : pw 5 tn ≤ 125 := by
                    have h7 : ∀ t, t ≤ 3 → pw 5 t ≤ 125 := by decide
                    exact h7 tn ht3
                  have hbl := blowF_le hbf
                  refine g_iload_n C (pc := 163) dX12_blow_163 6 rfl ?_
                  refine g_if_ne C (pc := 164) 182 dX12_blow_164 (by decide) (fun c164 => ?_) (fun c164 => ?_)
                  · obtain ⟨i, hi3, hui⟩ := asked_of hu9 c164
                    refine g_aload_n C (pc := 182) dX12_blow_182 5 rfl ?_
                    refine g_iload C (pc := 183) dX12_blow_183 1 rfl ?_
                    refine g_iload_n C (pc := 185) dX12_blow_185 4 rfl ?_
                    refine g_callVI C (pc := 186) mf_X12_blownOf lk_RX12_343 (c_X12_blownOf n ρ J kf tn tl _ _ hn9 hms ht3 (fun q hq => by rw [hkJ.2 98 (by decide)]; exact htl q hq) (by omega) (h5.trans (by rw [hbf]; rfl)) h43) (by decide) (Nat.le_refl _) rfl (by first | assumption | rfl | omega) rfl (by first | assumption | rfl | omega) (Nat.le_of_ble_eq_true rfl) dX12_blow_186 (fun v186 I186 h186 => ?_)
                    obtain ⟨e186, d186, i186, g186⟩ := h186
                    refine g_pop C (pc := 189) dX12_blow_189 rfl ?_
                    refine g_iload_n C (pc := 190) dX12_blow_190 6 rfl ?_
                    refine g_bipush C (pc := 191) 10 dX12_blow_191 (by decide) ?_
                    refine g_isub C (pc := 193) dX12_blow_193 ?_
                    refine g_iload_n C (pc := 194) dX12_blow_194 4 rfl ?_
                    rw [hui, h43]
                    refine g_icmp_ge C (pc := 195) 210 dX12_blow_195 (by decide) (fun c195 => ?_) (fun c195 => ?_)
                    · replace c195 := (nI_leI (by omega) (by omega)).mp c195
                      refine g_bipush C (pc := 210) (-4) dX12_blow_210 (by decide) ?_
                      refine g_iret C hR (pc := 212) rfl dX12_blow_212 ?_
                      refine ⟨rfl, _, rfl, ?_⟩
                      have k186 : Kp J I186 := ⟨fun z9 hz9 => by rw [g186 97 (by decide)], fun i hi => g186 i (by omega)⟩
                      refine ⟨Or.inr ⟨hu9, Or.inr ⟨hov, ?_⟩⟩, hkJ.trans k186⟩
                      unfold blwA
                      rw [hbf]
                      show _ = if u = 0 then nI ff else if (u - 10).toNatClampNeg < tn then nI (dig5 tn kf (u - 10).toNatClampNeg) else -4
                      rw [if_neg c164, hui, nI_clamp (show i < 2 ^ 31 by omega)]
                      first
                      | (rw [if_neg (by omega)]; done)
                      | (rw [if_pos c195]; exact d186 i c195)
                    · replace c195 := (nI_ltI (by omega) (by omega)).mp c195
                      refine g_aload_n C (pc := 198) dX12_blow_198 5 rfl ?_
                      refine g_getR C (pc := 199) fl_RX12_56 (by decide) (by first | assumption | rfl | omega) (by first | assumption | rfl | omega) (by first | assumption | rfl | omega) dX12_blow_199 ?_
                      refine g_iload_n C (pc := 202) dX12_blow_202 6 rfl ?_
                      refine g_bipush C (pc := 203) 10 dX12_blow_203 (by decide) ?_
                      refine g_isub C (pc := 205) dX12_blow_205 ?_
                      rw [hui]
                      refine g_iald C (pc := 206) (by first | assumption | rfl | omega) (by first | assumption | rfl | omega) (vp_in_nI (by omega) (by decide)) dX12_blow_206 ?_
                      rw [nI_clamp (show i < 2 ^ 31 by omega)]
                      refine g_goto C (pc := 207) 212 dX12_blow_207 (by decide) ?_
                      refine g_iret C hR (pc := 212) rfl dX12_blow_212 ?_
                      refine ⟨rfl, _, rfl, ?_⟩
                      have k186 : Kp J I186 := ⟨fun z9 hz9 => by rw [g186 97 (by decide)], fun i hi => g186 i (by omega)⟩
                      refine ⟨Or.inr ⟨hu9, Or.inr ⟨hov, ?_⟩⟩, hkJ.trans k186⟩
                      unfold blwA
                      rw [hbf]
                      show _ = if u = 0 then nI ff else if (u - 10).toNatClampNeg < tn then nI (dig5 tn kf (u - 10).toNatClampNeg) else -4
                      rw [if_neg c164, hui, nI_clamp (show i < 2 ^ 31 by omega)]
                      first
                      | (rw [if_neg (by omega)]; done)
                      | (rw [if_pos c195]; exact d186 i c195)
                  · refine g_iload C (pc := 167) dX12_blow_167 1 rfl ?_
                    refine g_bipush C (pc := 169) (-4) dX12_blow_169 (by decide) ?_
                    refine g_icmp_ne C (pc := 171) 179 dX12_blow_171 (by decide) (fun c171 => ?_) (fun c171 => ?_)
                    · refine g_iload C (pc := 179) dX12_blow_179 2 rfl ?_
                      refine g_iret C hR (pc := 181) rfl dX12_blow_181 ?_
                      refine ⟨rfl, _, rfl, ?_⟩
                      refine ⟨Or.inr ⟨hu9, Or.inr ⟨hov, ?_⟩⟩, hkJ⟩
                      unfold blwA
                      first
                      | (rw [hbf]; done)
                      | (rw [hbf]
                         show _ = if u = 0 then nI ff else _
                         rw [if_pos c164, h4, hbf]; rfl)
                    · exact absurd c171 c160
              · rw [h73, nI_ltI (by omega) (by omega)] at c89
                refine g_aload_n C (pc := 92) dX12_blow_92 5 rfl ?_
                refine g_iload C (pc := 93) dX12_blow_93 0 rfl ?_
                refine g_iload_n C (pc := 95) dX12_blow_95 4 rfl ?_
                refine g_callVI C (pc := 96) mf_X12_blownOf lk_RX12_343 (c_X12_blownOf n ρ J j tn tl _ _ hn9 hms ht3 (fun q hq => by rw [hkJ.2 98 (by decide)]; exact htl q hq) (by omega) rfl h43) (by decide) (Nat.le_refl _) rfl (by first | assumption | rfl | omega) rfl (by first | assumption | rfl | omega) (Nat.le_of_ble_eq_true rfl) dX12_blow_96 (fun v96 I96 h96 => ?_)
                obtain ⟨e96, d96, i96, g96⟩ := h96
                have k96 : Kp J I96 := ⟨fun z9 hz9 => by rw [g96 97 (by decide)], fun i hi => g96 i (by omega)⟩
                refine g_istore C (pc := 99) dX12_blow_99 (by decide) (fun v99 => [(7, .int v99), (6, .int (nI j)), (5, .int wz5), (4, .int wz4), (3, .int v73), (2, .int v43), (0, .ref 97), (1, .int u)]) (fun _ => rfl) (fun v99 ev99 => ?_)
                refine g_iload C (pc := 101) dX12_blow_101 0 rfl ?_
                refine g_iload C (pc := 103) dX12_blow_103 3 rfl ?_
                refine g_icmp_ge C (pc := 105) 150 dX12_blow_105 (by decide) (fun c105 => ?_) (fun c105 => ?_)
                · have hst : blowF F b tn tl (j + 1) = blowF F b tn tl j := blow_t (by rw [← h4, ← e96, ← ev99]; exact c105) ht3
                  refine g_iinc C (pc := 150) (1) dX12_blow_150 1 rfl (by decide) (by decide) (fun v150 => [(6, .int v150), (7, .int v99), (5, .int wz5), (4, .int wz4), (3, .int v73), (2, .int v43), (0, .ref 97), (1, .int u)]) (fun _ => rfl) (fun v150 ev150 => ?_)
                  refine g_goto C (pc := 153) 86 dX12_blow_153 (by decide) ?_
                  refine g_lv C [0, 2, 3, 4, 5, 6, 7] rfl (ih86 (j + 1) _ _ _ _ ?_ ?_ ?_ ?_ ?_ (by omega))
                  · subst ev150; exact nI_1 _
                  · omega
                  · first | (rw [hst]; exact h4) | (rw [hst, ev148, if_pos hcan, ev99]; exact e96) | (rw [hst, ev148, if_neg hcan]; exact h4)
                  · first | (rw [hst]; exact h5) | (rw [hst, ev132, if_pos hcan]; rfl) | (rw [hst, ev132, if_neg hcan]; exact h5)
                  · first | exact (hkJ.trans k96).trans (k109.trans k115) | exact hkJ.trans k96
                · have hst := blow_f (F := F) (b := b) (m := tn) (c := j) (tl := tl) (by rw [← h4, ← e96, ← ev99]; exact c105) ht3
                  refine g_aload_n C (pc := 108) dX12_blow_108 6 rfl ?_
                  refine g_callVV C (pc := 109) mf_X12_starts lk_RX12_227 (c_X12_starts n ρ I96 hn9 hms) (by decide) (Nat.le_refl _) rfl (by first | assumption | rfl | omega) rfl (by first | assumption | rfl | omega) (Nat.le_of_ble_eq_true rfl) dX12_blow_109 (fun I109 h109 => ?_)
                  obtain ⟨a109, b109, d109, g109⟩ := h109
                  have hq2 : QN I96 F b := hqn.kp (hkJ.trans k96)
                  have f109 : QB I109 F b := ⟨fun p hp => by rw [(a109 p (by omega)).1, (a109 p (by omega)).2]; exact hq2.2.2.1 p hp, b109.trans hq2.2.2.2⟩
                  have k109 : Kp I96 I109 := Kp.qb d109 g109
                  have s109 : I109 113 = I96 113 := g109 113 (by decide) (by decide) (by decide)
                  refine g_aload_n C (pc := 112) dX12_blow_112 6 rfl ?_
                  refine g_iload_n C (pc := 113) dX12_blow_113 5 rfl ?_
                  refine g_iconst C (pc := 114) 2 dX12_blow_114 (by decide) ?_
                  refine g_callVV C (pc := 115) mf_X12_findRows lk_RX12_339 (c_X12_findRowsB n ρ I109 F b (dig5 tn j) tn _ 2 hn9 hms (hqf.kp ((hkJ.trans k96).trans k109)) hrw (hqe.kp ((hkJ.trans k96).trans k109)) f109 hbw hl1 hpw h43 ht3 rfl (fun q hq => ⟨by rw [s109]; exact d96 q hq, by unfold dig5; exact Nat.mod_lt _ (by decide)⟩) hov) (by decide) (Nat.le_refl _) rfl (by first | assumption | rfl | omega) rfl (by first | assumption | rfl | omega) (Nat.le_of_ble_eq_true rfl) dX12_blow_115 (fun I115 h115 => ?_)
                  obtain ⟨f115, k115⟩ := h115
                  rw [wdL_dig] at f115
                  refine g_aload_n C (pc := 118) dX12_blow_118 6 rfl ?_
                  refine g_getI C (pc := 119) fl_RX12_325 (by decide) (by first | assumption | rfl | omega) (by first | assumption | rfl | omega) dX12_blow_119 ?_
                  refine g_if_eq C (pc := 122) 130 dX12_blow_122 (by decide) (fun c122 => ?_) (fun c122 => ?_)
                  · have hcan : ¬ canB F (bM b) (digL tn j) b = true := bI_0.mp (f115.symm.trans c122)
                    refine g_iload C (pc := 130) dX12_blow_130 2 rfl ?_
                    refine g_istore C (pc := 132) dX12_blow_132 (by decide) (fun v132 => [(5, .int v132), (7, .int v99), (6, .int (nI j)), (4, .int wz4), (3, .int v73), (2, .int v43), (0, .ref 97), (1, .int u)]) (fun _ => rfl) (fun v132 ev132 => ?_)
                    refine g_aload_n C (pc := 134) dX12_blow_134 6 rfl ?_
                    refine g_getI C (pc := 135) fl_RX12_325 (by decide) (by first | assumption | rfl | omega) (by first | assumption | rfl | omega) dX12_blow_135 ?_
                    refine g_if_eq C (pc := 138) 146 dX12_blow_138 (by decide) (fun c138 => ?_) (fun c138 => ?_)
                    · refine g_iload C (pc := 146) dX12_blow_146 3 rfl ?_
                      refine g_istore C (pc := 148) dX12_blow_148 (by decide) (fun v148 => [(4, .int v148), (5, .int v132), (7, .int v99), (6, .int (nI j)), (3, .int v73), (2, .int v43), (0, .ref 97), (1, .int u)]) (fun _ => rfl) (fun v148 ev148 => ?_)
                      refine g_iinc C (pc := 150) (1) dX12_blow_150 3 rfl (by decide) (by decide) (fun v150 => [(6, .int v150), (4, .int v148), (5, .int v132), (7, .int v99), (3, .int v73), (2, .int v43), (0, .ref 97), (1, .int u)]) (fun _ => rfl) (fun v150 ev150 => ?_)
                      refine g_goto C (pc := 153) 86 dX12_blow_153 (by decide) ?_
                      refine g_lv C [0, 2, 1, 4, 5, 6, 7] rfl (ih86 (j + 1) _ _ _ _ ?_ ?_ ?_ ?_ ?_ (by omega))
                      · subst ev150; exact nI_1 _
                      · omega
                      · first | (rw [hst]; exact h4) | (rw [hst, ev148, if_pos hcan, ev99]; exact e96) | (rw [hst, ev148, if_neg hcan]; exact h4)
                      · first | (rw [hst]; exact h5) | (rw [hst, ev132, if_pos hcan]; rfl) | (rw [hst, ev132, if_neg hcan]; exact h5)
                      · first | exact (hkJ.trans k96).trans (k109.trans k115) | exact hkJ.trans k96
                    · exact absurd c122 c138
                  · have hcan : canB F (bM b) (digL tn j) b = true := bI_1.mp (fun h => c122 (f115.trans h))
                    refine g_iload C (pc := 125) dX12_blow_125 1 rfl ?_
                    refine g_goto C (pc := 127) 132 dX12_blow_127 (by decide) ?_
                    refine g_istore C (pc := 132) dX12_blow_132 (by decide) (fun v132 => [(5, .int v132), (7, .int v99), (6, .int (nI j)), (4, .int wz4), (3, .int v73), (2, .int v43), (0, .ref 97), (1, .int u)]) (fun _ => rfl) (fun v132 ev132 => ?_)
                    refine g_aload_n C (pc := 134) dX12_blow_134 6 rfl ?_
                    refine g_getI C (pc := 135) fl_RX12_325 (by decide) (by first | assumption | rfl | omega) (by first | assumption | rfl | omega) dX12_blow_135 ?_
                    refine g_if_eq C (pc := 138) 146 dX12_blow_138 (by decide) (fun c138 => ?_) (fun c138 => ?_)
                    · exact absurd c138 c122
                    · refine g_iload C (pc := 141) dX12_blow_141 1 rfl ?_
                      refine g_goto C (pc := 143) 148 dX12_blow_143 (by decide) ?_
                      refine g_istore C (pc := 148) dX12_blow_148 (by decide) (fun v148 => [(4, .int v148), (5, .int v132), (7, .int v99), (6, .int (nI j)), (3, .int v73), (2, .int v43), (0, .ref 97), (1, .int u)]) (fun _ => rfl) (fun v148 ev148 => ?_)
                      refine g_iinc C (pc := 150) (1) dX12_blow_150 3 rfl (by decide) (by decide) (fun v150 => [(6, .int v150), (4, .int v148), (5, .int v132), (7, .int v99), (3, .int v73), (2, .int v43), (0, .ref 97), (1, .int u)]) (fun _ => rfl) (fun v150 ev150 => ?_)
                      refine g_goto C (pc := 153) 86 dX12_blow_153 (by decide) ?_
                      refine g_lv C [0, 2, 1, 4, 5, 6, 7] rfl (ih86 (j + 1) _ _ _ _ ?_ ?_ ?_ ?_ ?_ (by omega))
                      · subst ev150; exact nI_1 _
                      · omega
                      · first | (rw [hst]; exact h4) | (rw [hst, ev148, if_pos hcan, ev99]; exact e96) | (rw [hst, ev148, if_neg hcan]; exact h4)
                      · first | (rw [hst]; exact h5) | (rw [hst, ev132, if_pos hcan]; rfl) | (rw [hst, ev132, if_neg hcan]; exact h5)
                      · first | exact (hkJ.trans k96).trans (k109.trans k115) | exact hkJ.trans k96
          refine g_lv C [0, 1, 2, 3, 4, 5, 6] rfl (L86 (_ + 1) 0 _ _ _ _ ?_ ?_ ?_ ?_ ?_ (by first | omega | exact Nat.lt_succ_self _))
          · subst ev84; rfl
          · omega
          · subst ev77; rfl
          · subst ev81; rfl
          · exact k21
      · have h73a : (0 : Int32) = nI (rwN tn) := by
          have : tn = 0 := (nI_eq (b := 0) (by omega) (by decide)).mp (h43.symm.trans c45)
          subst this; rfl
        refine g_iconst C (pc := 48) 0 dX12_blow_48 (by decide) ?_
        refine g_goto C (pc := 49) 73 dX12_blow_49 (by decide) ?_
        refine g_istore_n C (pc := 73) dX12_blow_73 (by decide) (fun v73 => [(3, .int v73), (2, .int v43), (0, .ref 97), (1, .int u)]) (fun _ => rfl) (fun v73 ev73 => ?_)
        have h73 : v73 = nI (rwN tn) := ev73.trans h73a
        refine g_ldc_w C (pc := 74) _ gk_RX12_342 dX12_blow_74 ?_
        refine g_istore C (pc := 77) dX12_blow_77 (by decide) (fun v77 => [(4, .int v77), (3, .int v73), (2, .int v43), (0, .ref 97), (1, .int u)]) (fun _ => rfl) (fun v77 ev77 => ?_)
        refine g_bipush C (pc := 79) (-4) dX12_blow_79 (by decide) ?_
        refine g_istore C (pc := 81) dX12_blow_81 (by decide) (fun v81 => [(5, .int v81), (4, .int v77), (3, .int v73), (2, .int v43), (0, .ref 97), (1, .int u)]) (fun _ => rfl) (fun v81 ev81 => ?_)
        refine g_iconst C (pc := 83) 0 dX12_blow_83 (by decide) ?_
        refine g_istore C (pc := 84) dX12_blow_84 (by decide) (fun v84 => [(6, .int v84), (5, .int v81), (4, .int v77), (3, .int v73), (2, .int v43), (0, .ref 97), (1, .int u)]) (fun _ => rfl) (fun v84 ev84 => ?_)
        have L86 : ∀ (k9 : Nat) (j : Nat) (wz6 : Int32) (wz5 : Int32) (wz4 : Int32) (J : Mem) (hw6 : wz6 = nI j) (hj : j ≤ rwN tn) (h4 : wz4 = fwI (blowF F b tn tl j)) (h5 : wz5 = fdI (blowF F b tn tl j)) (hkJ : Kp I J), rwN tn - j < k9 → G κ n ρ 86 [(6, .int wz6), (5, .int wz5), (4, .int wz4), (3, .int v73), (2, .int v43), (0, .ref 97), (1, .int u)] [] J := by
          intro k9
          induction k9 with
          | zero => intro j wz6 wz5 wz4 J hw6 hj h4 h5 hkJ hm86; exact absurd hm86 (Nat.not_lt_zero _)
          | succ k9 ih86 =>
            intro j wz6 wz5 wz4 J hw6 hj h4 h5 hkJ hm86
            subst hw6
            have hr125 := rwN_le ht3
            refine g_iload C (pc := 86) dX12_blow_86 0 rfl ?_
            refine g_iload_n C (pc := 88) dX12_blow_88 3 rfl ?_
            refine g_icmp_ge C (pc := 89) 156 dX12_blow_89 (by decide) (fun c89 => ?_) (fun c89 => ?_)
            · have hjr : j = rwN tn := by
                rw [h73, nI_leI (by omega) (by omega)] at c89
                omega
              subst hjr
              rw [rwN_all hov] at h4 h5
              refine g_iload C (pc := 156) dX12_blow_156 1 rfl ?_
              refine g_bipush C (pc := 158) (-4) dX12_blow_158 (by decide) ?_
              refine g_icmp_eq C (pc := 160) 167 dX12_blow_160 (by decide) (fun c160 => ?_) (fun c160 => ?_)
              · have hbf : blowF F b tn tl (pw 5 tn) = none := by
                  cases h9 : blowF F b tn tl (pw 5 tn) with
                  | none => rfl
                  | some q =>
                    obtain ⟨f9, k9⟩ := q
                    have h8 := blowF_le h9
                    have hp9 : pw 5 tn ≤ 125 := by
                      have h7 : ∀ t, t ≤ 3 → pw 5 t ≤ 125 := by decide
                      exact h7 tn ht3
                    rw [h5, h9] at c160; exact absurd c160 (nI_ne4 (by omega))
                refine g_iload C (pc := 167) dX12_blow_167 1 rfl ?_
                refine g_bipush C (pc := 169) (-4) dX12_blow_169 (by decide) ?_
                refine g_icmp_ne C (pc := 171) 179 dX12_blow_171 (by decide) (fun c171 => ?_) (fun c171 => ?_)
                · exact absurd c160 c171
                · refine g_bipush C (pc := 174) (-4) dX12_blow_174 (by decide) ?_
                  refine g_goto C (pc := 176) 181 dX12_blow_176 (by decide) ?_
                  refine g_iret C hR (pc := 181) rfl dX12_blow_181 ?_
                  refine ⟨rfl, _, rfl, ?_⟩
                  refine ⟨Or.inr ⟨hu9, Or.inr ⟨hov, ?_⟩⟩, hkJ⟩
                  unfold blwA
                  first
                  | (rw [hbf]; done)
                  | (rw [hbf]
                     show _ = if u = 0 then nI ff else _
                     rw [if_pos c164, h4, hbf]; rfl)
              · obtain ⟨ff, kf, hbf⟩ : ∃ ff kf, blowF F b tn tl (pw 5 tn) = some (ff, kf) := by
                  cases h9 : blowF F b tn tl (pw 5 tn) with
                  | none => exact absurd (h5.trans (by rw [h9]; rfl)) c160
                  | some q => exact ⟨q.1, q.2, rfl⟩
                have hp9 : pw 5 tn ≤ 125 := by
                  have h7 : ∀ t, t ≤ 3 → pw 5 t ≤ 125 := by decide
                  exact h7 tn ht3
                have hbl := blowF_le hbf
                refine g_iload_n C (pc := 163) dX12_blow_163 6 rfl ?_
                refine g_if_ne C (pc := 164) 182 dX12_blow_164 (by decide) (fun c164 => ?_) (fun c164 => ?_)
                · obtain ⟨i, hi3, hui⟩ := asked_of hu9 c164
                  refine g_aload_n C (pc := 182) dX12_blow_182 5 rfl ?_
                  refine g_iload C (pc := 183) dX12_blow_183 1 rfl ?_
                  refine g_iload_n C (pc := 185) dX12_blow_185 4 rfl ?_
                  refine g_callVI C (pc := 186) mf_X12_blownOf lk_RX12_343 (c_X12_blownOf n ρ J kf tn tl _ _ hn9 hms ht3 (fun q hq => by rw [hkJ.2 98 (by decide)]; exact htl q hq) (by omega) (h5.trans (by rw [hbf]; rfl)) h43) (by decide) (Nat.le_refl _) rfl (by first | assumption | rfl | omega) rfl (by first | assumption | rfl | omega) (Nat.le_of_ble_eq_true rfl) dX12_blow_186 (fun v186 I186 h186 => ?_)
                  obtain ⟨e186, d186, i186, g186⟩ := h186
                  refine g_pop C (pc := 189) dX12_blow_189 rfl ?_
                  refine g_iload_n C (pc := 190) dX12_blow_190 6 rfl ?_
                  refine g_bipush C (pc := 191) 10 dX12_blow_191 (by decide) ?_
                  refine g_isub C (pc := 193) dX12_blow_193 ?_
                  refine g_iload_n C (pc := 194) dX12_blow_194 4 rfl ?_
                  rw [hui, h43]
                  refine g_icmp_ge C (pc := 195) 210 dX12_blow_195 (by decide) (fun c195 => ?_) (fun c195 => ?_)
                  · replace c195 := (nI_leI (by omega) (by omega)).mp c195
                    refine g_bipush C (pc := 210) (-4) dX12_blow_210 (by decide) ?_
                    refine g_iret C hR (pc := 212) rfl dX12_blow_212 ?_
                    refine ⟨rfl, _, rfl, ?_⟩
                    have k186 : Kp J I186 := ⟨fun z9 hz9 => by rw [g186 97 (by decide)], fun i hi => g186 i (by omega)⟩
                    refine ⟨Or.inr ⟨hu9, Or.inr ⟨hov, ?_⟩⟩, hkJ.trans k186⟩
                    unfold blwA
                    rw [hbf]
                    show _ = if u = 0 then nI ff else if (u - 10).toNatClampNeg < tn then nI (dig5 tn kf (u - 10).toNatClampNeg) else -4
                    rw [if_neg c164, hui, nI_clamp (show i < 2 ^ 31 by omega)]
                    first
                    | (rw [if_neg (by omega)]; done)
                    | (rw [if_pos c195]; exact d186 i c195)
                  · replace c195 := (nI_ltI (by omega) (by omega)).mp c195
                    refine g_aload_n C (pc := 198) dX12_blow_198 5 rfl ?_
                    refine g_getR C (pc := 199) fl_RX12_56 (by decide) (by first | assumption | rfl | omega) (by first | assumption | rfl | omega) (by first | assumption | rfl | omega) dX12_blow_199 ?_
                    refine g_iload_n C (pc := 202) dX12_blow_202 6 rfl ?_
                    refine g_bipush C (pc := 203) 10 dX12_blow_203 (by decide) ?_
                    refine g_isub C (pc := 205) dX12_blow_205 ?_
                    rw [hui]
                    refine g_iald C (pc := 206) (by first | assumption | rfl | omega) (by first | assumption | rfl | omega) (vp_in_nI (by omega) (by decide)) dX12_blow_206 ?_
                    rw [nI_clamp (show i < 2 ^ 31 by omega)]
                    refine g_goto C (pc := 207) 212 dX12_blow_207 (by decide) ?_
                    refine g_iret C hR (pc := 212) rfl dX12_blow_212 ?_
                    refine ⟨rfl, _, rfl, ?_⟩
                    have k186 : Kp J I186 := ⟨fun z9 hz9 => by rw [g186 97 (by decide)], fun i hi => g186 i (by omega)⟩
                    refine ⟨Or.inr ⟨hu9, Or.inr ⟨hov, ?_⟩⟩, hkJ.trans k186⟩
                    unfold blwA
                    rw [hbf]
                    show _ = if u = 0 then nI ff else if (u - 10).toNatClampNeg < tn then nI (dig5 tn kf (u - 10).toNatClampNeg) else -4
                    rw [if_neg c164, hui, nI_clamp (show i < 2 ^ 31 by omega)]
                    first
                    | (rw [if_neg (by omega)]; done)
                    | (rw [if_pos c195]; exact d186 i c195)
                · refine g_iload C (pc := 167) dX12_blow_167 1 rfl ?_
                  refine g_bipush C (pc := 169) (-4) dX12_blow_169 (by decide) ?_
                  refine g_icmp_ne C (pc := 171) 179 dX12_blow_171 (by decide) (fun c171 => ?_) (fun c171 => ?_)
                  · refine g_iload C (pc := 179) dX12_blow_179 2 rfl ?_
                    refine g_iret C hR (pc := 181) rfl dX12_blow_181 ?_
                    refine ⟨rfl, _, rfl, ?_⟩
                    refine ⟨Or.inr ⟨hu9, Or.inr ⟨hov, ?_⟩⟩, hkJ⟩
                    unfold blwA
                    first
                    | (rw [hbf]; done)
                    | (rw [hbf]
                       show _ = if u = 0 then nI ff else _
                       rw [if_pos c164, h4, hbf]; rfl)
                  · exact absurd c171 c160
            · rw [h73, nI_ltI (by omega) (by omega)] at c89
              refine g_aload_n C (pc := 92) dX12_blow_92 5 rfl ?_
              refine g_iload C (pc := 93) dX12_blow_93 0 rfl ?_
              refine g_iload_n C (pc := 95) dX12_blow_95 4 rfl ?_
              refine g_callVI C (pc := 96) mf_X12_blownOf lk_RX12_343 (c_X12_blownOf n ρ J j tn tl _ _ hn9 hms ht3 (fun q hq => by rw [hkJ.2 98 (by decide)]; exact htl q hq) (by omega) rfl h43) (by decide) (Nat.le_refl _) rfl (by first | assumption | rfl | omega) rfl (by first | assumption | rfl | omega) (Nat.le_of_ble_eq_true rfl) dX12_blow_96 (fun v96 I96 h96 => ?_)
              obtain ⟨e96, d96, i96, g96⟩ := h96
              have k96 : Kp J I96 := ⟨fun z9 hz9 => by rw [g96 97 (by decide)], fun i hi => g96 i (by omega)⟩
              refine g_istore C (pc := 99) dX12_blow_99 (by decide) (fun v99 => [(7, .int v99), (6, .int (nI j)), (5, .int wz5), (4, .int wz4), (3, .int v73), (2, .int v43), (0, .ref 97), (1, .int u)]) (fun _ => rfl) (fun v99 ev99 => ?_)
              refine g_iload C (pc := 101) dX12_blow_101 0 rfl ?_
              refine g_iload C (pc := 103) dX12_blow_103 3 rfl ?_
              refine g_icmp_ge C (pc := 105) 150 dX12_blow_105 (by decide) (fun c105 => ?_) (fun c105 => ?_)
              · have hst : blowF F b tn tl (j + 1) = blowF F b tn tl j := blow_t (by rw [← h4, ← e96, ← ev99]; exact c105) ht3
                refine g_iinc C (pc := 150) (1) dX12_blow_150 1 rfl (by decide) (by decide) (fun v150 => [(6, .int v150), (7, .int v99), (5, .int wz5), (4, .int wz4), (3, .int v73), (2, .int v43), (0, .ref 97), (1, .int u)]) (fun _ => rfl) (fun v150 ev150 => ?_)
                refine g_goto C (pc := 153) 86 dX12_blow_153 (by decide) ?_
                refine g_lv C [0, 2, 3, 4, 5, 6, 7] rfl (ih86 (j + 1) _ _ _ _ ?_ ?_ ?_ ?_ ?_ (by omega))
                · subst ev150; exact nI_1 _
                · omega
                · first | (rw [hst]; exact h4) | (rw [hst, ev148, if_pos hcan, ev99]; exact e96) | (rw [hst, ev148, if_neg hcan]; exact h4)
                · first | (rw [hst]; exact h5) | (rw [hst, ev132, if_pos hcan]; rfl) | (rw [hst, ev132, if_neg hcan]; exact h5)
                · first | exact (hkJ.trans k96).trans (k109.trans k115) | exact hkJ.trans k96
              · have hst := blow_f (F := F) (b := b) (m := tn) (c := j) (tl := tl) (by rw [← h4, ← e96, ← ev99]; exact c105) ht3
                refine g_aload_n C (pc := 108) dX12_blow_108 6 rfl ?_
                refine g_callVV C (pc := 109) mf_X12_starts lk_RX12_227 (c_X12_starts n ρ I96 hn9 hms) (by decide) (Nat.le_refl _) rfl (by first | assumption | rfl | omega) rfl (by first | assumption | rfl | omega) (Nat.le_of_ble_eq_true rfl) dX12_blow_109 (fun I109 h109 => ?_)
                obtain ⟨a109, b109, d109, g109⟩ := h109
                have hq2 : QN I96 F b := hqn.kp (hkJ.trans k96)
                have f109 : QB I109 F b := ⟨fun p hp => by rw [(a109 p (by omega)).1, (a109 p (by omega)).2]; exact hq2.2.2.1 p hp, b109.trans hq2.2.2.2⟩
                have k109 : Kp I96 I109 := Kp.qb d109 g109
                have s109 : I109 113 = I96 113 := g109 113 (by decide) (by decide) (by decide)
                refine g_aload_n C (pc := 112) dX12_blow_112 6 rfl ?_
                refine g_iload_n C (pc := 113) dX12_blow_113 5 rfl ?_
                refine g_iconst C (pc := 114) 2 dX12_blow_114 (by decide) ?_
                refine g_callVV C (pc := 115) mf_X12_findRows lk_RX12_339 (c_X12_findRowsB n ρ I109 F b (dig5 tn j) tn _ 2 hn9 hms (hqf.kp ((hkJ.trans k96).trans k109)) hrw (hqe.kp ((hkJ.trans k96).trans k109)) f109 hbw hl1 hpw h43 ht3 rfl (fun q hq => ⟨by rw [s109]; exact d96 q hq, by unfold dig5; exact Nat.mod_lt _ (by decide)⟩) hov) (by decide) (Nat.le_refl _) rfl (by first | assumption | rfl | omega) rfl (by first | assumption | rfl | omega) (Nat.le_of_ble_eq_true rfl) dX12_blow_115 (fun I115 h115 => ?_)
                obtain ⟨f115, k115⟩ := h115
                rw [wdL_dig] at f115
                refine g_aload_n C (pc := 118) dX12_blow_118 6 rfl ?_
                refine g_getI C (pc := 119) fl_RX12_325 (by decide) (by first | assumption | rfl | omega) (by first | assumption | rfl | omega) dX12_blow_119 ?_
                refine g_if_eq C (pc := 122) 130 dX12_blow_122 (by decide) (fun c122 => ?_) (fun c122 => ?_)
                · have hcan : ¬ canB F (bM b) (digL tn j) b = true := bI_0.mp (f115.symm.trans c122)
                  refine g_iload C (pc := 130) dX12_blow_130 2 rfl ?_
                  refine g_istore C (pc := 132) dX12_blow_132 (by decide) (fun v132 => [(5, .int v132), (7, .int v99), (6, .int (nI j)), (4, .int wz4), (3, .int v73), (2, .int v43), (0, .ref 97), (1, .int u)]) (fun _ => rfl) (fun v132 ev132 => ?_)
                  refine g_aload_n C (pc := 134) dX12_blow_134 6 rfl ?_
                  refine g_getI C (pc := 135) fl_RX12_325 (by decide) (by first | assumption | rfl | omega) (by first | assumption | rfl | omega) dX12_blow_135 ?_
                  refine g_if_eq C (pc := 138) 146 dX12_blow_138 (by decide) (fun c138 => ?_) (fun c138 => ?_)
                  · refine g_iload C (pc := 146) dX12_blow_146 3 rfl ?_
                    refine g_istore C (pc := 148) dX12_blow_148 (by decide) (fun v148 => [(4, .int v148), (5, .int v132), (7, .int v99), (6, .int (nI j)), (3, .int v73), (2, .int v43), (0, .ref 97), (1, .int u)]) (fun _ => rfl) (fun v148 ev148 => ?_)
                    refine g_iinc C (pc := 150) (1) dX12_blow_150 3 rfl (by decide) (by decide) (fun v150 => [(6, .int v150), (4, .int v148), (5, .int v132), (7, .int v99), (3, .int v73), (2, .int v43), (0, .ref 97), (1, .int u)]) (fun _ => rfl) (fun v150 ev150 => ?_)
                    refine g_goto C (pc := 153) 86 dX12_blow_153 (by decide) ?_
                    refine g_lv C [0, 2, 1, 4, 5, 6, 7] rfl (ih86 (j + 1) _ _ _ _ ?_ ?_ ?_ ?_ ?_ (by omega))
                    · subst ev150; exact nI_1 _
                    · omega
                    · first | (rw [hst]; exact h4) | (rw [hst, ev148, if_pos hcan, ev99]; exact e96) | (rw [hst, ev148, if_neg hcan]; exact h4)
                    · first | (rw [hst]; exact h5) | (rw [hst, ev132, if_pos hcan]; rfl) | (rw [hst, ev132, if_neg hcan]; exact h5)
                    · first | exact (hkJ.trans k96).trans (k109.trans k115) | exact hkJ.trans k96
                  · exact absurd c122 c138
                · have hcan : canB F (bM b) (digL tn j) b = true := bI_1.mp (fun h => c122 (f115.trans h))
                  refine g_iload C (pc := 125) dX12_blow_125 1 rfl ?_
                  refine g_goto C (pc := 127) 132 dX12_blow_127 (by decide) ?_
                  refine g_istore C (pc := 132) dX12_blow_132 (by decide) (fun v132 => [(5, .int v132), (7, .int v99), (6, .int (nI j)), (4, .int wz4), (3, .int v73), (2, .int v43), (0, .ref 97), (1, .int u)]) (fun _ => rfl) (fun v132 ev132 => ?_)
                  refine g_aload_n C (pc := 134) dX12_blow_134 6 rfl ?_
                  refine g_getI C (pc := 135) fl_RX12_325 (by decide) (by first | assumption | rfl | omega) (by first | assumption | rfl | omega) dX12_blow_135 ?_
                  refine g_if_eq C (pc := 138) 146 dX12_blow_138 (by decide) (fun c138 => ?_) (fun c138 => ?_)
                  · exact absurd c138 c122
                  · refine g_iload C (pc := 141) dX12_blow_141 1 rfl ?_
                    refine g_goto C (pc := 143) 148 dX12_blow_143 (by decide) ?_
                    refine g_istore C (pc := 148) dX12_blow_148 (by decide) (fun v148 => [(4, .int v148), (5, .int v132), (7, .int v99), (6, .int (nI j)), (3, .int v73), (2, .int v43), (0, .ref 97), (1, .int u)]) (fun _ => rfl) (fun v148 ev148 => ?_)
                    refine g_iinc C (pc := 150) (1) dX12_blow_150 3 rfl (by decide) (by decide) (fun v150 => [(6, .int v150), (4, .int v148), (5, .int v132), (7, .int v99), (3, .int v73), (2, .int v43), (0, .ref 97), (1, .int u)]) (fun _ => rfl) (fun v150 ev150 => ?_)
                    refine g_goto C (pc := 153) 86 dX12_blow_153 (by decide) ?_
                    refine g_lv C [0, 2, 1, 4, 5, 6, 7] rfl (ih86 (j + 1) _ _ _ _ ?_ ?_ ?_ ?_ ?_ (by omega))
                    · subst ev150; exact nI_1 _
                    · omega
                    · first | (rw [hst]; exact h4) | (rw [hst, ev148, if_pos hcan, ev99]; exact e96) | (rw [hst, ev148, if_neg hcan]; exact h4)
                    · first | (rw [hst]; exact h5) | (rw [hst, ev132, if_pos hcan]; rfl) | (rw [hst, ev132, if_neg hcan]; exact h5)
                    · first | exact (hkJ.trans k96).trans (k109.trans k115) | exact hkJ.trans k96
        refine g_lv C [0, 1, 2, 3, 4, 5, 6] rfl (L86 (_ + 1) 0 _ _ _ _ ?_ ?_ ?_ ?_ ?_ (by first | omega | exact Nat.lt_succ_self _))
        · subst ev84; rfl
        · omega
        · subst ev77; rfl
        · subst ev81; rfl
        · exact k21
    · have hov : ¬ lostB F b = none := fun h9 => c30 (by rw [e25, h9]; rfl)
      refine g_bipush C (pc := 33) (-2) dX12_blow_33 (by decide) ?_
      refine g_iret C hR (pc := 35) rfl dX12_blow_35 ?_
      refine ⟨rfl, _, rfl, ?_⟩
      exact ⟨Or.inr ⟨hu9, Or.inl ⟨hov, rfl⟩⟩, k21⟩
  · refine g_iload_n C (pc := 4) dX12_blow_4 1 rfl ?_
    refine g_i2l C (pc := 5) dX12_blow_5 ?_
    refine g_ldc2 C (pc := 6) _ gk_RX12_335 dX12_blow_6 ?_
    refine g_ldc2 C (pc := 9) _ gk_RX12_337 dX12_blow_9 ?_
    refine g_callSI C (pc := 12) mf_X12_in lk_RX12_113 (c_X12_in n ρ I _ _ _ hn9) (by decide) (Nat.le_refl _) rfl (Nat.le_of_ble_eq_true rfl) dX12_blow_12 (fun v12 I12 h12 => ?_)
    obtain ⟨e12, rfl⟩ := h12
    refine g_if_ne C (pc := 15) 20 dX12_blow_15 (by decide) (fun c15 => ?_) (fun c15 => ?_)
    · obtain ⟨q, hql, hqh, huq⟩ := (inL (x := u) (lo := 10) (hi := 12) (by decide) (by decide)).mp (bI_1.mp (fun h => c15 (e12.trans h)))
      have hu9 : u = 0 ∨ (10 ≤ u ∧ u ≤ 12) := Or.inr ⟨by rw [huq]; exact nI_le (a := 10) hql (by omega), by rw [huq]; exact nI_le (b := 12) hqh (by decide)⟩
      refine g_aload_n C (pc := 20) dX12_blow_20 0 rfl ?_
      refine g_callVV C (pc := 21) mf_X12_starts lk_RX12_227 (c_X12_startsB n ρ I F b hn9 hms hqn hrw hbw) (by decide) (Nat.le_refl _) rfl (by first | assumption | rfl | omega) rfl (by first | assumption | rfl | omega) (Nat.le_of_ble_eq_true rfl) dX12_blow_21 (fun I21 h21 => ?_)
      obtain ⟨f21, k21⟩ := h21
      refine g_aload_n C (pc := 24) dX12_blow_24 0 rfl ?_
      refine g_callVI C (pc := 25) mf_X12_lost lk_RX12_221 (c_X12_lost n ρ I21 F b hn9 hms (hqf.kp k21) hrw f21 hbw hl1) (by decide) (Nat.le_refl _) rfl (by first | assumption | rfl | omega) rfl (by first | assumption | rfl | omega) (Nat.le_of_ble_eq_true rfl) dX12_blow_25 (fun v25 I25 h25 => ?_)
      obtain ⟨e25, rfl⟩ := h25
      refine g_bipush C (pc := 28) (-4) dX12_blow_28 (by decide) ?_
      refine g_icmp_eq C (pc := 30) 36 dX12_blow_30 (by decide) (fun c30 => ?_) (fun c30 => ?_)
      · have hov : lostB F b = none := (oI_none (lostB_lt2 hrw)).mp (e25.symm.trans c30)
        refine g_aload_n C (pc := 36) dX12_blow_36 0 rfl ?_
        refine g_getR C (pc := 37) fl_RX12_7 (by decide) (by first | assumption | rfl | omega) (by first | assumption | rfl | omega) (by first | assumption | rfl | omega) dX12_blow_37 ?_
        refine g_bipush C (pc := 40) 37 dX12_blow_40 (by decide) ?_
        refine g_iald C (pc := 42) (by first | assumption | rfl | omega) (by first | assumption | rfl | omega) (vp_in_nI (n := 37) (by decide) (by decide)) dX12_blow_42 ?_
        refine g_istore_n C (pc := 43) dX12_blow_43 (by decide) (fun v43 => [(2, .int v43), (0, .ref 97), (1, .int u)]) (fun _ => rfl) (fun v43 ev43 => ?_)
        have h43 : v43 = nI tn := by rw [ev43, k21.2 98 (by decide)]; exact htn
        refine g_iload_n C (pc := 44) dX12_blow_44 0 rfl ?_
        refine g_if_ne C (pc := 45) 52 dX12_blow_45 (by decide) (fun c45 => ?_) (fun c45 => ?_)
        · refine g_iload_n C (pc := 52) dX12_blow_52 0 rfl ?_
          refine g_iconst C (pc := 53) 1 dX12_blow_53 (by decide) ?_
          refine g_icmp_ne C (pc := 54) 61 dX12_blow_54 (by decide) (fun c54 => ?_) (fun c54 => ?_)
          · refine g_iload_n C (pc := 61) dX12_blow_61 0 rfl ?_
            refine g_iconst C (pc := 62) 2 dX12_blow_62 (by decide) ?_
            refine g_icmp_ne C (pc := 63) 71 dX12_blow_63 (by decide) (fun c63 => ?_) (fun c63 => ?_)
            · have h73a : (125 : Int32) = nI (rwN tn) := by
                have h0 : tn ≠ 0 := fun h => c45 (by rw [h43, h]; rfl)
                have h1 : tn ≠ 1 := fun h => c54 (by rw [h43, h]; rfl)
                have h2 : tn ≠ 2 := fun h => c63 (by rw [h43, h]; rfl)
                have : tn = 3 := by omega
                subst this; rfl
              refine g_bipush C (pc := 71) 125 dX12_blow_71 (by decide) ?_
              refine g_istore_n C (pc := 73) dX12_blow_73 (by decide) (fun v73 => [(3, .int v73), (2, .int v43), (0, .ref 97), (1, .int u)]) (fun _ => rfl) (fun v73 ev73 => ?_)
              have h73 : v73 = nI (rwN tn) := ev73.trans h73a
              refine g_ldc_w C (pc := 74) _ gk_RX12_342 dX12_blow_74 ?_
              refine g_istore C (pc := 77) dX12_blow_77 (by decide) (fun v77 => [(4, .int v77), (3, .int v73), (2, .int v43), (0, .ref 97), (1, .int u)]) (fun _ => rfl) (fun v77 ev77 => ?_)
              refine g_bipush C (pc := 79) (-4) dX12_blow_79 (by decide) ?_
              refine g_istore C (pc := 81) dX12_blow_81 (by decide) (fun v81 => [(5, .int v81), (4, .int v77), (3, .int v73), (2, .int v43), (0, .ref 97), (1, .int u)]) (fun _ => rfl) (fun v81 ev81 => ?_)
              refine g_iconst C (pc := 83) 0 dX12_blow_83 (by decide) ?_
              refine g_istore C (pc := 84) dX12_blow_84 (by decide) (fun v84 => [(6, .int v84), (5, .int v81), (4, .int v77), (3, .int v73), (2, .int v43), (0, .ref 97), (1, .int u)]) (fun _ => rfl) (fun v84 ev84 => ?_)
              have L86 : ∀ (k9 : Nat) (j : Nat) (wz6 : Int32) (wz5 : Int32) (wz4 : Int32) (J : Mem) (hw6 : wz6 = nI j) (hj : j ≤ rwN tn) (h4 : wz4 = fwI (blowF F b tn tl j)) (h5 : wz5 = fdI (blowF F b tn tl j)) (hkJ : Kp I J), rwN tn - j < k9 → G κ n ρ 86 [(6, .int wz6), (5, .int wz5), (4, .int wz4), (3, .int v73), (2, .int v43), (0, .ref 97), (1, .int u)] [] J := by
                intro k9
                induction k9 with
                | zero => intro j wz6 wz5 wz4 J hw6 hj h4 h5 hkJ hm86; exact absurd hm86 (Nat.not_lt_zero _)
                | succ k9 ih86 =>
                  intro j wz6 wz5 wz4 J hw6 hj h4 h5 hkJ hm86
                  subst hw6
                  have hr125 := rwN_le ht3
                  refine g_iload C (pc := 86) dX12_blow_86 0 rfl ?_
                  refine g_iload_n C (pc := 88) dX12_blow_88 3 rfl ?_
                  refine g_icmp_ge C (pc := 89) 156 dX12_blow_89 (by decide) (fun c89 => ?_) (fun c89 => ?_)
                  · have hjr : j = rwN tn := by
                      rw [h73, nI_leI (by omega) (by omega)] at c89
                      omega
                    subst hjr
                    rw [rwN_all hov] at h4 h5
                    refine g_iload C (pc := 156) dX12_blow_156 1 rfl ?_
                    refine g_bipush C (pc := 158) (-4) dX12_blow_158 (by decide) ?_
                    refine g_icmp_eq C (pc := 160) 167 dX12_blow_160 (by decide) (fun c160 => ?_) (fun c160 => ?_)
                    · have hbf : blowF F b tn tl (pw 5 tn) = none := by
                        cases h9 : blowF F b tn tl (pw 5 tn) with
                        | none => rfl
                        | some q =>
                          obtain ⟨f9, k9⟩ := q
                          have h8 := blowF_le h9
                          have hp9 : pw 5 tn ≤ 125 := by
                            have h7 : ∀ t, t ≤ 3 → pw 5 t ≤ 125 := by decide
                            exact h7 tn ht3
                          rw [h5, h9] at c160; exact absurd c160 (nI_ne4 (by omega))
                      refine g_iload C (pc := 167) dX12_blow_167 1 rfl ?_
                      refine g_bipush C (pc := 169) (-4) dX12_blow_169 (by decide) ?_
                      refine g_icmp_ne C (pc := 171) 179 dX12_blow_171 (by decide) (fun c171 => ?_) (fun c171 => ?_)
                      · exact absurd c160 c171
                      · refine g_bipush C (pc := 174) (-4) dX12_blow_174 (by decide) ?_
                        refine g_goto C (pc := 176) 181 dX12_blow_176 (by decide) ?_
                        refine g_iret C hR (pc := 181) rfl dX12_blow_181 ?_
                        refine ⟨rfl, _, rfl, ?_⟩
                        refine ⟨Or.inr ⟨hu9, Or.inr ⟨hov, ?_⟩⟩, hkJ⟩
                        unfold blwA
                        first
                        | (rw [hbf]; done)
                        | (rw [hbf]
                           show _ = if u = 0 then nI ff else _
                           rw [if_pos c164, h4, hbf]; rfl)
                    · obtain ⟨ff, kf, hbf⟩ : ∃ ff kf, blowF F b tn tl (pw 5 tn) = some (ff, kf) := by
                        cases h9 : blowF F b tn tl (pw 5 tn) with
                        | none => exact absurd (h5.trans (by rw [h9]; rfl)) c160
                        | some q => exact ⟨q.1, q.2, rfl⟩
                      have hp9 : pw 5 tn ≤ 125 := by
                        have h7 : ∀ t, t ≤ 3 → pw 5 t ≤ 125 := by decide
                        exact h7 tn ht3
                      have hbl := blowF_le hbf
                      refine g_iload_n C (pc := 163) dX12_blow_163 6 rfl ?_
                      refine g_if_ne C (pc := 164) 182 dX12_blow_164 (by decide) (fun c164 => ?_) (fun c164 => ?_)
                      · obtain ⟨i, hi3, hui⟩ := asked_of hu9 c164
                        refine g_aload_n C (pc := 182) dX12_blow_182 5 rfl ?_
                        refine g_iload C (pc := 183) dX12_blow_183 1 rfl ?_
                        refine g_iload_n C (pc := 185) dX12_blow_185 4 rfl ?_
                        refine g_callVI C (pc := 186) mf_X12_blownOf lk_RX12_343 (c_X12_blownOf n ρ J kf tn tl _ _ hn9 hms ht3 (fun q hq => by rw [hkJ.2 98 (by decide)]; exact htl q hq) (by omega) (h5.trans (by rw [hbf]; rfl)) h43) (by decide) (Nat.le_refl _) rfl (by first | assumption | rfl | omega) rfl (by first | assumption | rfl | omega) (Nat.le_of_ble_eq_true rfl) dX12_blow_186 (fun v186 I186 h186 => ?_)
                        obtain ⟨e186, d186, i186, g186⟩ := h186
                        refine g_pop C (pc := 189) dX12_blow_189 rfl ?_
                        refine g_iload_n C (pc := 190) dX12_blow_190 6 rfl ?_
                        refine g_bipush C (pc := 191) 10 dX12_blow_191 (by decide) ?_
                        refine g_isub C (pc := 193) dX12_blow_193 ?_
                        refine g_iload_n C (pc := 194) dX12_blow_194 4 rfl ?_
                        rw [hui, h43]
                        refine g_icmp_ge C (pc := 195) 210 dX12_blow_195 (by decide) (fun c195 => ?_) (fun c195 => ?_)
                        · replace c195 := (nI_leI (by omega) (by omega)).mp c195
                          refine g_bipush C (pc := 210) (-4) dX12_blow_210 (by decide) ?_
                          refine g_iret C hR (pc := 212) rfl dX12_blow_212 ?_
                          refine ⟨rfl, _, rfl, ?_⟩
                          have k186 : Kp J I186 := ⟨fun z9 hz9 => by rw [g186 97 (by decide)], fun i hi => g186 i (by omega)⟩
                          refine ⟨Or.inr ⟨hu9, Or.inr ⟨hov, ?_⟩⟩, hkJ.trans k186⟩
                          unfold blwA
                          rw [hbf]
                          show _ = if u = 0 then nI ff else if (u - 10).toNatClampNeg < tn then nI (dig5 tn kf (u - 10).toNatClampNeg) else -4
                          rw [if_neg c164, hui, nI_clamp (show i < 2 ^ 31 by omega)]
                          first
                          | (rw [if_neg (by omega)]; done)
                          | (rw [if_pos c195]; exact d186 i c195)
                        · replace c195 := (nI_ltI (by omega) (by omega)).mp c195
                          refine g_aload_n C (pc := 198) dX12_blow_198 5 rfl ?_
                          refine g_getR C (pc := 199) fl_RX12_56 (by decide) (by first | assumption | rfl | omega) (by first | assumption | rfl | omega) (by first | assumption | rfl | omega) dX12_blow_199 ?_
                          refine g_iload_n C (pc := 202) dX12_blow_202 6 rfl ?_
                          refine g_bipush C (pc := 203) 10 dX12_blow_203 (by decide) ?_
                          refine g_isub C (pc := 205) dX12_blow_205 ?_
                          rw [hui]
                          refine g_iald C (pc := 206) (by first | assumption | rfl | omega) (by first | assumption | rfl | omega) (vp_in_nI (by omega) (by decide)) dX12_blow_206 ?_
                          rw [nI_clamp (show i < 2 ^ 31 by omega)]
                          refine g_goto C (pc := 207) 212 dX12_blow_207 (by decide) ?_
                          refine g_iret C hR (pc := 212) rfl dX12_blow_212 ?_
                          refine ⟨rfl, _, rfl, ?_⟩
                          have k186 : Kp J I186 := ⟨fun z9 hz9 => by rw [g186 97 (by decide)], fun i hi => g186 i (by omega)⟩
                          refine ⟨Or.inr ⟨hu9, Or.inr ⟨hov, ?_⟩⟩, hkJ.trans k186⟩
                          unfold blwA
                          rw [hbf]
                          show _ = if u = 0 then nI ff else if (u - 10).toNatClampNeg < tn then nI (dig5 tn kf (u - 10).toNatClampNeg) else -4
                          rw [if_neg c164, hui, nI_clamp (show i < 2 ^ 31 by omega)]
                          first
                          | (rw [if_neg (by omega)]; done)
                          | (rw [if_pos c195]; exact d186 i c195)
                      · refine g_iload C (pc := 167) dX12_blow_167 1 rfl ?_
                        refine g_bipush C (pc := 169) (-4) dX12_blow_169 (by decide) ?_
                        refine g_icmp_ne C (pc := 171) 179 dX12_blow_171 (by decide) (fun c171 => ?_) (fun c171 => ?_)
                        · refine g_iload C (pc := 179) dX12_blow_179 2 rfl ?_
                          refine g_iret C hR (pc := 181) rfl dX12_blow_181 ?_
                          refine ⟨rfl, _, rfl, ?_⟩
                          refine ⟨Or.inr ⟨hu9, Or.inr ⟨hov, ?_⟩⟩, hkJ⟩
                          unfold blwA
                          first
                          | (rw [hbf]; done)
                          | (rw [hbf]
                             show _ = if u = 0 then nI ff else _
                             rw [if_pos c164, h4, hbf]; rfl)
                        · exact absurd c171 c160
                  · rw [h73, nI_ltI (by omega) (by omega)] at c89
                    refine g_aload_n C (pc := 92) dX12_blow_92 5 rfl ?_
                    refine g_iload C (pc := 93) dX12_blow_93 0 rfl ?_
                    refine g_iload_n C (pc := 95) dX12_blow_95 4 rfl ?_
                    refine g_callVI C (pc := 96) mf_X12_blownOf lk_RX12_343 (c_X12_blownOf n ρ J j tn tl _ _ hn9 hms ht3 (fun q hq => by rw [hkJ.2 98 (by decide)]; exact htl q hq) (by omega) rfl h43) (by decide) (Nat.le_refl _) rfl (by first | assumption | rfl | omega) rfl (by first | assumption | rfl | omega) (Nat.le_of_ble_eq_true rfl) dX12_blow_96 (fun v96 I96 h96 => ?_)
                    obtain ⟨e96, d96, i96, g96⟩ := h96
                    have k96 : Kp J I96 := ⟨fun z9 hz9 => by rw [g96 97 (by decide)], fun i hi => g96 i (by omega)⟩
                    refine g_istore C (pc := 99) dX12_blow_99 (by decide) (fun v99 => [(7, .int v99), (6, .int (nI j)), (5, .int wz5), (4, .int wz4), (3, .int v73), (2, .int v43), (0, .ref 97), (1, .int u)]) (fun _ => rfl) (fun v99 ev99 => ?_)
                    refine g_iload C (pc := 101) dX12_blow_101 0 rfl ?_
                    refine g_iload C (pc := 103) dX12_blow_103 3 rfl ?_
                    refine g_icmp_ge C (pc := 105) 150 dX12_blow_105 (by decide) (fun c105 => ?_) (fun c105 => ?_)
                    · have hst : blowF F b tn tl (j + 1) = blowF F b tn tl j := blow_t (by rw [← h4, ← e96, ← ev99]; exact c105) ht3
                      refine g_iinc C (pc := 150) (1) dX12_blow_150 1 rfl (by decide) (by decide) (fun v150 => [(6, .int v150), (7, .int v99), (5, .int wz5), (4, .int wz4), (3, .int v73), (2, .int v43), (0, .ref 97), (1, .int u)]) (fun _ => rfl) (fun v150 ev150 => ?_)
                      refine g_goto C (pc := 153) 86 dX12_blow_153 (by decide) ?_
                      refine g_lv C [0, 2, 3, 4, 5, 6, 7] rfl (ih86 (j + 1) _ _ _ _ ?_ ?_ ?_ ?_ ?_ (by omega))
                      · subst ev150; exact nI_1 _
                      · omega
                      · first | (rw [hst]; exact h4) | (rw [hst, ev148, if_pos hcan, ev99]; exact e96) | (rw [hst, ev148, if_neg hcan]; exact h4)
                      · first | (rw [hst]; exact h5) | (rw [hst, ev132, if_pos hcan]; rfl) | (rw [hst, ev132, if_neg hcan]; exact h5)
                      · first | exact (hkJ.trans k96).trans (k109.trans k115) | exact hkJ.trans k96
                    · have hst := blow_f (F := F) (b := b) (m := tn) (c := j) (tl := tl) (by rw [← h4, ← e96, ← ev99]; exact c105) ht3
                      refine g_aload_n C (pc := 108) dX12_blow_108 6 rfl ?_
                      refine g_callVV C (pc := 109) mf_X12_starts lk_RX12_227 (c_X12_starts n ρ I96 hn9 hms) (by decide) (Nat.le_refl _) rfl (by first | assumption | rfl | omega) rfl (by first | assumption | rfl | omega) (Nat.le_of_ble_eq_true rfl) dX12_blow_109 (fun I109 h109 => ?_)
                      obtain ⟨a109, b109, d109, g109⟩ := h109
                      have hq2 : QN I96 F b := hqn.kp (hkJ.trans k96)
                      have f109 : QB I109 F b := ⟨fun p hp => by rw [(a109 p (by omega)).1, (a109 p (by omega)).2]; exact hq2.2.2.1 p hp, b109.trans hq2.2.2.2⟩
                      have k109 : Kp I96 I109 := Kp.qb d109 g109
                      have s109 : I109 113 = I96 113 := g109 113 (by decide) (by decide) (by decide)
                      refine g_aload_n C (pc := 112) dX12_blow_112 6 rfl ?_
                      refine g_iload_n C (pc := 113) dX12_blow_113 5 rfl ?_
                      refine g_iconst C (pc := 114) 2 dX12_blow_114 (by decide) ?_
                      refine g_callVV C (pc := 115) mf_X12_findRows lk_RX12_339 (c_X12_findRowsB n ρ I109 F b (dig5 tn j) tn _ 2 hn9 hms (hqf.kp ((hkJ.trans k96).trans k109)) hrw (hqe.kp ((hkJ.trans k96).trans k109)) f109 hbw hl1 hpw h43 ht3 rfl (fun q hq => ⟨by rw [s109]; exact d96 q hq, by unfold dig5; exact Nat.mod_lt _ (by decide)⟩) hov) (by decide) (Nat.le_refl _) rfl (by first | assumption | rfl | omega) rfl (by first | assumption | rfl | omega) (Nat.le_of_ble_eq_true rfl) dX12_blow_115 (fun I115 h115 => ?_)
                      obtain ⟨f115, k115⟩ := h115
                      rw [wdL_dig] at f115
                      refine g_aload_n C (pc := 118) dX12_blow_118 6 rfl ?_
                      refine g_getI C (pc := 119) fl_RX12_325 (by decide) (by first | assumption | rfl | omega) (by first | assumption | rfl | omega) dX12_blow_119 ?_
                      refine g_if_eq C (pc := 122) 130 dX12_blow_122 (by decide) (fun c122 => ?_) (fun c122 => ?_)
                      · have hcan : ¬ canB F (bM b) (digL tn j) b = true := bI_0.mp (f115.symm.trans c122)
                        refine g_iload C (pc := 130) dX12_blow_130 2 rfl ?_
                        refine g_istore C (pc := 132) dX12_blow_132 (by decide) (fun v132 => [(5, .int v132), (7, .int v99), (6, .int (nI j)), (4, .int wz4), (3, .int v73), (2, .int v43), (0, .ref 97), (1, .int u)]) (fun _ => rfl) (fun v132 ev132 => ?_)
                        refine g_aload_n C (pc := 134) dX12_blow_134 6 rfl ?_
                        refine g_getI C (pc := 135) fl_RX12_325 (by decide) (by first | assumption | rfl | omega) (by first | assumption | rfl | omega) dX12_blow_135 ?_
                        refine g_if_eq C (pc := 138) 146 dX12_blow_138 (by decide) (fun c138 => ?_) (fun c138 => ?_)
                        · refine g_iload C (pc := 146) dX12_blow_146 3 rfl ?_
                          refine g_istore C (pc := 148) dX12_blow_148 (by decide) (fun v148 => [(4, .int v148), (5, .int v132), (7, .int v99), (6, .int (nI j)), (3, .int v73), (2, .int v43), (0, .ref 97), (1, .int u)]) (fun _ => rfl) (fun v148 ev148 => ?_)
                          refine g_iinc C (pc := 150) (1) dX12_blow_150 3 rfl (by decide) (by decide) (fun v150 => [(6, .int v150), (4, .int v148), (5, .int v132), (7, .int v99), (3, .int v73), (2, .int v43), (0, .ref 97), (1, .int u)]) (fun _ => rfl) (fun v150 ev150 => ?_)
                          refine g_goto C (pc := 153) 86 dX12_blow_153 (by decide) ?_
                          refine g_lv C [0, 2, 1, 4, 5, 6, 7] rfl (ih86 (j + 1) _ _ _ _ ?_ ?_ ?_ ?_ ?_ (by omega))
                          · subst ev150; exact nI_1 _
                          · omega
                          · first | (rw [hst]; exact h4) | (rw [hst, ev148, if_pos hcan, ev99]; exact e96) | (rw [hst, ev148, if_neg hcan]; exact h4)
                          · first | (rw [hst]; exact h5) | (rw [hst, ev132, if_pos hcan]; rfl) | (rw [hst, ev132, if_neg hcan]; exact h5)
                          · first | exact (hkJ.trans k96).trans (k109.trans k115) | exact hkJ.trans k96
                        · exact absurd c122 c138
                      · have hcan : canB F (bM b) (digL tn j) b = true := bI_1.mp (fun h => c122 (f115.trans h))
                        refine g_iload C (pc := 125) dX12_blow_125 1 rfl ?_
                        refine g_goto C (pc := 127) 132 dX12_blow_127 (by decide) ?_
                        refine g_istore C (pc := 132) dX12_blow_132 (by decide) (fun v132 => [(5, .int v132), (7, .int v99), (6, .int (nI j)), (4, .int wz4), (3, .int v73), (2, .int v43), (0, .ref 97), (1, .int u)]) (fun _ => rfl) (fun v132 ev132 => ?_)
                        refine g_aload_n C (pc := 134) dX12_blow_134 6 rfl ?_
                        refine g_getI C (pc := 135) fl_RX12_325 (by decide) (by first | assumption | rfl | omega) (by first | assumption | rfl | omega) dX12_blow_135 ?_
                        refine g_if_eq C (pc := 138) 146 dX12_blow_138 (by decide) (fun c138 => ?_) (fun c138 => ?_)
                        · exact absurd c138 c122
                        · refine g_iload C (pc := 141) dX12_blow_141 1 rfl ?_
                          refine g_goto C (pc := 143) 148 dX12_blow_143 (by decide) ?_
                          refine g_istore C (pc := 148) dX12_blow_148 (by decide) (fun v148 => [(4, .int v148), (5, .int v132), (7, .int v99), (6, .int (nI j)), (3, .int v73), (2, .int v43), (0, .ref 97), (1, .int u)]) (fun _ => rfl) (fun v148 ev148 => ?_)
                          refine g_iinc C (pc := 150) (1) dX12_blow_150 3 rfl (by decide) (by decide) (fun v150 => [(6, .int v150), (4, .int v148), (5, .int v132), (7, .int v99), (3, .int v73), (2, .int v43), (0, .ref 97), (1, .int u)]) (fun _ => rfl) (fun v150 ev150 => ?_)
                          refine g_goto C (pc := 153) 86 dX12_blow_153 (by decide) ?_
                          refine g_lv C [0, 2, 1, 4, 5, 6, 7] rfl (ih86 (j + 1) _ _ _ _ ?_ ?_ ?_ ?_ ?_ (by omega))
                          · subst ev150; exact nI_1 _
                          · omega
                          · first | (rw [hst]; exact h4) | (rw [hst, ev148, if_pos hcan, ev99]; exact e96) | (rw [hst, ev148, if_neg hcan]; exact h4)
                          · first | (rw [hst]; exact h5) | (rw [hst, ev132, if_pos hcan]; rfl) | (rw [hst, ev132, if_neg hcan]; exact h5)
                          · first | exact (hkJ.trans k96).trans (k109.trans k115) | exact hkJ.trans k96
              refine g_lv C [0, 1, 2, 3, 4, 5, 6] rfl (L86 (_ + 1) 0 _ _ _ _ ?_ ?_ ?_ ?_ ?_ (by first | omega | exact Nat.lt_succ_self _))
              · subst ev84; rfl
              · omega
              · subst ev77; rfl
              · subst ev81; rfl
              · exact k21
            · have h73a : (25 : Int32) = nI (rwN tn) := by
                have : tn = 2 := (nI_eq (b := 2) (by omega) (by decide)).mp (h43.symm.trans c63)
                subst this; rfl
              refine g_bipush C (pc := 66) 25 dX12_blow_66 (by decide) ?_
              refine g_goto C (pc := 68) 73 dX12_blow_68 (by decide) ?_
              refine g_istore_n C (pc := 73) dX12_blow_73 (by decide) (fun v73 => [(3, .int v73), (2, .int v43), (0, .ref 97), (1, .int u)]) (fun _ => rfl) (fun v73 ev73 => ?_)
              have h73 : v73 = nI (rwN tn) := ev73.trans h73a
              refine g_ldc_w C (pc := 74) _ gk_RX12_342 dX12_blow_74 ?_
              refine g_istore C (pc := 77) dX12_blow_77 (by decide) (fun v77 => [(4, .int v77), (3, .int v73), (2, .int v43), (0, .ref 97), (1, .int u)]) (fun _ => rfl) (fun v77 ev77 => ?_)
              refine g_bipush C (pc := 79) (-4) dX12_blow_79 (by decide) ?_
              refine g_istore C (pc := 81) dX12_blow_81 (by decide) (fun v81 => [(5, .int v81), (4, .int v77), (3, .int v73), (2, .int v43), (0, .ref 97), (1, .int u)]) (fun _ => rfl) (fun v81 ev81 => ?_)
              refine g_iconst C (pc := 83) 0 dX12_blow_83 (by decide) ?_
              refine g_istore C (pc := 84) dX12_blow_84 (by decide) (fun v84 => [(6, .int v84), (5, .int v81), (4, .int v77), (3, .int v73), (2, .int v43), (0, .ref 97), (1, .int u)]) (fun _ => rfl) (fun v84 ev84 => ?_)
              have L86 : ∀ (k9 : Nat) (j : Nat) (wz6 : Int32) (wz5 : Int32) (wz4 : Int32) (J : Mem) (hw6 : wz6 = nI j) (hj : j ≤ rwN tn) (h4 : wz4 = fwI (blowF F b tn tl j)) (h5 : wz5 = fdI (blowF F b tn tl j)) (hkJ : Kp I J), rwN tn - j < k9 → G κ n ρ 86 [(6, .int wz6), (5, .int wz5), (4, .int wz4), (3, .int v73), (2, .int v43), (0, .ref 97), (1, .int u)] [] J := by
                intro k9
                induction k9 with
                | zero => intro j wz6 wz5 wz4 J hw6 hj h4 h5 hkJ hm86; exact absurd hm86 (Nat.not_lt_zero _)
                | succ k9 ih86 =>
                  intro j wz6 wz5 wz4 J hw6 hj h4 h5 hkJ hm86
                  subst hw6
                  have hr125 := rwN_le ht3
                  refine g_iload C (pc := 86) dX12_blow_86 0 rfl ?_
                  refine g_iload_n C (pc := 88) dX12_blow_88 3 rfl ?_
                  refine g_icmp_ge C (pc := 89) 156 dX12_blow_89 (by decide) (fun c89 => ?_) (fun c89 => ?_)
                  · have hjr : j = rwN tn := by
                      rw [h73, nI_leI (by omega) (by omega)] at c89
                      omega
                    subst hjr
                    rw [rwN_all hov] at h4 h5
                    refine g_iload C (pc := 156) dX12_blow_156 1 rfl ?_
                    refine g_bipush C (pc := 158) (-4) dX12_blow_158 (by decide) ?_
                    refine g_icmp_eq C (pc := 160) 167 dX12_blow_160 (by decide) (fun c160 => ?_) (fun c160 => ?_)
                    · have hbf : blowF F b tn tl (pw 5 tn) = none := by
                        cases h9 : blowF F b tn tl (pw 5 tn) with
                        | none => rfl
                        | some q =>
                          obtain ⟨f9, k9⟩ := q
                          have h8 := blowF_le h9
                          have hp9 : pw 5 tn ≤ 125 := by
                            have h7 : ∀ t, t ≤ 3 → pw 5 t ≤ 125 := by decide
                            exact h7 tn ht3
                          rw [h5, h9] at c160; exact absurd c160 (nI_ne4 (by omega))
                      refine g_iload C (pc := 167) dX12_blow_167 1 rfl ?_
                      refine g_bipush C (pc := 169) (-4) dX12_blow_169 (by decide) ?_
                      refine g_icmp_ne C (pc := 171) 179 dX12_blow_171 (by decide) (fun c171 => ?_) (fun c171 => ?_)
                      · exact absurd c160 c171
                      · refine g_bipush C (pc := 174) (-4) dX12_blow_174 (by decide) ?_
                        refine g_goto C (pc := 176) 181 dX12_blow_176 (by decide) ?_
                        refine g_iret C hR (pc := 181) rfl dX12_blow_181 ?_
                        refine ⟨rfl, _, rfl, ?_⟩
                        refine ⟨Or.inr ⟨hu9, Or.inr ⟨hov, ?_⟩⟩, hkJ⟩
                        unfold blwA
                        first
                        | (rw [hbf]; done)
                        | (rw [hbf]
                           show _ = if u = 0 then nI ff else _
                           rw [if_pos c164, h4, hbf]; rfl)
                    · obtain ⟨ff, kf, hbf⟩ : ∃ ff kf, blowF F b tn tl (pw 5 tn) = some (ff, kf) := by
                        cases h9 : blowF F b tn tl (pw 5 tn) with
                        | none => exact absurd (h5.trans (by rw [h9]; rfl)) c160
                        | some q => exact ⟨q.1, q.2, rfl⟩
                      have hp9 : pw 5 tn ≤ 125 := by
                        have h7 : ∀ t, t ≤ 3 → pw 5 t ≤ 125 := by decide
                        exact h7 tn ht3
                      have hbl := blowF_le hbf
                      refine g_iload_n C (pc := 163) dX12_blow_163 6 rfl ?_
                      refine g_if_ne C (pc := 164) 182 dX12_blow_164 (by decide) (fun c164 => ?_) (fun c164 => ?_)
                      · obtain ⟨i, hi3, hui⟩ := asked_of hu9 c164
                        refine g_aload_n C (pc := 182) dX12_blow_182 5 rfl ?_
                        refine g_iload C (pc := 183) dX12_blow_183 1 rfl ?_
                        refine g_iload_n C (pc := 185) dX12_blow_185 4 rfl ?_
                        refine g_callVI C (pc := 186) mf_X12_blownOf lk_RX12_343 (c_X12_blownOf n ρ J kf tn tl _ _ hn9 hms ht3 (fun q hq => by rw [hkJ.2 98 (by decide)]; exact htl q hq) (by omega) (h5.trans (by rw [hbf]; rfl)) h43) (by decide) (Nat.le_refl _) rfl (by first | assumption | rfl | omega) rfl (by first | assumption | rfl | omega) (Nat.le_of_ble_eq_true rfl) dX12_blow_186 (fun v186 I186 h186 => ?_)
                        obtain ⟨e186, d186, i186, g186⟩ := h186
                        refine g_pop C (pc := 189) dX12_blow_189 rfl ?_
                        refine g_iload_n C (pc := 190) dX12_blow_190 6 rfl ?_
                        refine g_bipush C (pc := 191) 10 dX12_blow_191 (by decide) ?_
                        refine g_isub C (pc := 193) dX12_blow_193 ?_
                        refine g_iload_n C (pc := 194) dX12_blow_194 4 rfl ?_
                        rw [hui, h43]
                        refine g_icmp_ge C (pc := 195) 210 dX12_blow_195 (by decide) (fun c195 => ?_) (fun c195 => ?_)
                        · replace c195 := (nI_leI (by omega) (by omega)).mp c195
                          refine g_bipush C (pc := 210) (-4) dX12_blow_210 (by decide) ?_
                          refine g_iret C hR (pc := 212) rfl dX12_blow_212 ?_
                          refine ⟨rfl, _, rfl, ?_⟩
                          have k186 : Kp J I186 := ⟨fun z9 hz9 => by rw [g186 97 (by decide)], fun i hi => g186 i (by omega)⟩
                          refine ⟨Or.inr ⟨hu9, Or.inr ⟨hov, ?_⟩⟩, hkJ.trans k186⟩
                          unfold blwA
                          rw [hbf]
                          show _ = if u = 0 then nI ff else if (u - 10).toNatClampNeg < tn then nI (dig5 tn kf (u - 10).toNatClampNeg) else -4
                          rw [if_neg c164, hui, nI_clamp (show i < 2 ^ 31 by omega)]
                          first
                          | (rw [if_neg (by omega)]; done)
                          | (rw [if_pos c195]; exact d186 i c195)
                        · replace c195 := (nI_ltI (by omega) (by omega)).mp c195
                          refine g_aload_n C (pc := 198) dX12_blow_198 5 rfl ?_
                          refine g_getR C (pc := 199) fl_RX12_56 (by decide) (by first | assumption | rfl | omega) (by first | assumption | rfl | omega) (by first | assumption | rfl | omega) dX12_blow_199 ?_
                          refine g_iload_n C (pc := 202) dX12_blow_202 6 rfl ?_
                          refine g_bipush C (pc := 203) 10 dX12_blow_203 (by decide) ?_
                          refine g_isub C (pc := 205) dX12_blow_205 ?_
                          rw [hui]
                          refine g_iald C (pc := 206) (by first | assumption | rfl | omega) (by first | assumption | rfl | omega) (vp_in_nI (by omega) (by decide)) dX12_blow_206 ?_
                          rw [nI_clamp (show i < 2 ^ 31 by omega)]
                          refine g_goto C (pc := 207) 212 dX12_blow_207 (by decide) ?_
                          refine g_iret C hR (pc := 212) rfl dX12_blow_212 ?_
                          refine ⟨rfl, _, rfl, ?_⟩
                          have k186 : Kp J I186 := ⟨fun z9 hz9 => by rw [g186 97 (by decide)], fun i hi => g186 i (by omega)⟩
                          refine ⟨Or.inr ⟨hu9, Or.inr ⟨hov, ?_⟩⟩, hkJ.trans k186⟩
                          unfold blwA
                          rw [hbf]
                          show _ = if u = 0 then nI ff else if (u - 10).toNatClampNeg < tn then nI (dig5 tn kf (u - 10).toNatClampNeg) else -4
                          rw [if_neg c164, hui, nI_clamp (show i < 2 ^ 31 by omega)]
                          first
                          | (rw [if_neg (by omega)]; done)
                          | (rw [if_pos c195]; exact d186 i c195)
                      · refine g_iload C (pc := 167) dX12_blow_167 1 rfl ?_
                        refine g_bipush C (pc := 169) (-4) dX12_blow_169 (by decide) ?_
                        refine g_icmp_ne C (pc := 171) 179 dX12_blow_171 (by decide) (fun c171 => ?_) (fun c171 => ?_)
                        · refine g_iload C (pc := 179) dX12_blow_179 2 rfl ?_
                          refine g_iret C hR (pc := 181) rfl dX12_blow_181 ?_
                          refine ⟨rfl, _, rfl, ?_⟩
                          refine ⟨Or.inr ⟨hu9, Or.inr ⟨hov, ?_⟩⟩, hkJ⟩
                          unfold blwA
                          first
                          | (rw [hbf]; done)
                          | (rw [hbf]
                             show _ = if u = 0 then nI ff else _
                             rw [if_pos c164, h4, hbf]; rfl)
                        · exact absurd c171 c160
                  · rw [h73, nI_ltI (by omega) (by omega)] at c89
                    refine g_aload_n C (pc := 92) dX12_blow_92 5 rfl ?_
                    refine g_iload C (pc := 93) dX12_blow_93 0 rfl ?_
                    refine g_iload_n C (pc := 95) dX12_blow_95 4 rfl ?_
                    refine g_callVI C (pc := 96) mf_X12_blownOf lk_RX12_343 (c_X12_blownOf n ρ J j tn tl _ _ hn9 hms ht3 (fun q hq => by rw [hkJ.2 98 (by decide)]; exact htl q hq) (by omega) rfl h43) (by decide) (Nat.le_refl _) rfl (by first | assumption | rfl | omega) rfl (by first | assumption | rfl | omega) (Nat.le_of_ble_eq_true rfl) dX12_blow_96 (fun v96 I96 h96 => ?_)
                    obtain ⟨e96, d96, i96, g96⟩ := h96
                    have k96 : Kp J I96 := ⟨fun z9 hz9 => by rw [g96 97 (by decide)], fun i hi => g96 i (by omega)⟩
                    refine g_istore C (pc := 99) dX12_blow_99 (by decide) (fun v99 => [(7, .int v99), (6, .int (nI j)), (5, .int wz5), (4, .int wz4), (3, .int v73), (2, .int v43), (0, .ref 97), (1, .int u)]) (fun _ => rfl) (fun v99 ev99 => ?_)
                    refine g_iload C (pc := 101) dX12_blow_101 0 rfl ?_
                    refine g_iload C (pc := 103) dX12_blow_103 3 rfl ?_
                    refine g_icmp_ge C (pc := 105) 150 dX12_blow_105 (by decide) (fun c105 => ?_) (fun c105 => ?_)
                    · have hst : blowF F b tn tl (j + 1) = blowF F b tn tl j := blow_t (by rw [← h4, ← e96, ← ev99]; exact c105) ht3
                      refine g_iinc C (pc := 150) (1) dX12_blow_150 1 rfl (by decide) (by decide) (fun v150 => [(6, .int v150), (7, .int v99), (5, .int wz5), (4, .int wz4), (3, .int v73), (2, .int v43), (0, .ref 97), (1, .int u)]) (fun _ => rfl) (fun v150 ev150 => ?_)
                      refine g_goto C (pc := 153) 86 dX12_blow_153 (by decide) ?_
                      refine g_lv C [0, 2, 3, 4, 5, 6, 7] rfl (ih86 (j + 1) _ _ _ _ ?_ ?_ ?_ ?_ ?_ (by omega))
                      · subst ev150; exact nI_1 _
                      · omega
                      · first | (rw [hst]; exact h4) | (rw [hst, ev148, if_pos hcan, ev99]; exact e96) | (rw [hst, ev148, if_neg hcan]; exact h4)
                      · first | (rw [hst]; exact h5) | (rw [hst, ev132, if_pos hcan]; rfl) | (rw [hst, ev132, if_neg hcan]; exact h5)
                      · first | exact (hkJ.trans k96).trans (k109.trans k115) | exact hkJ.trans k96
                    · have hst := blow_f (F := F) (b := b) (m := tn) (c := j) (tl := tl) (by rw [← h4, ← e96, ← ev99]; exact c105) ht3
                      refine g_aload_n C (pc := 108) dX12_blow_108 6 rfl ?_
                      refine g_callVV C (pc := 109) mf_X12_starts lk_RX12_227 (c_X12_starts n ρ I96 hn9 hms) (by decide) (Nat.le_refl _) rfl (by first | assumption | rfl | omega) rfl (by first | assumption | rfl | omega) (Nat.le_of_ble_eq_true rfl) dX12_blow_109 (fun I109 h109 => ?_)
                      obtain ⟨a109, b109, d109, g109⟩ := h109
                      have hq2 : QN I96 F b := hqn.kp (hkJ.trans k96)
                      have f109 : QB I109 F b := ⟨fun p hp => by rw [(a109 p (by omega)).1, (a109 p (by omega)).2]; exact hq2.2.2.1 p hp, b109.trans hq2.2.2.2⟩
                      have k109 : Kp I96 I109 := Kp.qb d109 g109
                      have s109 : I109 113 = I96 113 := g109 113 (by decide) (by decide) (by decide)
                      refine g_aload_n C (pc := 112) dX12_blow_112 6 rfl ?_
                      refine g_iload_n C (pc := 113) dX12_blow_113 5 rfl ?_
                      refine g_iconst C (pc := 114) 2 dX12_blow_114 (by decide) ?_
                      refine g_callVV C (pc := 115) mf_X12_findRows lk_RX12_339 (c_X12_findRowsB n ρ I109 F b (dig5 tn j) tn _ 2 hn9 hms (hqf.kp ((hkJ.trans k96).trans k109)) hrw (hqe.kp ((hkJ.trans k96).trans k109)) f109 hbw hl1 hpw h43 ht3 rfl (fun q hq => ⟨by rw [s109]; exact d96 q hq, by unfold dig5; exact Nat.mod_lt _ (by decide)⟩) hov) (by decide) (Nat.le_refl _) rfl (by first | assumption | rfl | omega) rfl (by first | assumption | rfl | omega) (Nat.le_of_ble_eq_true rfl) dX12_blow_115 (fun I115 h115 => ?_)
                      obtain ⟨f115, k115⟩ := h115
                      rw [wdL_dig] at f115
                      refine g_aload_n C (pc := 118) dX12_blow_118 6 rfl ?_
                      refine g_getI C (pc := 119) fl_RX12_325 (by decide) (by first | assumption | rfl | omega) (by first | assumption | rfl | omega) dX12_blow_119 ?_
                      refine g_if_eq C (pc := 122) 130 dX12_blow_122 (by decide) (fun c122 => ?_) (fun c122 => ?_)
                      · have hcan : ¬ canB F (bM b) (digL tn j) b = true := bI_0.mp (f115.symm.trans c122)
                        refine g_iload C (pc := 130) dX12_blow_130 2 rfl ?_
                        refine g_istore C (pc := 132) dX12_blow_132 (by decide) (fun v132 => [(5, .int v132), (7, .int v99), (6, .int (nI j)), (4, .int wz4), (3, .int v73), (2, .int v43), (0, .ref 97), (1, .int u)]) (fun _ => rfl) (fun v132 ev132 => ?_)
                        refine g_aload_n C (pc := 134) dX12_blow_134 6 rfl ?_
                        refine g_getI C (pc := 135) fl_RX12_325 (by decide) (by first | assumption | rfl | omega) (by first | assumption | rfl | omega) dX12_blow_135 ?_
                        refine g_if_eq C (pc := 138) 146 dX12_blow_138 (by decide) (fun c138 => ?_) (fun c138 => ?_)
                        · refine g_iload C (pc := 146) dX12_blow_146 3 rfl ?_
                          refine g_istore C (pc := 148) dX12_blow_148 (by decide) (fun v148 => [(4, .int v148), (5, .int v132), (7, .int v99), (6, .int (nI j)), (3, .int v73), (2, .int v43), (0, .ref 97), (1, .int u)]) (fun _ => rfl) (fun v148 ev148 => ?_)
                          refine g_iinc C (pc := 150) (1) dX12_blow_150 3 rfl (by decide) (by decide) (fun v150 => [(6, .int v150), (4, .int v148), (5, .int v132), (7, .int v99), (3, .int v73), (2, .int v43), (0, .ref 97), (1, .int u)]) (fun _ => rfl) (fun v150 ev150 => ?_)
                          refine g_goto C (pc := 153) 86 dX12_blow_153 (by decide) ?_
                          refine g_lv C [0, 2, 1, 4, 5, 6, 7] rfl (ih86 (j + 1) _ _ _ _ ?_ ?_ ?_ ?_ ?_ (by omega))
                          · subst ev150; exact nI_1 _
                          · omega
                          · first | (rw [hst]; exact h4) | (rw [hst, ev148, if_pos hcan, ev99]; exact e96) | (rw [hst, ev148, if_neg hcan]; exact h4)
                          · first | (rw [hst]; exact h5) | (rw [hst, ev132, if_pos hcan]; rfl) | (rw [hst, ev132, if_neg hcan]; exact h5)
                          · first | exact (hkJ.trans k96).trans (k109.trans k115) | exact hkJ.trans k96
                        · exact absurd c122 c138
                      · have hcan : canB F (bM b) (digL tn j) b = true := bI_1.mp (fun h => c122 (f115.trans h))
                        refine g_iload C (pc := 125) dX12_blow_125 1 rfl ?_
                        refine g_goto C (pc := 127) 132 dX12_blow_127 (by decide) ?_
                        refine g_istore C (pc := 132) dX12_blow_132 (by decide) (fun v132 => [(5, .int v132), (7, .int v99), (6, .int (nI j)), (4, .int wz4), (3, .int v73), (2, .int v43), (0, .ref 97), (1, .int u)]) (fun _ => rfl) (fun v132 ev132 => ?_)
                        refine g_aload_n C (pc := 134) dX12_blow_134 6 rfl ?_
                        refine g_getI C (pc := 135) fl_RX12_325 (by decide) (by first | assumption | rfl | omega) (by first | assumption | rfl | omega) dX12_blow_135 ?_
                        refine g_if_eq C (pc := 138) 146 dX12_blow_138 (by decide) (fun c138 => ?_) (fun c138 => ?_)
                        · exact absurd c138 c122
                        · refine g_iload C (pc := 141) dX12_blow_141 1 rfl ?_
                          refine g_goto C (pc := 143) 148 dX12_blow_143 (by decide) ?_
                          refine g_istore C (pc := 148) dX12_blow_148 (by decide) (fun v148 => [(4, .int v148), (5, .int v132), (7, .int v99), (6, .int (nI j)), (3, .int v73), (2, .int v43), (0, .ref 97), (1, .int u)]) (fun _ => rfl) (fun v148 ev148 => ?_)
                          refine g_iinc C (pc := 150) (1) dX12_blow_150 3 rfl (by decide) (by decide) (fun v150 => [(6, .int v150), (4, .int v148), (5, .int v132), (7, .int v99), (3, .int v73), (2, .int v43), (0, .ref 97), (1, .int u)]) (fun _ => rfl) (fun v150 ev150 => ?_)
                          refine g_goto C (pc := 153) 86 dX12_blow_153 (by decide) ?_
                          refine g_lv C [0, 2, 1, 4, 5, 6, 7] rfl (ih86 (j + 1) _ _ _ _ ?_ ?_ ?_ ?_ ?_ (by omega))
                          · subst ev150; exact nI_1 _
                          · omega
                          · first | (rw [hst]; exact h4) | (rw [hst, ev148, if_pos hcan, ev99]; exact e96) | (rw [hst, ev148, if_neg hcan]; exact h4)
                          · first | (rw [hst]; exact h5) | (rw [hst, ev132, if_pos hcan]; rfl) | (rw [hst, ev132, if_neg hcan]; exact h5)
                          · first | exact (hkJ.trans k96).trans (k109.trans k115) | exact hkJ.trans k96
              refine g_lv C [0, 1, 2, 3, 4, 5, 6] rfl (L86 (_ + 1) 0 _ _ _ _ ?_ ?_ ?_ ?_ ?_ (by first | omega | exact Nat.lt_succ_self _))
              · subst ev84; rfl
              · omega
              · subst ev77; rfl
              · subst ev81; rfl
              · exact k21
          · have h73a : (5 : Int32) = nI (rwN tn) := by
              have : tn = 1 := (nI_eq (b := 1) (by omega) (by decide)).mp (h43.symm.trans c54)
              subst this; rfl
            refine g_iconst C (pc := 57) 5 dX12_blow_57 (by decide) ?_
            refine g_goto C (pc := 58) 73 dX12_blow_58 (by decide) ?_
            refine g_istore_n C (pc := 73) dX12_blow_73 (by decide) (fun v73 => [(3, .int v73), (2, .int v43), (0, .ref 97), (1, .int u)]) (fun _ => rfl) (fun v73 ev73 => ?_)
            have h73 : v73 = nI (rwN tn) := ev73.trans h73a
            refine g_ldc_w C (pc := 74) _ gk_RX12_342 dX12_blow_74 ?_
            refine g_istore C (pc := 77) dX12_blow_77 (by decide) (fun v77 => [(4, .int v77), (3, .int v73), (2, .int v43), (0, .ref 97), (1, .int u)]) (fun _ => rfl) (fun v77 ev77 => ?_)
            refine g_bipush C (pc := 79) (-4) dX12_blow_79 (by decide) ?_
            refine g_istore C (pc := 81) dX12_blow_81 (by decide) (fun v81 => [(5, .int v81), (4, .int v77), (3, .int v73), (2, .int v43), (0, .ref 97), (1, .int u)]) (fun _ => rfl) (fun v81 ev81 => ?_)
            refine g_iconst C (pc := 83) 0 dX12_blow_83 (by decide) ?_
            refine g_istore C (pc := 84) dX12_blow_84 (by decide) (fun v84 => [(6, .int v84), (5, .int v81), (4, .int v77), (3, .int v73), (2, .int v43), (0, .ref 97), (1, .int u)]) (fun _ => rfl) (fun v84 ev84 => ?_)
            have L86 : ∀ (k9 : Nat) (j : Nat) (wz6 : Int32) (wz5 : Int32) (wz4 : Int32) (J : Mem) (hw6 : wz6 = nI j) (hj : j ≤ rwN tn) (h4 : wz4 = fwI (blowF F b tn tl j)) (h5 : wz5 = fdI (blowF F b tn tl j)) (hkJ : Kp I J), rwN tn - j < k9 → G κ n ρ 86 [(6, .int wz6), (5, .int wz5), (4, .int wz4), (3, .int v73), (2, .int v43), (0, .ref 97), (1, .int u)] [] J := by
              intro k9
              induction k9 with
              | zero => intro j wz6 wz5 wz4 J hw6 hj h4 h5 hkJ hm86; exact absurd hm86 (Nat.not_lt_zero _)
              | succ k9 ih86 =>
                intro j wz6 wz5 wz4 J hw6 hj h4 h5 hkJ hm86
                subst hw6
                have hr125 := rwN_le ht3
                refine g_iload C (pc := 86) dX12_blow_86 0 rfl ?_
                refine g_iload_n C (pc := 88) dX12_blow_88 3 rfl ?_
                refine g_icmp_ge C (pc := 89) 156 dX12_blow_89 (by decide) (fun c89 => ?_) (fun c89 => ?_)
                · have hjr : j = rwN tn := by
                    rw [h73, nI_leI (by omega) (by omega)] at c89
                    omega
                  subst hjr
                  rw [rwN_all hov] at h4 h5
                  refine g_iload C (pc := 156) dX12_blow_156 1 rfl ?_
                  refine g_bipush C (pc := 158) (-4) dX12_blow_158 (by decide) ?_
                  refine g_icmp_eq C (pc := 160) 167 dX12_blow_160 (by decide) (fun c160 => ?_) (fun c160 => ?_)
                  · have hbf : blowF F b tn tl (pw 5 tn) = none := by
                      cases h9 : blowF F b tn tl (pw 5 tn) with
                      | none => rfl
                      | some q =>
                        obtain ⟨f9, k9⟩ := q
                        have h8 := blowF_le h9
                        have hp9 : pw 5 tn ≤ 125 := by
                          have h7 : ∀ t, t ≤ 3 → pw 5 t ≤ 125 := by decide
                          exact h7 tn ht3
                        rw [h5, h9] at c160; exact absurd c160 (nI_ne4 (by omega))
                    refine g_iload C (pc := 167) dX12_blow_167 1 rfl ?_
                    refine g_bipush C (pc := 169) (-4) dX12_blow_169 (by decide) ?_
                    refine g_icmp_ne C (pc := 171) 179 dX12_blow_171 (by decide) (fun c171 => ?_) (fun c171 => ?_)
                    · exact absurd c160 c171
                    · refine g_bipush C (pc := 174) (-4) dX12_blow_174 (by decide) ?_
                      refine g_goto C (pc := 176) 181 dX12_blow_176 (by decide) ?_
                      refine g_iret C hR (pc := 181) rfl dX12_blow_181 ?_
                      refine ⟨rfl, _, rfl, ?_⟩
                      refine ⟨Or.inr ⟨hu9, Or.inr ⟨hov, ?_⟩⟩, hkJ⟩
                      unfold blwA
                      first
                      | (rw [hbf]; done)
                      | (rw [hbf]
                         show _ = if u = 0 then nI ff else _
                         rw [if_pos c164, h4, hbf]; rfl)
                  · obtain ⟨ff, kf, hbf⟩ : ∃ ff kf, blowF F b tn tl (pw 5 tn) = some (ff, kf) := by
                      cases h9 : blowF F b tn tl (pw 5 tn) with
                      | none => exact absurd (h5.trans (by rw [h9]; rfl)) c160
                      | some q => exact ⟨q.1, q.2, rfl⟩
                    have hp9 : pw 5 tn ≤ 125 := by
                      have h7 : ∀ t, t ≤ 3 → pw 5 t ≤ 125 := by decide
                      exact h7 tn ht3
                    have hbl := blowF_le hbf
                    refine g_iload_n C (pc := 163) dX12_blow_163 6 rfl ?_
                    refine g_if_ne C (pc := 164) 182 dX12_blow_164 (by decide) (fun c164 => ?_) (fun c164 => ?_)
                    · obtain ⟨i, hi3, hui⟩ := asked_of hu9 c164
                      refine g_aload_n C (pc := 182) dX12_blow_182 5 rfl ?_
                      refine g_iload C (pc := 183) dX12_blow_183 1 rfl ?_
                      refine g_iload_n C (pc := 185) dX12_blow_185 4 rfl ?_
                      refine g_callVI C (pc := 186) mf_X12_blownOf lk_RX12_343 (c_X12_blownOf n ρ J kf tn tl _ _ hn9 hms ht3 (fun q hq => by rw [hkJ.2 98 (by decide)]; exact htl q hq) (by omega) (h5.trans (by rw [hbf]; rfl)) h43) (by decide) (Nat.le_refl _) rfl (by first | assumption | rfl | omega) rfl (by first | assumption | rfl | omega) (Nat.le_of_ble_eq_true rfl) dX12_blow_186 (fun v186 I186 h186 => ?_)
                      obtain ⟨e186, d186, i186, g186⟩ := h186
                      refine g_pop C (pc := 189) dX12_blow_189 rfl ?_
                      refine g_iload_n C (pc := 190) dX12_blow_190 6 rfl ?_
                      refine g_bipush C (pc := 191) 10 dX12_blow_191 (by decide) ?_
                      refine g_isub C (pc := 193) dX12_blow_193 ?_
                      refine g_iload_n C (pc := 194) dX12_blow_194 4 rfl ?_
                      rw [hui, h43]
                      refine g_icmp_ge C (pc := 195) 210 dX12_blow_195 (by decide) (fun c195 => ?_) (fun c195 => ?_)
                      · replace c195 := (nI_leI (by omega) (by omega)).mp c195
                        refine g_bipush C (pc := 210) (-4) dX12_blow_210 (by decide) ?_
                        refine g_iret C hR (pc := 212) rfl dX12_blow_212 ?_
                        refine ⟨rfl, _, rfl, ?_⟩
                        have k186 : Kp J I186 := ⟨fun z9 hz9 => by rw [g186 97 (by decide)], fun i hi => g186 i (by omega)⟩
                        refine ⟨Or.inr ⟨hu9, Or.inr ⟨hov, ?_⟩⟩, hkJ.trans k186⟩
                        unfold blwA
                        rw [hbf]
                        show _ = if u = 0 then nI ff else if (u - 10).toNatClampNeg < tn then nI (dig5 tn kf (u - 10).toNatClampNeg) else -4
                        rw [if_neg c164, hui, nI_clamp (show i < 2 ^ 31 by omega)]
                        first
                        | (rw [if_neg (by omega)]; done)
                        | (rw [if_pos c195]; exact d186 i c195)
                      · replace c195 := (nI_ltI (by omega) (by omega)).mp c195
                        refine g_aload_n C (pc := 198) dX12_blow_198 5 rfl ?_
                        refine g_getR C (pc := 199) fl_RX12_56 (by decide) (by first | assumption | rfl | omega) (by first | assumption | rfl | omega) (by first | assumption | rfl | omega) dX12_blow_199 ?_
                        refine g_iload_n C (pc := 202) dX12_blow_202 6 rfl ?_
                        refine g_bipush C (pc := 203) 10 dX12_blow_203 (by decide) ?_
                        refine g_isub C (pc := 205) dX12_blow_205 ?_
                        rw [hui]
                        refine g_iald C (pc := 206) (by first | assumption | rfl | omega) (by first | assumption | rfl | omega) (vp_in_nI (by omega) (by decide)) dX12_blow_206 ?_
                        rw [nI_clamp (show i < 2 ^ 31 by omega)]
                        refine g_goto C (pc := 207) 212 dX12_blow_207 (by decide) ?_
                        refine g_iret C hR (pc := 212) rfl dX12_blow_212 ?_
                        refine ⟨rfl, _, rfl, ?_⟩
                        have k186 : Kp J I186 := ⟨fun z9 hz9 => by rw [g186 97 (by decide)], fun i hi => g186 i (by omega)⟩
                        refine ⟨Or.inr ⟨hu9, Or.inr ⟨hov, ?_⟩⟩, hkJ.trans k186⟩
                        unfold blwA
                        rw [hbf]
                        show _ = if u = 0 then nI ff else if (u - 10).toNatClampNeg < tn then nI (dig5 tn kf (u - 10).toNatClampNeg) else -4
                        rw [if_neg c164, hui, nI_clamp (show i < 2 ^ 31 by omega)]
                        first
                        | (rw [if_neg (by omega)]; done)
                        | (rw [if_pos c195]; exact d186 i c195)
                    · refine g_iload C (pc := 167) dX12_blow_167 1 rfl ?_
                      refine g_bipush C (pc := 169) (-4) dX12_blow_169 (by decide) ?_
                      refine g_icmp_ne C (pc := 171) 179 dX12_blow_171 (by decide) (fun c171 => ?_) (fun c171 => ?_)
                      · refine g_iload C (pc := 179) dX12_blow_179 2 rfl ?_
                        refine g_iret C hR (pc := 181) rfl dX12_blow_181 ?_
                        refine ⟨rfl, _, rfl, ?_⟩
                        refine ⟨Or.inr ⟨hu9, Or.inr ⟨hov, ?_⟩⟩, hkJ⟩
                        unfold blwA
                        first
                        | (rw [hbf]; done)
                        | (rw [hbf]
                           show _ = if u = 0 then nI ff else _
                           rw [if_pos c164, h4, hbf]; rfl)
                      · exact absurd c171 c160
                · rw [h73, nI_ltI (by omega) (by omega)] at c89
                  refine g_aload_n C (pc := 92) dX12_blow_92 5 rfl ?_
                  refine g_iload C (pc := 93) dX12_blow_93 0 rfl ?_
                  refine g_iload_n C (pc := 95) dX12_blow_95 4 rfl ?_
                  refine g_callVI C (pc := 96) mf_X12_blownOf lk_RX12_343 (c_X12_blownOf n ρ J j tn tl _ _ hn9 hms ht3 (fun q hq => by rw [hkJ.2 98 (by decide)]; exact htl q hq) (by omega) rfl h43) (by decide) (Nat.le_refl _) rfl (by first | assumption | rfl | omega) rfl (by first | assumption | rfl | omega) (Nat.le_of_ble_eq_true rfl) dX12_blow_96 (fun v96 I96 h96 => ?_)
                  obtain ⟨e96, d96, i96, g96⟩ := h96
                  have k96 : Kp J I96 := ⟨fun z9 hz9 => by rw [g96 97 (by decide)], fun i hi => g96 i (by omega)⟩
                  refine g_istore C (pc := 99) dX12_blow_99 (by decide) (fun v99 => [(7, .int v99), (6, .int (nI j)), (5, .int wz5), (4, .int wz4), (3, .int v73), (2, .int v43), (0, .ref 97), (1, .int u)]) (fun _ => rfl) (fun v99 ev99 => ?_)
                  refine g_iload C (pc := 101) dX12_blow_101 0 rfl ?_
                  refine g_iload C (pc := 103) dX12_blow_103 3 rfl ?_
                  refine g_icmp_ge C (pc := 105) 150 dX12_blow_105 (by decide) (fun c105 => ?_) (fun c105 => ?_)
                  · have hst : blowF F b tn tl (j + 1) = blowF F b tn tl j := blow_t (by rw [← h4, ← e96, ← ev99]; exact c105) ht3
                    refine g_iinc C (pc := 150) (1) dX12_blow_150 1 rfl (by decide) (by decide) (fun v150 => [(6, .int v150), (7, .int v99), (5, .int wz5), (4, .int wz4), (3, .int v73), (2, .int v43), (0, .ref 97), (1, .int u)]) (fun _ => rfl) (fun v150 ev150 => ?_)
                    refine g_goto C (pc := 153) 86 dX12_blow_153 (by decide) ?_
                    refine g_lv C [0, 2, 3, 4, 5, 6, 7] rfl (ih86 (j + 1) _ _ _ _ ?_ ?_ ?_ ?_ ?_ (by omega))
                    · subst ev150; exact nI_1 _
                    · omega
                    · first | (rw [hst]; exact h4) | (rw [hst, ev148, if_pos hcan, ev99]; exact e96) | (rw [hst, ev148, if_neg hcan]; exact h4)
                    · first | (rw [hst]; exact h5) | (rw [hst, ev132, if_pos hcan]; rfl) | (rw [hst, ev132, if_neg hcan]; exact h5)
                    · first | exact (hkJ.trans k96).trans (k109.trans k115) | exact hkJ.trans k96
                  · have hst := blow_f (F := F) (b := b) (m := tn) (c := j) (tl := tl) (by rw [← h4, ← e96, ← ev99]; exact c105) ht3
                    refine g_aload_n C (pc := 108) dX12_blow_108 6 rfl ?_
                    refine g_callVV C (pc := 109) mf_X12_starts lk_RX12_227 (c_X12_starts n ρ I96 hn9 hms) (by decide) (Nat.le_refl _) rfl (by first | assumption | rfl | omega) rfl (by first | assumption | rfl | omega) (Nat.le_of_ble_eq_true rfl) dX12_blow_109 (fun I109 h109 => ?_)
                    obtain ⟨a109, b109, d109, g109⟩ := h109
                    have hq2 : QN I96 F b := hqn.kp (hkJ.trans k96)
                    have f109 : QB I109 F b := ⟨fun p hp => by rw [(a109 p (by omega)).1, (a109 p (by omega)).2]; exact hq2.2.2.1 p hp, b109.trans hq2.2.2.2⟩
                    have k109 : Kp I96 I109 := Kp.qb d109 g109
                    have s109 : I109 113 = I96 113 := g109 113 (by decide) (by decide) (by decide)
                    refine g_aload_n C (pc := 112) dX12_blow_112 6 rfl ?_
                    refine g_iload_n C (pc := 113) dX12_blow_113 5 rfl ?_
                    refine g_iconst C (pc := 114) 2 dX12_blow_114 (by decide) ?_
                    refine g_callVV C (pc := 115) mf_X12_findRows lk_RX12_339 (c_X12_findRowsB n ρ I109 F b (dig5 tn j) tn _ 2 hn9 hms (hqf.kp ((hkJ.trans k96).trans k109)) hrw (hqe.kp ((hkJ.trans k96).trans k109)) f109 hbw hl1 hpw h43 ht3 rfl (fun q hq => ⟨by rw [s109]; exact d96 q hq, by unfold dig5; exact Nat.mod_lt _ (by decide)⟩) hov) (by decide) (Nat.le_refl _) rfl (by first | assumption | rfl | omega) rfl (by first | assumption | rfl | omega) (Nat.le_of_ble_eq_true rfl) dX12_blow_115 (fun I115 h115 => ?_)
                    obtain ⟨f115, k115⟩ := h115
                    rw [wdL_dig] at f115
                    refine g_aload_n C (pc := 118) dX12_blow_118 6 rfl ?_
                    refine g_getI C (pc := 119) fl_RX12_325 (by decide) (by first | assumption | rfl | omega) (by first | assumption | rfl | omega) dX12_blow_119 ?_
                    refine g_if_eq C (pc := 122) 130 dX12_blow_122 (by decide) (fun c122 => ?_) (fun c122 => ?_)
                    · have hcan : ¬ canB F (bM b) (digL tn j) b = true := bI_0.mp (f115.symm.trans c122)
                      refine g_iload C (pc := 130) dX12_blow_130 2 rfl ?_
                      refine g_istore C (pc := 132) dX12_blow_132 (by decide) (fun v132 => [(5, .int v132), (7, .int v99), (6, .int (nI j)), (4, .int wz4), (3, .int v73), (2, .int v43), (0, .ref 97), (1, .int u)]) (fun _ => rfl) (fun v132 ev132 => ?_)
                      refine g_aload_n C (pc := 134) dX12_blow_134 6 rfl ?_
                      refine g_getI C (pc := 135) fl_RX12_325 (by decide) (by first | assumption | rfl | omega) (by first | assumption | rfl | omega) dX12_blow_135 ?_
                      refine g_if_eq C (pc := 138) 146 dX12_blow_138 (by decide) (fun c138 => ?_) (fun c138 => ?_)
                      · refine g_iload C (pc := 146) dX12_blow_146 3 rfl ?_
                        refine g_istore C (pc := 148) dX12_blow_148 (by decide) (fun v148 => [(4, .int v148), (5, .int v132), (7, .int v99), (6, .int (nI j)), (3, .int v73), (2, .int v43), (0, .ref 97), (1, .int u)]) (fun _ => rfl) (fun v148 ev148 => ?_)
                        refine g_iinc C (pc := 150) (1) dX12_blow_150 3 rfl (by decide) (by decide) (fun v150 => [(6, .int v150), (4, .int v148), (5, .int v132), (7, .int v99), (3, .int v73), (2, .int v43), (0, .ref 97), (1, .int u)]) (fun _ => rfl) (fun v150 ev150 => ?_)
                        refine g_goto C (pc := 153) 86 dX12_blow_153 (by decide) ?_
                        refine g_lv C [0, 2, 1, 4, 5, 6, 7] rfl (ih86 (j + 1) _ _ _ _ ?_ ?_ ?_ ?_ ?_ (by omega))
                        · subst ev150; exact nI_1 _
                        · omega
                        · first | (rw [hst]; exact h4) | (rw [hst, ev148, if_pos hcan, ev99]; exact e96) | (rw [hst, ev148, if_neg hcan]; exact h4)
                        · first | (rw [hst]; exact h5) | (rw [hst, ev132, if_pos hcan]; rfl) | (rw [hst, ev132, if_neg hcan]; exact h5)
                        · first | exact (hkJ.trans k96).trans (k109.trans k115) | exact hkJ.trans k96
                      · exact absurd c122 c138
                    · have hcan : canB F (bM b) (digL tn j) b = true := bI_1.mp (fun h => c122 (f115.trans h))
                      refine g_iload C (pc := 125) dX12_blow_125 1 rfl ?_
                      refine g_goto C (pc := 127) 132 dX12_blow_127 (by decide) ?_
                      refine g_istore C (pc := 132) dX12_blow_132 (by decide) (fun v132 => [(5, .int v132), (7, .int v99), (6, .int (nI j)), (4, .int wz4), (3, .int v73), (2, .int v43), (0, .ref 97), (1, .int u)]) (fun _ => rfl) (fun v132 ev132 => ?_)
                      refine g_aload_n C (pc := 134) dX12_blow_134 6 rfl ?_
                      refine g_getI C (pc := 135) fl_RX12_325 (by decide) (by first | assumption | rfl | omega) (by first | assumption | rfl | omega) dX12_blow_135 ?_
                      refine g_if_eq C (pc := 138) 146 dX12_blow_138 (by decide) (fun c138 => ?_) (fun c138 => ?_)
                      · exact absurd c138 c122
                      · refine g_iload C (pc := 141) dX12_blow_141 1 rfl ?_
                        refine g_goto C (pc := 143) 148 dX12_blow_143 (by decide) ?_
                        refine g_istore C (pc := 148) dX12_blow_148 (by decide) (fun v148 => [(4, .int v148), (5, .int v132), (7, .int v99), (6, .int (nI j)), (3, .int v73), (2, .int v43), (0, .ref 97), (1, .int u)]) (fun _ => rfl) (fun v148 ev148 => ?_)
                        refine g_iinc C (pc := 150) (1) dX12_blow_150 3 rfl (by decide) (by decide) (fun v150 => [(6, .int v150), (4, .int v148), (5, .int v132), (7, .int v99), (3, .int v73), (2, .int v43), (0, .ref 97), (1, .int u)]) (fun _ => rfl) (fun v150 ev150 => ?_)
                        refine g_goto C (pc := 153) 86 dX12_blow_153 (by decide) ?_
                        refine g_lv C [0, 2, 1, 4, 5, 6, 7] rfl (ih86 (j + 1) _ _ _ _ ?_ ?_ ?_ ?_ ?_ (by omega))
                        · subst ev150; exact nI_1 _
                        · omega
                        · first | (rw [hst]; exact h4) | (rw [hst, ev148, if_pos hcan, ev99]; exact e96) | (rw [hst, ev148, if_neg hcan]; exact h4)
                        · first | (rw [hst]; exact h5) | (rw [hst, ev132, if_pos hcan]; rfl) | (rw [hst, ev132, if_neg hcan]; exact h5)
                        · first | exact (hkJ.trans k96).trans (k109.trans k115) | exact hkJ.trans k96
            refine g_lv C [0, 1, 2, 3, 4, 5, 6] rfl (L86 (_ + 1) 0 _ _ _ _ ?_ ?_ ?_ ?_ ?_ (by first | omega | exact Nat.lt_succ_self _))
            · subst ev84; rfl
            · omega
            · subst ev77; rfl
            · subst ev81; rfl
            · exact k21
        · have h73a : (0 : Int32) = nI (rwN tn) := by
            have : tn = 0 := (nI_eq (b := 0) (by omega) (by decide)).mp (h43.symm.trans c45)
            subst this; rfl
          refine g_iconst C (pc := 48) 0 dX12_blow_48 (by decide) ?_
          refine g_goto C (pc := 49) 73 dX12_blow_49 (by decide) ?_
          refine g_istore_n C (pc := 73) dX12_blow_73 (by decide) (fun v73 => [(3, .int v73), (2, .int v43), (0, .ref 97), (1, .int u)]) (fun _ => rfl) (fun v73 ev73 => ?_)
          have h73 : v73 = nI (rwN tn) := ev73.trans h73a
          refine g_ldc_w C (pc := 74) _ gk_RX12_342 dX12_blow_74 ?_
          refine g_istore C (pc := 77) dX12_blow_77 (by decide) (fun v77 => [(4, .int v77), (3, .int v73), (2, .int v43), (0, .ref 97), (1, .int u)]) (fun _ => rfl) (fun v77 ev77 => ?_)
          refine g_bipush C (pc := 79) (-4) dX12_blow_79 (by decide) ?_
          refine g_istore C (pc := 81) dX12_blow_81 (by decide) (fun v81 => [(5, .int v81), (4, .int v77), (3, .int v73), (2, .int v43), (0, .ref 97), (1, .int u)]) (fun _ => rfl) (fun v81 ev81 => ?_)
          refine g_iconst C (pc := 83) 0 dX12_blow_83 (by decide) ?_
          refine g_istore C (pc := 84) dX12_blow_84 (by decide) (fun v84 => [(6, .int v84), (5, .int v81), (4, .int v77), (3, .int v73), (2, .int v43), (0, .ref 97), (1, .int u)]) (fun _ => rfl) (fun v84 ev84 => ?_)
          have L86 : ∀ (k9 : Nat) (j : Nat) (wz6 : Int32) (wz5 : Int32) (wz4 : Int32) (J : Mem) (hw6 : wz6 = nI j) (hj : j ≤ rwN tn) (h4 : wz4 = fwI (blowF F b tn tl j)) (h5 : wz5 = fdI (blowF F b tn tl j)) (hkJ : Kp I J), rwN tn - j < k9 → G κ n ρ 86 [(6, .int wz6), (5, .int wz5), (4, .int wz4), (3, .int v73), (2, .int v43), (0, .ref 97), (1, .int u)] [] J := by
            intro k9
            induction k9 with
            | zero => intro j wz6 wz5 wz4 J hw6 hj h4 h5 hkJ hm86; exact absurd hm86 (Nat.not_lt_zero _)
            | succ k9 ih86 =>
              intro j wz6 wz5 wz4 J hw6 hj h4 h5 hkJ hm86
              subst hw6
              have hr125 := rwN_le ht3
              refine g_iload C (pc := 86) dX12_blow_86 0 rfl ?_
              refine g_iload_n C (pc := 88) dX12_blow_88 3 rfl ?_
              refine g_icmp_ge C (pc := 89) 156 dX12_blow_89 (by decide) (fun c89 => ?_) (fun c89 => ?_)
              · have hjr : j = rwN tn := by
                  rw [h73, nI_leI (by omega) (by omega)] at c89
                  omega
                subst hjr
                rw [rwN_all hov] at h4 h5
                refine g_iload C (pc := 156) dX12_blow_156 1 rfl ?_
                refine g_bipush C (pc := 158) (-4) dX12_blow_158 (by decide) ?_
                refine g_icmp_eq C (pc := 160) 167 dX12_blow_160 (by decide) (fun c160 => ?_) (fun c160 => ?_)
                · have hbf : blowF F b tn tl (pw 5 tn) = none := by
                    cases h9 : blowF F b tn tl (pw 5 tn) with
                    | none => rfl
                    | some q =>
                      obtain ⟨f9, k9⟩ := q
                      have h8 := blowF_le h9
                      have hp9 : pw 5 tn ≤ 125 := by
                        have h7 : ∀ t, t ≤ 3 → pw 5 t ≤ 125 := by decide
                        exact h7 tn ht3
                      rw [h5, h9] at c160; exact absurd c160 (nI_ne4 (by omega))
                  refine g_iload C (pc := 167) dX12_blow_167 1 rfl ?_
                  refine g_bipush C (pc := 169) (-4) dX12_blow_169 (by decide) ?_
                  refine g_icmp_ne C (pc := 171) 179 dX12_blow_171 (by decide) (fun c171 => ?_) (fun c171 => ?_)
                  · exact absurd c160 c171
                  · refine g_bipush C (pc := 174) (-4) dX12_blow_174 (by decide) ?_
                    refine g_goto C (pc := 176) 181 dX12_blow_176 (by decide) ?_
                    refine g_iret C hR (pc := 181) rfl dX12_blow_181 ?_
                    refine ⟨rfl, _, rfl, ?_⟩
                    refine ⟨Or.inr ⟨hu9, Or.inr ⟨hov, ?_⟩⟩, hkJ⟩
                    unfold blwA
                    first
                    | (rw [hbf]; done)
                    | (rw [hbf]
                       show _ = if u = 0 then nI ff else _
                       rw [if_pos c164, h4, hbf]; rfl)
                · obtain ⟨ff, kf, hbf⟩ : ∃ ff kf, blowF F b tn tl (pw 5 tn) = some (ff, kf) := by
                    cases h9 : blowF F b tn tl (pw 5 tn) with
                    | none => exact absurd (h5.trans (by rw [h9]; rfl)) c160
                    | some q => exact ⟨q.1, q.2, rfl⟩
                  have hp9 : pw 5 tn ≤ 125 := by
                    have h7 : ∀ t, t ≤ 3 → pw 5 t ≤ 125 := by decide
                    exact h7 tn ht3
                  have hbl := blowF_le hbf
                  refine g_iload_n C (pc := 163) dX12_blow_163 6 rfl ?_
                  refine g_if_ne C (pc := 164) 182 dX12_blow_164 (by decide) (fun c164 => ?_) (fun c164 => ?_)
                  · obtain ⟨i, hi3, hui⟩ := asked_of hu9 c164
                    refine g_aload_n C (pc := 182) dX12_blow_182 5 rfl ?_
                    refine g_iload C (pc := 183) dX12_blow_183 1 rfl ?_
                    refine g_iload_n C (pc := 185) dX12_blow_185 4 rfl ?_
                    refine g_callVI C (pc := 186) mf_X12_blownOf lk_RX12_343 (c_X12_blownOf n ρ J kf tn tl _ _ hn9 hms ht3 (fun q hq => by rw [hkJ.2 98 (by decide)]; exact htl q hq) (by omega) (h5.trans (by rw [hbf]; rfl)) h43) (by decide) (Nat.le_refl _) rfl (by first | assumption | rfl | omega) rfl (by first | assumption | rfl | omega) (Nat.le_of_ble_eq_true rfl) dX12_blow_186 (fun v186 I186 h186 => ?_)
                    obtain ⟨e186, d186, i186, g186⟩ := h186
                    refine g_pop C (pc := 189) dX12_blow_189 rfl ?_
                    refine g_iload_n C (pc := 190) dX12_blow_190 6 rfl ?_
                    refine g_bipush C (pc := 191) 10 dX12_blow_191 (by decide) ?_
                    refine g_isub C (pc := 193) dX12_blow_193 ?_
                    refine g_iload_n C (pc := 194) dX12_blow_194 4 rfl ?_
                    rw [hui, h43]
                    refine g_icmp_ge C (pc := 195) 210 dX12_blow_195 (by decide) (fun c195 => ?_) (fun c195 => ?_)
                    · replace c195 := (nI_leI (by omega) (by omega)).mp c195
                      refine g_bipush C (pc := 210) (-4) dX12_blow_210 (by decide) ?_
                      refine g_iret C hR (pc := 212) rfl dX12_blow_212 ?_
                      refine ⟨rfl, _, rfl, ?_⟩
                      have k186 : Kp J I186 := ⟨fun z9 hz9 => by rw [g186 97 (by decide)], fun i hi => g186 i (by omega)⟩
                      refine ⟨Or.inr ⟨hu9, Or.inr ⟨hov, ?_⟩⟩, hkJ.trans k186⟩
                      unfold blwA
                      rw [hbf]
                      show _ = if u = 0 then nI ff else if (u - 10).toNatClampNeg < tn then nI (dig5 tn kf (u - 10).toNatClampNeg) else -4
                      rw [if_neg c164, hui, nI_clamp (show i < 2 ^ 31 by omega)]
                      first
                      | (rw [if_neg (by omega)]; done)
                      | (rw [if_pos c195]; exact d186 i c195)
                    · replace c195 := (nI_ltI (by omega) (by omega)).mp c195
                      refine g_aload_n C (pc := 198) dX12_blow_198 5 rfl ?_
                      refine g_getR C (pc := 199) fl_RX12_56 (by decide) (by first | assumption | rfl | omega) (by first | assumption | rfl | omega) (by first | assumption | rfl | omega) dX12_blow_199 ?_
                      refine g_iload_n C (pc := 202) dX12_blow_202 6 rfl ?_
                      refine g_bipush C (pc := 203) 10 dX12_blow_203 (by decide) ?_
                      refine g_isub C (pc := 205) dX12_blow_205 ?_
                      rw [hui]
                      refine g_iald C (pc := 206) (by first | assumption | rfl | omega) (by first | assumption | rfl | omega) (vp_in_nI (by omega) (by decide)) dX12_blow_206 ?_
                      rw [nI_clamp (show i < 2 ^ 31 by omega)]
                      refine g_goto C (pc := 207) 212 dX12_blow_207 (by decide) ?_
                      refine g_iret C hR (pc := 212) rfl dX12_blow_212 ?_
                      refine ⟨rfl, _, rfl, ?_⟩
                      have k186 : Kp J I186 := ⟨fun z9 hz9 => by rw [g186 97 (by decide)], fun i hi => g186 i (by omega)⟩
                      refine ⟨Or.inr ⟨hu9, Or.inr ⟨hov, ?_⟩⟩, hkJ.trans k186⟩
                      unfold blwA
                      rw [hbf]
                      show _ = if u = 0 then nI ff else if (u - 10).toNatClampNeg < tn then nI (dig5 tn kf (u - 10).toNatClampNeg) else -4
                      rw [if_neg c164, hui, nI_clamp (show i < 2 ^ 31 by omega)]
                      first
                      | (rw [if_neg (by omega)]; done)
                      | (rw [if_pos c195]; exact d186 i c195)
                  · refine g_iload C (pc := 167) dX12_blow_167 1 rfl ?_
                    refine g_bipush C (pc := 169) (-4) dX12_blow_169 (by decide) ?_
                    refine g_icmp_ne C (pc := 171) 179 dX12_blow_171 (by decide) (fun c171 => ?_) (fun c171 => ?_)
                    · refine g_iload C (pc := 179) dX12_blow_179 2 rfl ?_
                      refine g_iret C hR (pc := 181) rfl dX12_blow_181 ?_
                      refine ⟨rfl, _, rfl, ?_⟩
                      refine ⟨Or.inr ⟨hu9, Or.inr ⟨hov, ?_⟩⟩, hkJ⟩
                      unfold blwA
                      first
                      | (rw [hbf]; done)
                      | (rw [hbf]
                         show _ = if u = 0 then nI ff else _
                         rw [if_pos c164, h4, hbf]; rfl)
                    · exact absurd c171 c160
              · rw [h73, nI_ltI (by omega) (by omega)] at c89
                refine g_aload_n C (pc := 92) dX12_blow_92 5 rfl ?_
                refine g_iload C (pc := 93) dX12_blow_93 0 rfl ?_
                refine g_iload_n C (pc := 95) dX12_blow_95 4 rfl ?_
                refine g_callVI C (pc := 96) mf_X12_blownOf lk_RX12_343 (c_X12_blownOf n ρ J j tn tl _ _ hn9 hms ht3 (fun q hq => by rw [hkJ.2 98 (by decide)]; exact htl q hq) (by omega) rfl h43) (by decide) (Nat.le_refl _) rfl (by first | assumption | rfl | omega) rfl (by first | assumption | rfl | omega) (Nat.le_of_ble_eq_true rfl) dX12_blow_96 (fun v96 I96 h96 => ?_)
                obtain ⟨e96, d96, i96, g96⟩ := h96
                have k96 : Kp J I96 := ⟨fun z9 hz9 => by rw [g96 97 (by decide)], fun i hi => g96 i (by omega)⟩
                refine g_istore C (pc := 99) dX12_blow_99 (by decide) (fun v99 => [(7, .int v99), (6, .int (nI j)), (5, .int wz5), (4, .int wz4), (3, .int v73), (2, .int v43), (0, .ref 97), (1, .int u)]) (fun _ => rfl) (fun v99 ev99 => ?_)
                refine g_iload C (pc := 101) dX12_blow_101 0 rfl ?_
                refine g_iload C (pc := 103) dX12_blow_103 3 rfl ?_
                refine g_icmp_ge C (pc := 105) 150 dX12_blow_105 (by decide) (fun c105 => ?_) (fun c105 => ?_)
                · have hst : blowF F b tn tl (j + 1) = blowF F b tn tl j := blow_t (by rw [← h4, ← e96, ← ev99]; exact c105) ht3
                  refine g_iinc C (pc := 150) (1) dX12_blow_150 1 rfl (by decide) (by decide) (fun v150 => [(6, .int v150), (7, .int v99), (5, .int wz5), (4, .int wz4), (3, .int v73), (2, .int v43), (0, .ref 97), (1, .int u)]) (fun _ => rfl) (fun v150 ev150 => ?_)
                  refine g_goto C (pc := 153) 86 dX12_blow_153 (by decide) ?_
                  refine g_lv C [0, 2, 3, 4, 5, 6, 7] rfl (ih86 (j + 1) _ _ _ _ ?_ ?_ ?_ ?_ ?_ (by omega))
                  · subst ev150; exact nI_1 _
                  · omega
                  · first | (rw [hst]; exact h4) | (rw [hst, ev148, if_pos hcan, ev99]; exact e96) | (rw [hst, ev148, if_neg hcan]; exact h4)
                  · first | (rw [hst]; exact h5) | (rw [hst, ev132, if_pos hcan]; rfl) | (rw [hst, ev132, if_neg hcan]; exact h5)
                  · first | exact (hkJ.trans k96).trans (k109.trans k115) | exact hkJ.trans k96
                · have hst := blow_f (F := F) (b := b) (m := tn) (c := j) (tl := tl) (by rw [← h4, ← e96, ← ev99]; exact c105) ht3
                  refine g_aload_n C (pc := 108) dX12_blow_108 6 rfl ?_
                  refine g_callVV C (pc := 109) mf_X12_starts lk_RX12_227 (c_X12_starts n ρ I96 hn9 hms) (by decide) (Nat.le_refl _) rfl (by first | assumption | rfl | omega) rfl (by first | assumption | rfl | omega) (Nat.le_of_ble_eq_true rfl) dX12_blow_109 (fun I109 h109 => ?_)
                  obtain ⟨a109, b109, d109, g109⟩ := h109
                  have hq2 : QN I96 F b := hqn.kp (hkJ.trans k96)
                  have f109 : QB I109 F b := ⟨fun p hp => by rw [(a109 p (by omega)).1, (a109 p (by omega)).2]; exact hq2.2.2.1 p hp, b109.trans hq2.2.2.2⟩
                  have k109 : Kp I96 I109 := Kp.qb d109 g109
                  have s109 : I109 113 = I96 113 := g109 113 (by decide) (by decide) (by decide)
                  refine g_aload_n C (pc := 112) dX12_blow_112 6 rfl ?_
                  refine g_iload_n C (pc := 113) dX12_blow_113 5 rfl ?_
                  refine g_iconst C (pc := 114) 2 dX12_blow_114 (by decide) ?_
                  refine g_callVV C (pc := 115) mf_X12_findRows lk_RX12_339 (c_X12_findRowsB n ρ I109 F b (dig5 tn j) tn _ 2 hn9 hms (hqf.kp ((hkJ.trans k96).trans k109)) hrw (hqe.kp ((hkJ.trans k96).trans k109)) f109 hbw hl1 hpw h43 ht3 rfl (fun q hq => ⟨by rw [s109]; exact d96 q hq, by unfold dig5; exact Nat.mod_lt _ (by decide)⟩) hov) (by decide) (Nat.le_refl _) rfl (by first | assumption | rfl | omega) rfl (by first | assumption | rfl | omega) (Nat.le_of_ble_eq_true rfl) dX12_blow_115 (fun I115 h115 => ?_)
                  obtain ⟨f115, k115⟩ := h115
                  rw [wdL_dig] at f115
                  refine g_aload_n C (pc := 118) dX12_blow_118 6 rfl ?_
                  refine g_getI C (pc := 119) fl_RX12_325 (by decide) (by first | assumption | rfl | omega) (by first | assumption | rfl | omega) dX12_blow_119 ?_
                  refine g_if_eq C (pc := 122) 130 dX12_blow_122 (by decide) (fun c122 => ?_) (fun c122 => ?_)
                  · have hcan : ¬ canB F (bM b) (digL tn j) b = true := bI_0.mp (f115.symm.trans c122)
                    refine g_iload C (pc := 130) dX12_blow_130 2 rfl ?_
                    refine g_istore C (pc := 132) dX12_blow_132 (by decide) (fun v132 => [(5, .int v132), (7, .int v99), (6, .int (nI j)), (4, .int wz4), (3, .int v73), (2, .int v43), (0, .ref 97), (1, .int u)]) (fun _ => rfl) (fun v132 ev132 => ?_)
                    refine g_aload_n C (pc := 134) dX12_blow_134 6 rfl ?_
                    refine g_getI C (pc := 135) fl_RX12_325 (by decide) (by first | assumption | rfl | omega) (by first | assumption | rfl | omega) dX12_blow_135 ?_
                    refine g_if_eq C (pc := 138) 146 dX12_blow_138 (by decide) (fun c138 => ?_) (fun c138 => ?_)
                    · refine g_iload C (pc := 146) dX12_blow_146 3 rfl ?_
                      refine g_istore C (pc := 148) dX12_blow_148 (by decide) (fun v148 => [(4, .int v148), (5, .int v132), (7, .int v99), (6, .int (nI j)), (3, .int v73), (2, .int v43), (0, .ref 97), (1, .int u)]) (fun _ => rfl) (fun v148 ev148 => ?_)
                      refine g_iinc C (pc := 150) (1) dX12_blow_150 3 rfl (by decide) (by decide) (fun v150 => [(6, .int v150), (4, .int v148), (5, .int v132), (7, .int v99), (3, .int v73), (2, .int v43), (0, .ref 97), (1, .int u)]) (fun _ => rfl) (fun v150 ev150 => ?_)
                      refine g_goto C (pc := 153) 86 dX12_blow_153 (by decide) ?_
                      refine g_lv C [0, 2, 1, 4, 5, 6, 7] rfl (ih86 (j + 1) _ _ _ _ ?_ ?_ ?_ ?_ ?_ (by omega))
                      · subst ev150; exact nI_1 _
                      · omega
                      · first | (rw [hst]; exact h4) | (rw [hst, ev148, if_pos hcan, ev99]; exact e96) | (rw [hst, ev148, if_neg hcan]; exact h4)
                      · first | (rw [hst]; exact h5) | (rw [hst, ev132, if_pos hcan]; rfl) | (rw [hst, ev132, if_neg hcan]; exact h5)
                      · first | exact (hkJ.trans k96).trans (k109.trans k115) | exact hkJ.trans k96
                    · exact absurd c122 c138
                  · have hcan : canB F (bM b) (digL tn j) b = true := bI_1.mp (fun h => c122 (f115.trans h))
                    refine g_iload C (pc := 125) dX12_blow_125 1 rfl ?_
                    refine g_goto C (pc := 127) 132 dX12_blow_127 (by decide) ?_
                    refine g_istore C (pc := 132) dX12_blow_132 (by decide) (fun v132 => [(5, .int v132), (7, .int v99), (6, .int (nI j)), (4, .int wz4), (3, .int v73), (2, .int v43), (0, .ref 97), (1, .int u)]) (fun _ => rfl) (fun v132 ev132 => ?_)
                    refine g_aload_n C (pc := 134) dX12_blow_134 6 rfl ?_
                    refine g_getI C (pc := 135) fl_RX12_325 (by decide) (by first | assumption | rfl | omega) (by first | assumption | rfl | omega) dX12_blow_135 ?_
                    refine g_if_eq C (pc := 138) 146 dX12_blow_138 (by decide) (fun c138 => ?_) (fun c138 => ?_)
                    · exact absurd c138 c122
                    · refine g_iload C (pc := 141) dX12_blow_141 1 rfl ?_
                      refine g_goto C (pc := 143) 148 dX12_blow_143 (by decide) ?_
                      refine g_istore C (pc := 148) dX12_blow_148 (by decide) (fun v148 => [(4, .int v148), (5, .int v132), (7, .int v99), (6, .int (nI j)), (3, .int v73), (2, .int v43), (0, .ref 97), (1, .int u)]) (fun _ => rfl) (fun v148 ev148 => ?_)
                      refine g_iinc C (pc := 150) (1) dX12_blow_150 3 rfl (by decide) (by decide) (fun v150 => [(6, .int v150), (4, .int v148), (5, .int v132), (7, .int v99), (3, .int v73), (2, .int v43), (0, .ref 97), (1, .int u)]) (fun _ => rfl) (fun v150 ev150 => ?_)
                      refine g_goto C (pc := 153) 86 dX12_blow_153 (by decide) ?_
                      refine g_lv C [0, 2, 1, 4, 5, 6, 7] rfl (ih86 (j + 1) _ _ _ _ ?_ ?_ ?_ ?_ ?_ (by omega))
                      · subst ev150; exact nI_1 _
                      · omega
                      · first | (rw [hst]; exact h4) | (rw [hst, ev148, if_pos hcan, ev99]; exact e96) | (rw [hst, ev148, if_neg hcan]; exact h4)
                      · first | (rw [hst]; exact h5) | (rw [hst, ev132, if_pos hcan]; rfl) | (rw [hst, ev132, if_neg hcan]; exact h5)
                      · first | exact (hkJ.trans k96).trans (k109.trans k115) | exact hkJ.trans k96
          refine g_lv C [0, 1, 2, 3, 4, 5, 6] rfl (L86 (_ + 1) 0 _ _ _ _ ?_ ?_ ?_ ?_ ?_ (by first | omega | exact Nat.lt_succ_self _))
          · subst ev84; rfl
          · omega
          · subst ev77; rfl
          · subst ev81; rfl
          · exact k21
      · have hov : ¬ lostB F b = none := fun h9 => c30 (by rw [e25, h9]; rfl)
        refine g_bipush C (pc := 33) (-2) dX12_blow_33 (by decide) ?_
        refine g_iret C hR (pc := 35) rfl dX12_blow_35 ?_
        refine ⟨rfl, _, rfl, ?_⟩
        exact ⟨Or.inr ⟨hu9, Or.inl ⟨hov, rfl⟩⟩, k21⟩
    · have hu := fun h => bI_0.mp (e12.symm.trans c15) ((inL (x := u) (lo := 10) (hi := 12) (by decide) (by decide)).mpr h)
      refine g_iconst C (pc := 18) (-1) dX12_blow_18 (by decide) ?_
      refine g_iret C hR (pc := 19) rfl dX12_blow_19 ?_
      refine ⟨rfl, _, rfl, ?_⟩
      refine ⟨Or.inl ⟨?_, rfl⟩, Kp.rfl'⟩
      intro h5
      exact hu (ask_in h5 c1)
