section GN
variable {κ : Kap} {y : MethodName} {cc : ByteArray} {nL d n1 n : Nat} {ρ : Rho} {pc : Nat} {lv : List (Nat × Value)} {st : List Value} {I : Mem}
theorem g_null (C : Cx κ y cc nL d n1) (dg : decode cc pc = .ok (.aconst_null, 1)) (K : G κ n ρ (pc + 1) lv (.null :: st) I) : G κ n ρ pc lv st I := by
  obtain ⟨p, l, e, R, s, m, args, below, meth, c, Q, dC, dI, dA, ad, n0⟩ := κ
  obtain ⟨hx, hb, hml, -⟩ := C
  exact fun h0 H locs ls hW hS hl => lv_null hx hb dg (K h0 H locs ls hW hS hl)
theorem g_aload_nN (C : Cx κ y cc nL d n1) {k : Fin 4} (dg : decode cc pc = .ok (.aload_n k, 1)) (j : Nat) (hl : lv[j]? = some ((k : Nat), .null)) (K : G κ n ρ (pc + 1) lv (.null :: st) I) : G κ n ρ pc lv st I := by
  obtain ⟨p, l, e, R, s, m, args, below, meth, c, Q, dC, dI, dA, ad, n0⟩ := κ
  obtain ⟨hx, hb, hml, -⟩ := C
  exact fun h0 H locs ls hW hS h => lv_aload_nN hx hb dg rfl (lvc_at h j hl) (K h0 H locs ls hW hS h)
theorem g_aloadN (C : Cx κ y cc nL d n1) {i : Nat} (dg : decode cc pc = .ok (.aload i, 2)) (j : Nat) (hl : lv[j]? = some (i, .null)) (K : G κ n ρ (pc + 2) lv (.null :: st) I) : G κ n ρ pc lv st I := by
  obtain ⟨p, l, e, R, s, m, args, below, meth, c, Q, dC, dI, dA, ad, n0⟩ := κ
  obtain ⟨hx, hb, hml, -⟩ := C
  exact fun h0 H locs ls hW hS h => lv_aloadN hx hb dg (lvc_at h j hl) (K h0 H locs ls hW hS h)
theorem g_astore_nN (C : Cx κ y cc nL d n1) {k : Fin 4} (dg : decode cc pc = .ok (.astore_n k, 1)) (hn : (k : Nat) < nL) {lv' : List (Nat × Value)} (hl : st1 lv k .null = lv') (K : G κ n ρ (pc + 1) lv' st I) : G κ n ρ pc lv (.null :: st) I := by
  obtain ⟨p, l, e, R, s, m, args, below, meth, c, Q, dC, dI, dA, ad, n0⟩ := κ
  obtain ⟨hx, hb, hml, -⟩ := C
  refine fun h0 H locs ls hW hS h => lv_astore_nN hx hb dg rfl h (by rw [hml]; exact hn) rfl fun ls' h' => K h0 H locs ls' hW hS ?_
  rw [← hl]; rw [lvc_f1] at h'; exact h'
theorem g_astoreN (C : Cx κ y cc nL d n1) {i : Nat} (dg : decode cc pc = .ok (.astore i, 2)) (hn : i < nL) {lv' : List (Nat × Value)} (hl : st1 lv i .null = lv') (K : G κ n ρ (pc + 2) lv' st I) : G κ n ρ pc lv (.null :: st) I := by
  obtain ⟨p, l, e, R, s, m, args, below, meth, c, Q, dC, dI, dA, ad, n0⟩ := κ
  obtain ⟨hx, hb, hml, -⟩ := C
  refine fun h0 H locs ls hW hS h => lv_astoreN hx hb dg h (by rw [hml]; exact hn) rfl fun ls' h' => K h0 H locs ls' hW hS ?_
  rw [← hl]; rw [lvc_f1] at h'; exact h'
theorem g_ifnullN (C : Cx κ y cc nL d n1) {off : Int} (tgt : Nat) (dg : decode cc pc = .ok (.ifnull off, 3)) (ht : (pc : Int) + off = (tgt : Int)) (K : G κ n ρ tgt lv st I) : G κ n ρ pc lv (.null :: st) I := by
  obtain ⟨p, l, e, R, s, m, args, below, meth, c, Q, dC, dI, dA, ad, n0⟩ := κ
  obtain ⟨hx, hb, hml, -⟩ := C
  exact fun h0 H locs ls hW hS hl => lv_ifnullN hx hb dg ht (K h0 H locs ls hW hS hl)
theorem g_ifnonnullN (C : Cx κ y cc nL d n1) {off : Int} (dg : decode cc pc = .ok (.ifnonnull off, 3)) (K : G κ n ρ (pc + 3) lv st I) : G κ n ρ pc lv (.null :: st) I := by
  obtain ⟨p, l, e, R, s, m, args, below, meth, c, Q, dC, dI, dA, ad, n0⟩ := κ
  obtain ⟨hx, hb, hml, -⟩ := C
  exact fun h0 H locs ls hW hS hl => lv_ifnonnullN hx hb dg (K h0 H locs ls hW hS hl)
end GN
theorem rwr_o {ρ ρ' : Rho} {i k : Nat} {v : Option Nat} (e : ρ' = rwr ρ i k v) {a : Nat} (h : a ≠ i) (b : Nat) : ρ' a b = ρ a b := by rw [e, rwr_n (fun q => h q.1)]
theorem Rf.rw {n r i k : Nat} {ρ ρ' : Rho} {v : Option Nat} (h : Rf n ρ r) (e : ρ' = rwr ρ i k v) (hi : r ≠ i) : Rf n ρ' r := by
  unfold Rf at h ⊢
  rw [rwr_o e hi, rwr_o e hi, rwr_o e hi]; exact h
theorem St.rw {n r i k : Nat} {ρ ρ' : Rho} {v : Option Nat} (h : St n ρ r) (e : ρ' = rwr ρ i k v) (hi : r ≠ i) : St n ρ' r := by
  unfold St at h ⊢
  rw [rwr_o e hi, rwr_o e hi, rwr_o e hi]; exact h
theorem Sp.rw {n r i k : Nat} {ρ ρ' : Rho} {v : Option Nat} (h : Sp n ρ r) (e : ρ' = rwr ρ i k v) (hi : r + 1 < i) : Sp n ρ' r := by
  obtain ⟨h1, h2, h3, h4, h5, h6⟩ := h
  exact ⟨h1, h2, by rw [rwr_o e (by omega)]; exact h3, by rw [rwr_o e (by omega)]; exact h4, h5, h6.rw e (by omega)⟩
theorem Ch.rw {n i k : Nat} {ρ ρ' : Rho} {v : Option Nat} (e : ρ' = rwr ρ i k v) : ∀ {m r : Nat}, Ch n ρ m r → r + 1 < i → Ch n ρ' m r
  | 0, r, h, hi => Sp.rw h e hi
  | m + 1, r, h, hi => ⟨h.1.rw e hi, h.2.1, by rw [rwr_o e (by omega)]; exact h.2.2.1, Ch.rw e h.2.2.2 (by have := h.2.1; omega)⟩
theorem GaS.rw {n r i k : Nat} {ρ ρ' : Rho} {v : Option Nat} (h : GaS n ρ r) (e : ρ' = rwr ρ i k v) (h0 : r ≠ i) (h1 : r + 1 ≠ i) (h5 : r + 5 ≠ i) : GaS n ρ' r := by
  unfold GaS at h ⊢
  rw [rwr_o e h0, rwr_o e h0, rwr_o e h0, rwr_o e h0, rwr_o e h0]
  obtain ⟨a1, a2, a3, a4, a5, a6, a7, a8, a9, a10, a11, a12⟩ := h
  exact ⟨a1, a2, a3, a4, a5, a6, a7, a8, a9, a10, a11.rw e h1, a12.rw e h5⟩
theorem Ch.le {n : Nat} {ρ : Rho} {h : Nat} : ∀ {m k : Nat}, Ch n ρ (k + m) h → Ch n ρ k h
  | 0, _, c => c
  | _ + 1, _, c => Ch.le (Ch.down c)
theorem Ch.of3 {n : Nat} {ρ : Rho} {h k : Nat} (c : Ch n ρ 3 h) (hk : k ≤ 3) : Ch n ρ k h := by
  obtain ⟨m, hm⟩ : ∃ m, k + m = 3 := ⟨3 - k, by omega⟩
  exact Ch.le (m := m) (by rw [hm]; exact c)
set_option maxHeartbeats 400000 in
theorem c_X4_aim (n : Nat) (ρ : Rho) (I : Mem) (a r g : Nat) (hn9 : n ≤ 999) (ha0 : shp a = (13, 2)) (han : a < n) : MG yX4_aim cX4_aim 3 none 0 0 [.ref a, .ref r, .ref g] n ρ I (fun r9 ρ9 I1 => r9 = none ∧ ρ9 = rwr (rwr ρ a 0 (some r)) a 1 (some g) ∧ I = I1) := by
  refine MG.of (by decide +kernel) (Nat.le_of_ble_eq_true rfl) hn9 ?_
  intro κ C hR
  show G κ n ρ 0 [(0, .ref a), (1, .ref r), (2, .ref g)] [] I
  refine g_aload_n C (pc := 0) dX4_aim_0 0 rfl ?_
  refine g_aload_n C (pc := 1) dX4_aim_1 1 rfl ?_
  refine g_putR C (pc := 2) fl_RX4_9 (by decide) fp_3_0 (Or.inl rfl) (by first | assumption | rfl | omega) (by first | assumption | rfl | omega) hn9 dX4_aim_2 ?_
  obtain ⟨ρ, hρ2⟩ : ∃ ρ9, ρ9 = rwr ρ (a) 0 (some (r)) := ⟨_, rfl⟩
  rw [← hρ2]
  refine g_aload_n C (pc := 5) dX4_aim_5 0 rfl ?_
  refine g_aload_n C (pc := 6) dX4_aim_6 2 rfl ?_
  refine g_putR C (pc := 7) fl_RX4_15 (by decide) fp_3_1 (Or.inl rfl) (by first | assumption | rfl | omega) (by first | assumption | rfl | omega) hn9 dX4_aim_7 ?_
  obtain ⟨ρ, hρ7⟩ : ∃ ρ9, ρ9 = rwr ρ (a) 1 (some (g)) := ⟨_, rfl⟩
  rw [← hρ7]
  refine g_vret C hR (pc := 10) rfl dX4_aim_10 ?_
  exact ⟨rfl, by rw [hρ7, hρ2], rfl⟩
set_option maxHeartbeats 400000 in
theorem c_X6_find (n : Nat) (ρ : Rho) (I : Mem) (q a r o h0 k dE cE NE nLE : Nat) (yE : MethodName) (cE9 : ByteArray) (Wt : Prop) (F : RT) (wt : Option Nat) (g : BT → Bool) (mc : Nat → BT → Bool) (b : BT) (xk : Int32) (hn9 : n ≤ 999) (hw0 : shp q = (15, 7)) (hw1 : ρ q 2 = some (q + 4)) (hw3 : shp (q + 4) = (0, 3)) (hwn : q + 4 < n) (hc0 : Ch n ρ 3 h0) (hq9 : h0 + 5 < q) (hWt : Wt → I q 5 = oI wt ∧ ∀ p, wt = some p → p < rN F) (hrf : Rf n ρ r) (hso : St n ρ o) (hk3 : k ≤ 3) (hrr : RR I r F) (hrw : RW F) (hbr : BR I o F b) (hbw : BW F b) (hrh : r + 3 + 18 < h0) (hoh : o + 3 < h0 ∨ q + 4 < o) (hprn : Prn F g mc) (hMF : MF yE cE9 nLE (some .boolean) 2) (hLA : LinkA RX11 381 yE) (hsa : shp a = (cE + 10, NE)) (hcla : (vwCl[cE]?).map (fun q => q.1) = some yE.cls) (han : a < n) (hdE : dE < 12) (hE0 : ∀ (ρ9 : Rho) (J : Mem) (s k9 : Nat) (b9 : BT) (x9 : Int32), ρ9 = rwr ρ q 3 (some h0) → (∀ i, i ≠ q → i ≠ q + 4 → ¬ (h0 - 18 ≤ i ∧ i ≤ h0 + 5) → J i = I i) → St n ρ9 s → BR J s F b9 → BW F b9 → k9 ≤ 3 → x9 = nI k9 → MI yE cE9 nLE (some .boolean) dE [.ref a, .ref s, .int x9] n ρ9 J (fun v J1 => v = bI (mc k9 b9 = true) ∧ J = J1)) (hxk : xk = nI k) : MG yX6_find cX6_find 6 (some .int) 21 0 [.ref q, .ref r, .ref o, .ref a, .ref h0, .int xk] n ρ I (fun r9 ρ9 I1 => ρ9 = rwr ρ q 3 (some h0) ∧ r9 = some (.int (nI (fnd F g k b).length)) ∧ (Wt → ∀ i, i < 32 → bt (I1 q 6) i = (fnd F g k b).any (fun r => plB wt r.2 i)) ∧ (∀ r L9, fnd F g k b = r :: L9 → ∀ x l, r.1[x]? = some l → I1 (q + 4) x = nI l) ∧ ∀ i, i ≠ q → i ≠ q + 4 → ¬ (h0 - 18 ≤ i ∧ i ≤ h0 + 5) → I1 i = I i) := by
  refine MG.of (by decide +kernel) (Nat.le_of_ble_eq_true rfl) hn9 ?_
  intro κ C hR
  show G κ n ρ 0 [(0, .ref q), (1, .ref r), (2, .ref o), (3, .ref a), (4, .ref h0), (5, .int xk)] [] I
  subst hxk
  have hsp0 := hc0.sp
  obtain ⟨hp0, hpn, hp1, hp2, hp3, hp4⟩ := id hsp0
  obtain ⟨hs0, hs1, hs2, hs3, hsn, hr0, hr1, hr2⟩ := id hp4
  refine g_aload_n C (pc := 0) dX6_find_0 0 rfl ?_
  refine g_aload C (pc := 1) dX6_find_1 4 rfl ?_
  refine g_putR C (pc := 3) fl_RX6_29 (by decide) fp_5_3 (Or.inl rfl) (by first | assumption | rfl | omega) (by first | assumption | rfl | omega) hn9 dX6_find_3 ?_
  obtain ⟨ρ, hρ3⟩ : ∃ ρ9, ρ9 = rwr ρ (q) 3 (some (h0)) := ⟨_, rfl⟩
  rw [← hρ3]
  have hw1 : ρ q 2 = some (q + 4) := by rw [hρ3, rwr_n (by omega)]; exact hw1
  have hw2 : ρ q 3 = some h0 := by rw [hρ3, rwr_s]
  have hc0 := hc0.rw hρ3 (by omega)
  have hrf := hrf.rw hρ3 (by omega)
  have hso := hso.rw hρ3 (by omega)
  have hsp0 := hc0.sp
  obtain ⟨hp0, hpn, hp1, hp2, hp3, hp4⟩ := id hsp0
  obtain ⟨hs0, hs1, hs2, hs3, hsn, hr0, hr1, hr2⟩ := id hp4
  refine g_aload_n C (pc := 6) dX6_find_6 0 rfl ?_
  refine g_iconst C (pc := 7) 0 dX6_find_7 (by decide) ?_
  refine g_putI C (pc := 8) fl_RX6_33 (by decide) fp_5_4 (Or.inl rfl) ⟨rfl, rfl⟩ (by first | assumption | rfl | omega) (by first | assumption | rfl | omega) hn9 dX6_find_8 ?_
  refine g_aload_n C (pc := 11) dX6_find_11 0 rfl ?_
  refine g_iconst C (pc := 12) 0 dX6_find_12 (by decide) ?_
  refine g_putI C (pc := 13) fl_RX6_37 (by decide) fp_5_6 (Or.inl rfl) ⟨rfl, rfl⟩ (by first | assumption | rfl | omega) (by first | assumption | rfl | omega) hn9 dX6_find_13 ?_
  refine g_aload C (pc := 16) dX6_find_16 4 rfl ?_
  refine g_getR C (pc := 18) fl_RX6_41 (by decide) (by first | assumption | rfl | omega) (by first | assumption | rfl | omega) (by first | assumption | rfl | omega) dX6_find_18 ?_
  refine g_aload_n C (pc := 21) dX6_find_21 2 rfl ?_
  have hbr9 : BR (wr (wr I q 4 0) q 6 0) o F b := hbr.cong (fun i hi => by rw [wr_n (by omega), wr_n (by omega)])
  refine g_callVV C (pc := 22) mf_X8_copyFrom lk_RX6_47 (c_X8_copyFrom n ρ _ (h0 + 1) o hn9 hp4 hso (fun i k h1 h2 => by omega)) (by decide) (Nat.le_refl _) rfl (by first | assumption | rfl | omega) rfl (by first | assumption | rfl | omega) (Nat.le_of_ble_eq_true rfl) dX6_find_22 (fun I22 h22 => ?_)
  obtain ⟨a22, b22, d22, f22, g22⟩ := h22
  refine g_aload_n C (pc := 25) dX6_find_25 0 rfl ?_
  refine g_aload_n C (pc := 26) dX6_find_26 3 rfl ?_
  refine g_aload_n C (pc := 27) dX6_find_27 1 rfl ?_
  refine g_aload C (pc := 28) dX6_find_28 4 rfl ?_
  refine g_iload C (pc := 30) dX6_find_30 5 rfl ?_
  refine g_callSI C (pc := 32) mf_X11_countRows lk_RX6_53 (cnt_all k n ρ I22 q a r h0 h0 0 dE cE NE nLE yE cE9 Wt F wt g mc b _ hn9 ⟨hw0, hw1, hw2, hw3, hwn⟩ hc0 hq9 (fun hw => ⟨by rw [g22 q (by omega) (by omega) (by omega) (by omega), wr_sn (by decide), wr_sn (by decide)]; exact (hWt hw).1, (hWt hw).2⟩) (by left; rw [g22 q (by omega) (by omega) (by omega) (by omega), wr_sn (by decide), wr_ss]) hrf (hc0.of3 hk3) rfl (by omega) (hrr.cong (fun i hi => by rw [g22 _ (by omega) (by omega) (by omega) (by omega), wr_n (by omega), wr_n (by omega)])) hrw (hbr9.copy hrw a22 b22 d22 f22) hbw hrh hprn hMF hLA hsa hcla han hdE (fun J s k9 b9 x9 a1 a2 a3 a4 a5 a6 => hE0 ρ J s k9 b9 x9 hρ3 (fun i h1 h2 h3 => by rw [a1 i h1 h2 h3, g22 i (by omega) (by omega) (by omega) (by omega), wr_n h1, wr_n h1]) a2 a3 a4 a5 a6) rfl) (by omega) (Nat.le_refl _) rfl (Nat.le_of_ble_eq_true rfl) dX6_find_32 (fun v32 I32 h32 => ?_)
  obtain ⟨e32, n32, g32⟩ := h32
  refine g_iret C hR (pc := 35) rfl dX6_find_35 ?_
  refine ⟨hρ3, by rw [e32], fun hw i hi => ?_, fun r9 L9 h9 x l hx => ?_, fun i h1 h2 h3 => ?_⟩
  · rw [n32.1 hw i hi, g22 q (by omega) (by omega) (by omega) (by omega), wr_ss, b_0]; rfl
  · have := ((n32.2.2.2 r9 L9 h9).2.2 (by rw [g22 q (by omega) (by omega) (by omega) (by omega), wr_sn (by decide), wr_ss])).1 x l hx
    rw [Nat.zero_add] at this; exact this
  · rw [g32 i h1 h2 (fun e9 => h3 (by unfold Sc at e9; omega)), g22 i (by omega) (by omega) (by omega) (by omega), wr_n h1, wr_n h1]
