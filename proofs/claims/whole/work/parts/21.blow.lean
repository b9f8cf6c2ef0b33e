section G21
variable {κ : Kap} {y : MethodName} {cc : ByteArray} {nL d n1 n : Nat} {ρ : Rho} {pc : Nat} {lv : List (Nat × Value)} {st : List Value} {I : Mem}
theorem g_ldc_w (C : Cx κ y cc nL d n1) {idx : Nat} (v : Int32) (hw : Cond.constant y.cls idx v ∈ GW) (dg : decode cc pc = .ok (.ldc_w idx, 3)) (K : G κ n ρ (pc + 3) lv (.int v :: st) I) : G κ n ρ pc lv st I := by
  obtain ⟨p, l, e, R, s, m, args, below, meth, cd, Q, dC, dI, dA, ad, n0⟩ := κ
  obtain ⟨hx, hb, hml, hown, hts, -⟩ := C
  exact fun h0 H locs ls hW hS hl => lv_ldcw hx hb hown (hts _ hw) dg (K h0 H locs ls hW hS hl)
theorem g_min (C : Cx κ y cc nL d n1) {idx : Nat} {x z : Int32} (h1 : Cond.methodLink y.cls idx yJ9_min_7cf53 ∈ GW) (hn : n ≤ n1) (hd : 1 ≤ d) (hst : (st.map fun v => v.category).sum ≤ 8) (dg : decode cc pc = .ok (.invokestatic idx, 3)) (K : ∀ v, v = (if z < x then z else x) → G κ n ρ (pc + 3) lv (.int v :: st) I) : G κ n ρ pc lv (.int z :: .int x :: st) I := by
  obtain ⟨p, l, e, R, s, m, args, below, meth, cd, Q, dC, dI, dA, ad, n0⟩ := κ
  obtain ⟨hx, hb, hml, hown, hts, hlk, hnm, hKt, hSt, h01, h19, hrc, hrs, hfr, hlo, hb0⟩ := C
  intro h0 H locs ls hW hS hl
  have h9 : ((st.map (cvV ad)).map fun v => v.category).sum ≤ 8 := by
    rw [List.map_map]
    have : ((fun v => v.category) ∘ cvV ad) = fun v : Value => v.category := by funext v; exact cvV_cat ad v
    rw [this]; exact hst
  have q1 := sl_mono hn
  refine va_mmin hx hb (hl.1.symm) hown (hts _ h1) (hts _ gt_J9_min_7cf53) (hts _ gz_RJ9) (hts _ gc_J9_min_7cf53) (by omega) (by omega) (by omega) (by omega) dg ?_
  exact K _ rfl h0 H locs ls hW hS hl
end G21
def bcnt (x : Int32) : Int32 :=
  let sh := fun (a b : Int32) => (a.toUInt32 >>> (b.toUInt32 &&& Int32.toUInt32 31)).toInt32
  let a := x - (sh x 1 &&& 1431655765)
  let b := (a &&& 858993459) + (sh a 2 &&& 858993459)
  let c := (b + sh b 4) &&& 252645135
  let d := c + sh c 8
  let e := d + sh d 16
  e &&& 63
/-- a number spelt in fives, the first highest *)-/
def dig5 (n c q : Nat) : Nat := c / 5 ^ (n - 1 - q) % 5
theorem fold_nI {f : Nat → Int32} {k : Nat} {x : Int32} : upd f k x k = x := if_pos rfl
set_option maxHeartbeats 400000 in
theorem c_J6_bitCount_0f7a4 (n : Nat) (ρ : Rho) (I : Mem) (x : Int32) (hn9 : n ≤ 999)  : MI yJ6_bitCount_0f7a4 cJ6_bitCount_0f7a4 1 (some .int) 0 [.int x] n ρ I (fun v I1 => v = bcnt x ∧ I = I1) := by
  refine MG.of (by decide +kernel) (Nat.le_of_ble_eq_true rfl) hn9 ?_
  intro κ C hR
  show G κ n ρ 0 [(0, .int x)] [] I
  refine g_iload_n C (pc := 0) dJ6_bitCount_0f7a4_0 0 rfl ?_
  refine g_iload_n C (pc := 1) dJ6_bitCount_0f7a4_1 0 rfl ?_
  refine g_iconst C (pc := 2) 1 dJ6_bitCount_0f7a4_2 (by decide) ?_
  refine g_iushr C (pc := 3) dJ6_bitCount_0f7a4_3 ?_
  refine g_ldc_w C (pc := 4) _ gk_RJ6_265 dJ6_bitCount_0f7a4_4 ?_
  refine g_iand C (pc := 7) dJ6_bitCount_0f7a4_7 ?_
  refine g_isub C (pc := 8) dJ6_bitCount_0f7a4_8 ?_
  refine g_istore_n C (pc := 9) dJ6_bitCount_0f7a4_9 (by decide) (fun v9 => [(0, .int v9)]) (fun _ => rfl) (fun v9 ev9 => ?_)
  refine g_iload_n C (pc := 10) dJ6_bitCount_0f7a4_10 0 rfl ?_
  refine g_ldc_w C (pc := 11) _ gk_RJ6_266 dJ6_bitCount_0f7a4_11 ?_
  refine g_iand C (pc := 14) dJ6_bitCount_0f7a4_14 ?_
  refine g_iload_n C (pc := 15) dJ6_bitCount_0f7a4_15 0 rfl ?_
  refine g_iconst C (pc := 16) 2 dJ6_bitCount_0f7a4_16 (by decide) ?_
  refine g_iushr C (pc := 17) dJ6_bitCount_0f7a4_17 ?_
  refine g_ldc_w C (pc := 18) _ gk_RJ6_266 dJ6_bitCount_0f7a4_18 ?_
  refine g_iand C (pc := 21) dJ6_bitCount_0f7a4_21 ?_
  refine g_iadd C (pc := 22) dJ6_bitCount_0f7a4_22 ?_
  refine g_istore_n C (pc := 23) dJ6_bitCount_0f7a4_23 (by decide) (fun v23 => [(0, .int v23)]) (fun _ => rfl) (fun v23 ev23 => ?_)
  refine g_iload_n C (pc := 24) dJ6_bitCount_0f7a4_24 0 rfl ?_
  refine g_iload_n C (pc := 25) dJ6_bitCount_0f7a4_25 0 rfl ?_
  refine g_iconst C (pc := 26) 4 dJ6_bitCount_0f7a4_26 (by decide) ?_
  refine g_iushr C (pc := 27) dJ6_bitCount_0f7a4_27 ?_
  refine g_iadd C (pc := 28) dJ6_bitCount_0f7a4_28 ?_
  refine g_ldc_w C (pc := 29) _ gk_RJ6_267 dJ6_bitCount_0f7a4_29 ?_
  refine g_iand C (pc := 32) dJ6_bitCount_0f7a4_32 ?_
  refine g_istore_n C (pc := 33) dJ6_bitCount_0f7a4_33 (by decide) (fun v33 => [(0, .int v33)]) (fun _ => rfl) (fun v33 ev33 => ?_)
  refine g_iload_n C (pc := 34) dJ6_bitCount_0f7a4_34 0 rfl ?_
  refine g_iload_n C (pc := 35) dJ6_bitCount_0f7a4_35 0 rfl ?_
  refine g_bipush C (pc := 36) 8 dJ6_bitCount_0f7a4_36 (by decide) ?_
  refine g_iushr C (pc := 38) dJ6_bitCount_0f7a4_38 ?_
  refine g_iadd C (pc := 39) dJ6_bitCount_0f7a4_39 ?_
  refine g_istore_n C (pc := 40) dJ6_bitCount_0f7a4_40 (by decide) (fun v40 => [(0, .int v40)]) (fun _ => rfl) (fun v40 ev40 => ?_)
  refine g_iload_n C (pc := 41) dJ6_bitCount_0f7a4_41 0 rfl ?_
  refine g_iload_n C (pc := 42) dJ6_bitCount_0f7a4_42 0 rfl ?_
  refine g_bipush C (pc := 43) 16 dJ6_bitCount_0f7a4_43 (by decide) ?_
  refine g_iushr C (pc := 45) dJ6_bitCount_0f7a4_45 ?_
  refine g_iadd C (pc := 46) dJ6_bitCount_0f7a4_46 ?_
  refine g_istore_n C (pc := 47) dJ6_bitCount_0f7a4_47 (by decide) (fun v47 => [(0, .int v47)]) (fun _ => rfl) (fun v47 ev47 => ?_)
  refine g_iload_n C (pc := 48) dJ6_bitCount_0f7a4_48 0 rfl ?_
  refine g_bipush C (pc := 49) 63 dJ6_bitCount_0f7a4_49 (by decide) ?_
  refine g_iand C (pc := 51) dJ6_bitCount_0f7a4_51 ?_
  refine g_iret C hR (pc := 52) rfl dJ6_bitCount_0f7a4_52 ?_
  refine ⟨rfl, _, rfl, ?_⟩
  subst_vars; exact ⟨rfl, rfl⟩
set_option maxHeartbeats 400000 in
theorem c_X1_windAt (n : Nat) (ρ : Rho) (I : Mem) (q k : Nat) (x : Int32) (hn9 : n ≤ 999) (hbl0 : shp q = (11, 3)) (hbl1 : ρ q 0 = some (q + 1)) (hbl2 : ρ q 1 = some (q + 2)) (hbl3 : shp (q + 1) = (0, 3)) (hbl4 : shp (q + 2) = (0, 3)) (hbln : q + 2 < n) (hk : k < 3) (hx : x = nI k) : MI yX1_windAt cX1_windAt 2 (some .int) 0 [.ref q, .int x] n ρ I (fun v I1 => v = I (q + 2) k ∧ I = I1) := by
  refine MG.of (by decide +kernel) (Nat.le_of_ble_eq_true rfl) hn9 ?_
  intro κ C hR
  show G κ n ρ 0 [(0, .ref q), (1, .int x)] [] I
  subst hx
  refine g_iload_n C (pc := 0) dX1_windAt_0 1 rfl ?_
  refine g_if_lt C (pc := 1) 22 dX1_windAt_1 (by decide) (fun c1 => ?_) (fun c1 => ?_)
  · exact absurd c1 (nI_pos (by omega))
  · refine g_iload_n C (pc := 4) dX1_windAt_4 1 rfl ?_
    refine g_aload_n C (pc := 5) dX1_windAt_5 0 rfl ?_
    refine g_getR C (pc := 6) fl_RX1_15 (by decide) (by first | assumption | rfl | omega) (by first | assumption | rfl | omega) (by first | assumption | rfl | omega) dX1_windAt_6 ?_
    refine g_alen C (pc := 9) 3 (by first | assumption | rfl | omega) (by decide) (by first | assumption | rfl | omega) rfl dX1_windAt_9 ?_
    refine g_icmp_ge C (pc := 10) 22 dX1_windAt_10 (by decide) (fun c10 => ?_) (fun c10 => ?_)
    · exact absurd (nI_lt (b := 3) hk (by decide)) (Int32.not_lt.mpr c10)
    · refine g_aload_n C (pc := 13) dX1_windAt_13 0 rfl ?_
      refine g_getR C (pc := 14) fl_RX1_15 (by decide) (by first | assumption | rfl | omega) (by first | assumption | rfl | omega) (by first | assumption | rfl | omega) dX1_windAt_14 ?_
      refine g_iload_n C (pc := 17) dX1_windAt_17 1 rfl ?_
      refine g_iald C (pc := 18) (by first | assumption | rfl | omega) (by first | assumption | rfl | omega) (vp_in_nI (by omega) (by decide)) dX1_windAt_18 ?_
      refine g_goto C (pc := 19) 24 dX1_windAt_19 (by decide) ?_
      refine g_iret C hR (pc := 24) rfl dX1_windAt_24 ?_
      refine ⟨rfl, _, rfl, ?_⟩
      rw [nI_clamp (by omega)]; exact ⟨rfl, rfl⟩
set_option maxHeartbeats 400000 in
theorem c_X6_firstTurn (n : Nat) (ρ : Rho) (I : Mem) (q k : Nat) (x : Int32) (hn9 : n ≤ 999) (h0 : shp q = (15, 7)) (h2 : ρ q 2 = some (q + 4)) (h3 : shp (q + 4) = (0, 3)) (h4 : q + 4 < n) (hk : k < 3) (hx : x = nI k) : MI yX6_firstTurn cX6_firstTurn 2 (some .int) 0 [.ref q, .int x] n ρ I (fun v I1 => v = I (q + 4) k ∧ I = I1) := by
  refine MG.of (by decide +kernel) (Nat.le_of_ble_eq_true rfl) hn9 ?_
  intro κ C hR
  show G κ n ρ 0 [(0, .ref q), (1, .int x)] [] I
  subst hx
  refine g_iload_n C (pc := 0) dX6_firstTurn_0 1 rfl ?_
  refine g_if_lt C (pc := 1) 22 dX6_firstTurn_1 (by decide) (fun c1 => ?_) (fun c1 => ?_)
  · exact absurd c1 (nI_pos (by omega))
  · refine g_iload_n C (pc := 4) dX6_firstTurn_4 1 rfl ?_
    refine g_aload_n C (pc := 5) dX6_firstTurn_5 0 rfl ?_
    refine g_getR C (pc := 6) fl_RX6_25 (by decide) (by first | assumption | rfl | omega) (by first | assumption | rfl | omega) (by first | assumption | rfl | omega) dX6_firstTurn_6 ?_
    refine g_alen C (pc := 9) 3 (by first | assumption | rfl | omega) (by decide) (by first | assumption | rfl | omega) rfl dX6_firstTurn_9 ?_
    refine g_icmp_ge C (pc := 10) 22 dX6_firstTurn_10 (by decide) (fun c10 => ?_) (fun c10 => ?_)
    · exact absurd (nI_lt (b := 3) hk (by decide)) (Int32.not_lt.mpr c10)
    · refine g_aload_n C (pc := 13) dX6_firstTurn_13 0 rfl ?_
      refine g_getR C (pc := 14) fl_RX6_25 (by decide) (by first | assumption | rfl | omega) (by first | assumption | rfl | omega) (by first | assumption | rfl | omega) dX6_firstTurn_14 ?_
      refine g_iload_n C (pc := 17) dX6_firstTurn_17 1 rfl ?_
      refine g_iald C (pc := 18) (by first | assumption | rfl | omega) (by first | assumption | rfl | omega) (vp_in_nI (by omega) (by decide)) dX6_firstTurn_18 ?_
      refine g_goto C (pc := 19) 24 dX6_firstTurn_19 (by decide) ?_
      refine g_iret C hR (pc := 24) rfl dX6_firstTurn_24 ?_
      refine ⟨rfl, _, rfl, ?_⟩
      rw [nI_clamp (by omega)]; exact ⟨rfl, rfl⟩
set_option maxHeartbeats 400000 in
theorem c_X3_toldAt (n : Nat) (ρ : Rho) (I : Mem) (g k m : Nat) (x : Int32) (hn9 : n ≤ 999) (h0 : shp g = (12, 8)) (h2 : ρ g 4 = some (g + 11)) (h3 : shp (g + 11) = (0, 3)) (h4 : g + 11 < n) (hk : k < m) (hm : m ≤ 3) (hgm : I g 7 = nI m) (hx : x = nI k) : MI yX3_toldAt cX3_toldAt 2 (some .int) 0 [.ref g, .int x] n ρ I (fun v I1 => v = I (g + 11) k ∧ I = I1) := by
  refine MG.of (by decide +kernel) (Nat.le_of_ble_eq_true rfl) hn9 ?_
  intro κ C hR
  show G κ n ρ 0 [(0, .ref g), (1, .int x)] [] I
  subst hx
  refine g_iload_n C (pc := 0) dX3_toldAt_0 1 rfl ?_
  refine g_if_lt C (pc := 1) 26 dX3_toldAt_1 (by decide) (fun c1 => ?_) (fun c1 => ?_)
  · exact absurd c1 (nI_pos (by omega))
  · refine g_iload_n C (pc := 4) dX3_toldAt_4 1 rfl ?_
    refine g_aload_n C (pc := 5) dX3_toldAt_5 0 rfl ?_
    refine g_getI C (pc := 6) fl_RX3_46 (by decide) (by first | assumption | rfl | omega) (by first | assumption | rfl | omega) dX3_toldAt_6 ?_
    refine g_icmp_ge C (pc := 9) 26 dX3_toldAt_9 (by decide) (fun c9 => ?_) (fun c9 => ?_)
    · rw [hgm, nI_leI (by omega) (by omega)] at c9; omega
    · refine g_iload_n C (pc := 12) dX3_toldAt_12 1 rfl ?_
      refine g_iconst C (pc := 13) 3 dX3_toldAt_13 (by decide) ?_
      refine g_icmp_ge C (pc := 14) 26 dX3_toldAt_14 (by decide) (fun c14 => ?_) (fun c14 => ?_)
      · exact absurd (nI_lt (b := 3) (show k < 3 by omega) (by decide)) (Int32.not_lt.mpr c14)
      · refine g_aload_n C (pc := 17) dX3_toldAt_17 0 rfl ?_
        refine g_getR C (pc := 18) fl_RX3_32 (by decide) (by first | assumption | rfl | omega) (by first | assumption | rfl | omega) (by first | assumption | rfl | omega) dX3_toldAt_18 ?_
        refine g_iload_n C (pc := 21) dX3_toldAt_21 1 rfl ?_
        refine g_iald C (pc := 22) (by first | assumption | rfl | omega) (by first | assumption | rfl | omega) (vp_in_nI (show k < 3 by omega) (by decide)) dX3_toldAt_22 ?_
        refine g_goto C (pc := 23) 28 dX3_toldAt_23 (by decide) ?_
        refine g_iret C hR (pc := 28) rfl dX3_toldAt_28 ?_
        refine ⟨rfl, _, rfl, ?_⟩
        rw [nI_clamp (by omega)]; exact ⟨rfl, rfl⟩
set_option maxHeartbeats 400000 in
theorem c_X1_spell (n : Nat) (ρ : Rho) (I : Mem) (q g c m : Nat) (tl : Nat → Nat) (x : Int32) (hn9 : n ≤ 999) (hbl0 : shp q = (11, 3)) (hbl1 : ρ q 0 = some (q + 1)) (hbl2 : ρ q 1 = some (q + 2)) (hbl3 : shp (q + 1) = (0, 3)) (hbl4 : shp (q + 2) = (0, 3)) (hbln : q + 2 < n) (hg0 : shp g = (12, 8)) (hg4 : ρ g 4 = some (g + 11)) (hg11 : shp (g + 11) = (0, 3)) (hgn : g + 11 < n) (hm : m ≤ 3) (hgm : I g 7 = nI m) (htl : ∀ q, q < m → I (g + 11) q = nI (tl q) ∧ tl q < 5) (hqg : q + 1 ≠ g ∧ q + 1 ≠ g + 11) (hc : c < 100000) (hx : x = nI c) : MI yX1_spell cX1_spell 6 (some .int) 1 [.ref q, .ref g, .int x] n ρ I (fun v I1 => v = nI (ctP (fun x => decide (dig5 m c (m - 1 - x) ≠ tl (m - 1 - x))) m) ∧ (∀ x, x < m → I1 (q + 1) x = nI (dig5 m c x)) ∧ (∀ x, m ≤ x → I1 (q + 1) x = I (q + 1) x) ∧ ∀ i, i ≠ q + 1 → I1 i = I i) := by
  refine MG.of (by decide +kernel) (Nat.le_of_ble_eq_true rfl) hn9 ?_
  intro κ C hR
  show G κ n ρ 0 [(0, .ref q), (1, .ref g), (2, .int x)] [] I
  subst hx
  refine g_iload_n C (pc := 0) dX1_spell_0 2 rfl ?_
  refine g_istore_n C (pc := 1) dX1_spell_1 (by decide) (fun v1 => [(3, .int v1), (0, .ref q), (1, .ref g), (2, .int (nI c))]) (fun _ => rfl) (fun v1 ev1 => ?_)
  refine g_iconst C (pc := 2) 0 dX1_spell_2 (by decide) ?_
  refine g_istore C (pc := 3) dX1_spell_3 (by decide) (fun v3 => [(4, .int v3), (3, .int v1), (0, .ref q), (1, .ref g), (2, .int (nI c))]) (fun _ => rfl) (fun v3 ev3 => ?_)
  refine g_aload_n C (pc := 5) dX1_spell_5 3 rfl ?_
  refine g_getI C (pc := 6) fl_RX1_22 (by decide) (by first | assumption | rfl | omega) (by first | assumption | rfl | omega) dX1_spell_6 ?_
  refine g_iconst C (pc := 9) 3 dX1_spell_9 (by decide) ?_
  refine g_min C (pc := 10) gl_RX1_65 (Nat.le_refl _) (by decide) (Nat.le_of_ble_eq_true rfl) dX1_spell_10 (fun v10 e10 => ?_)
  refine g_iconst C (pc := 13) 1 dX1_spell_13 (by decide) ?_
  refine g_isub C (pc := 14) dX1_spell_14 ?_
  refine g_istore C (pc := 15) dX1_spell_15 (by decide) (fun v15 => [(5, .int v15), (4, .int v3), (3, .int v1), (0, .ref q), (1, .ref g), (2, .int (nI c))]) (fun _ => rfl) (fun v15 ev15 => ?_)
  have L17 : ∀ (k9 : Nat) (j : Nat) (wz5 : Int32) (wz4 : Int32) (wz3 : Int32) (J : Mem) (hw5 : wz5 = nI j - 1) (hj : j ≤ m) (hw3 : wz3 = nI (c / 5 ^ (m - j))) (hw4 : wz4 = nI (ctP (fun x => decide (dig5 m c (m - 1 - x) ≠ tl (m - 1 - x))) (m - j))) (hJ : ∀ i, i ≠ q + 1 → J i = I i) (hD : ∀ x, x < m → j ≤ x → J (q + 1) x = nI (dig5 m c x)) (hK : ∀ x, m ≤ x → J (q + 1) x = I (q + 1) x), j < k9 → G κ n ρ 17 [(5, .int wz5), (4, .int wz4), (3, .int wz3), (0, .ref q), (1, .ref g), (2, .int (nI c))] [] J := by
    intro k9
    induction k9 with
    | zero => intro j wz5 wz4 wz3 J hw5 hj hw3 hw4 hJ hD hK hm17; exact absurd hm17 (Nat.not_lt_zero _)
    | succ k9 ih17 =>
      intro j wz5 wz4 wz3 J hw5 hj hw3 hw4 hJ hD hK hm17
      have hcc : c / 5 ^ (m - j) ≤ c := Nat.div_le_self _ _
      refine g_iload C (pc := 17) dX1_spell_17 0 rfl ?_
      refine g_if_lt C (pc := 19) 61 dX1_spell_19 (by decide) (fun c19 => ?_) (fun c19 => ?_)
      · have hj0 : j = 0 := by
          rcases Nat.eq_zero_or_pos j with h9 | h9
          · exact h9
          · rw [hw5, show nI j - 1 = nI (j - 1) from pk_sub (b := 1) h9] at c19; exact absurd c19 (nI_pos (by omega))
        refine g_iload C (pc := 61) dX1_spell_61 1 rfl ?_
        refine g_iret C hR (pc := 63) rfl dX1_spell_63 ?_
        refine ⟨rfl, _, rfl, ?_⟩
        subst hj0
        exact ⟨hw4, fun x h1 => hD x h1 (Nat.zero_le x), hK, hJ⟩
      · have hjp : 0 < j := by
          rcases Nat.eq_zero_or_pos j with h9 | h9
          · rw [hw5, h9] at c19; exact absurd c19 (by decide)
          · exact h9
        obtain ⟨j1, rfl⟩ : ∃ j1, j = j1 + 1 := ⟨j - 1, by omega⟩
        replace hw5 := hw5.trans (nI_pred j1)
        have hclm : wz5.toNatClampNeg = j1 := by rw [hw5]; exact nI_clamp (by omega)
        have hin : vp_in wz5 3 := by rw [hw5]; exact vp_in_nI (by omega) (by decide)
        have hdg : wz3 - wz3 / 5 * 5 = nI (dig5 m c j1) := by
          rw [hw3]; unfold dig5
          rw [show m - 1 - j1 = m - (j1 + 1) by omega]
          exact pk_rem (d := 5) (by omega) (by decide) (by decide)
        have hdx : m - 1 - (m - (j1 + 1)) = j1 := by omega
        refine g_aload_n C (pc := 22) dX1_spell_22 3 rfl ?_
        refine g_getR C (pc := 23) fl_RX1_9 (by decide) (by first | assumption | rfl | omega) (by first | assumption | rfl | omega) (by first | assumption | rfl | omega) dX1_spell_23 ?_
        refine g_iload C (pc := 26) dX1_spell_26 0 rfl ?_
        refine g_iload_n C (pc := 28) dX1_spell_28 2 rfl ?_
        refine g_iconst C (pc := 29) 5 dX1_spell_29 (by decide) ?_
        refine g_irem C (pc := 30) dX1_spell_30 (by first | assumption | decide) ?_
        refine g_iast C (pc := 31) (by first | assumption | rfl | omega) (by first | assumption | rfl | omega) hn9 hin dX1_spell_31 ?_
        refine g_iload_n C (pc := 32) dX1_spell_32 2 rfl ?_
        refine g_iconst C (pc := 33) 5 dX1_spell_33 (by decide) ?_
        refine g_idiv C (pc := 34) dX1_spell_34 (by first | assumption | decide) ?_
        refine g_istore_n C (pc := 35) dX1_spell_35 (by decide) (fun v35 => [(3, .int v35), (5, .int wz5), (4, .int wz4), (0, .ref q), (1, .ref g), (2, .int (nI c))]) (fun _ => rfl) (fun v35 ev35 => ?_)
        refine g_aload_n C (pc := 36) dX1_spell_36 3 rfl ?_
        refine g_getR C (pc := 37) fl_RX1_9 (by decide) (by first | assumption | rfl | omega) (by first | assumption | rfl | omega) (by first | assumption | rfl | omega) dX1_spell_37 ?_
        refine g_iload C (pc := 40) dX1_spell_40 1 rfl ?_
        refine g_iald C (pc := 42) (by first | assumption | rfl | omega) (by first | assumption | rfl | omega) hin dX1_spell_42 ?_
        refine g_aload_n C (pc := 43) dX1_spell_43 4 rfl ?_
        refine g_iload C (pc := 44) dX1_spell_44 1 rfl ?_
        refine g_callVI C (pc := 46) mf_X3_toldAt lk_RX1_71 (c_X3_toldAt n ρ _ g j1 m _ hn9 hg0 hg4 hg11 hgn (by omega) hm (by rw [wr_n hqg.1.symm, hJ g hqg.1.symm]; exact hgm) hw5) (by decide) (Nat.le_refl _) rfl (by first | assumption | rfl | omega) rfl (by first | assumption | rfl | omega) (Nat.le_of_ble_eq_true rfl) dX1_spell_46 (fun v46 I46 h46 => ?_)
        obtain ⟨e46, rfl⟩ := h46
        refine g_icmp_eq C (pc := 49) 55 dX1_spell_49 (by decide) (fun c49 => ?_) (fun c49 => ?_)
        · have hsame : dig5 m c j1 = tl j1 := by
            rw [hclm, wr_ss, e46, wr_n hqg.2.symm, hJ _ hqg.2.symm, (htl j1 (by omega)).1, hdg] at c49
            exact (nI_eq (by unfold dig5; have := Nat.mod_lt (c / 5 ^ (m - 1 - j1)) (show 0 < 5 by decide); omega) (by have := (htl j1 (by omega)).2; omega)).mp c49
          refine g_iinc C (pc := 55) (-1) dX1_spell_55 1 rfl (by decide) (by decide) (fun v55 => [(5, .int v55), (3, .int v35), (4, .int wz4), (0, .ref q), (1, .ref g), (2, .int (nI c))]) (fun _ => rfl) (fun v55 ev55 => ?_)
          refine g_goto C (pc := 58) 17 dX1_spell_58 (by decide) ?_
          refine g_lv C [0, 2, 1, 3, 4, 5] rfl (ih17 j1 _ _ _ _ ?_ ?_ ?_ ?_ ?_ ?_ ?_ (by omega))
          · subst ev55; rw [hw5]; exact (Int32.sub_eq_add_neg _ _).symm
          · omega
          · rw [ev35, hw3, show m - j1 = (m - (j1 + 1)) + 1 by omega, Nat.pow_succ, ← Nat.div_div_eq_div_mul]; exact pk_div (d := 5) (by omega) (by decide) (by decide)
          · first
            | (rw [show m - j1 = (m - (j1 + 1)) + 1 by omega, ctP, hdx]; rw [if_neg (by simpa using hsame)]; exact hw4)
            | (subst ev52; rw [show m - j1 = (m - (j1 + 1)) + 1 by omega, ctP, hdx, if_pos (by simpa using hdiff), hw4]; exact nI_1 _)
          · intro i hi; rw [wr_n hi]; exact hJ i hi
          · intro x h1 h2
            rw [hclm]
            by_cases e9 : x = j1
            · subst e9; rw [wr_ss]; exact hdg
            · rw [wr_sn e9]; exact hD x h1 (by omega)
          · intro x h1; rw [hclm, wr_sn (by omega)]; exact hK x h1
        · have hdiff : dig5 m c j1 ≠ tl j1 := by
            intro h9
            apply c49
            rw [hclm, wr_ss, e46, wr_n hqg.2.symm, hJ _ hqg.2.symm, (htl j1 (by omega)).1, hdg, h9]
          refine g_iinc C (pc := 52) (1) dX1_spell_52 2 rfl (by decide) (by decide) (fun v52 => [(4, .int v52), (3, .int v35), (5, .int wz5), (0, .ref q), (1, .ref g), (2, .int (nI c))]) (fun _ => rfl) (fun v52 ev52 => ?_)
          refine g_iinc C (pc := 55) (-1) dX1_spell_55 2 rfl (by decide) (by decide) (fun v55 => [(5, .int v55), (4, .int v52), (3, .int v35), (0, .ref q), (1, .ref g), (2, .int (nI c))]) (fun _ => rfl) (fun v55 ev55 => ?_)
          refine g_goto C (pc := 58) 17 dX1_spell_58 (by decide) ?_
          refine g_lv C [0, 1, 2, 3, 4, 5] rfl (ih17 j1 _ _ _ _ ?_ ?_ ?_ ?_ ?_ ?_ ?_ (by omega))
          · subst ev55; rw [hw5]; exact (Int32.sub_eq_add_neg _ _).symm
          · omega
          · rw [ev35, hw3, show m - j1 = (m - (j1 + 1)) + 1 by omega, Nat.pow_succ, ← Nat.div_div_eq_div_mul]; exact pk_div (d := 5) (by omega) (by decide) (by decide)
          · first
            | (rw [show m - j1 = (m - (j1 + 1)) + 1 by omega, ctP, hdx]; rw [if_neg (by simpa using hsame)]; exact hw4)
            | (subst ev52; rw [show m - j1 = (m - (j1 + 1)) + 1 by omega, ctP, hdx, if_pos (by simpa using hdiff), hw4]; exact nI_1 _)
          · intro i hi; rw [wr_n hi]; exact hJ i hi
          · intro x h1 h2
            rw [hclm]
            by_cases e9 : x = j1
            · subst e9; rw [wr_ss]; exact hdg
            · rw [wr_sn e9]; exact hD x h1 (by omega)
          · intro x h1; rw [hclm, wr_sn (by omega)]; exact hK x h1
  refine g_lv C [0, 1, 2, 3, 4, 5] rfl (L17 (_ + 1) m _ _ _ _ ?_ ?_ ?_ ?_ ?_ ?_ ?_ (by first | omega | exact Nat.lt_succ_self _))
  · rw [ev15, e10, hgm]; split
    · rename_i h9; rw [show (3 : Int32) = nI 3 from rfl, nI_ltI (by decide) (by omega)] at h9; omega
    · rfl
  · omega
  · rw [ev1, Nat.sub_self]; simp
  · rw [ev3, Nat.sub_self]; rfl
  · intro i _; rfl
  · intro x h1 h2; omega
  · intro x _; rfl
