section
variable {κ : Kap} {y : MethodName} {cc : ByteArray} {nL d n1 n : Nat} {ρ : Rho} {pc : Nat} {lv : List (Nat × Value)} {st : List Value} {I : Mem} {P : Option Value → Rho → Mem → Prop}
variable {y' : MethodName} {cc' : ByteArray} {nL' d' k idx cnt : Nat} {ret' : Option FieldType}
theorem g_callIS (C : Cx κ y cc nL d n1) (hM : MF y' cc' nL' none cnt) (hL : LinkI y.cls idx y') {i : Nat} {As : List Value} (hc : MG y' cc' nL' none d' k (.ref i :: As) n ρ I P) (hd : d' < d) (hk : n + k ≤ n1) (hn : As.length = cnt) (hst : (st.map fun v => v.category).sum ≤ 8) (dg : decode cc pc = .ok (.invokespecial idx, 3))
    (K : ∀ (r : Option Value) (ρ' : Rho) (I' : Mem), P r ρ' I' → G κ (n + k) ρ' (pc + 3) lv (r.toList ++ st) I') : G κ n ρ pc lv (As.reverse ++ .ref i :: st) I := by
  obtain ⟨p, l, e, R, s, m, args, below, meth, cd, Q, dC, dI, dA, ad, n0⟩ := κ
  obtain ⟨hx, hb, hml, hown, hts, hlk, hnm, hKt, hSt, h01, h19, hrc, hrs, hfr, hlo, hb0⟩ := C
  intro h0 H locs ls hW hS hl
  have hf : n - n0 + k ≤ R.cells ∧ sl n - sl n0 + (sl (n + k) - sl n) ≤ R.slots := by
    have q1 := sl_mono (Nat.le_add_right n k)
    have q2 := sl_mono hk
    have q3 := sl_mono h0
    omega
  have hp : PreS s H (PcM dC dI dA ad (.ref i :: As) n ρ I) (.ref (ad i) :: As.map (cvV ad)) := ⟨PcM.blind, fun U hU hWm => ⟨rfl, by rw [hU]; exact hW, hKt.moved hWm, by rw [hU]; exact hSt.moved hWm hS, by rw [hU]; exact Nat.le_trans hb0 hS.1⟩⟩
  have hstk : (As.reverse ++ .ref i :: st).map (cvV ad) = (As.map (cvV ad)).reverse ++ .ref (ad i) :: st.map (cvV ad) := by simp [cvV]
  have hroom : 2 * (F0 m pc ls ((As.reverse ++ .ref i :: st).map (cvV ad))).monitorRoom + ((st.map (cvV ad)).map fun v => v.category).sum ≤ 8 := by
    refine lv_room (rest := ((As.reverse ++ .ref i :: st).map (cvV ad))) ?_
    rw [List.map_map]
    have : ((fun v => v.category) ∘ cvV ad) = fun v : Value => v.category := by funext v; exact cvV_cat ad v
    rw [this]; exact hst
  have hrun : va_Run p l e R s m args below meth cd H locs (n - n0) (sl n - sl n0) k (sl (n + k) - sl n) (F0 m pc ls ((As.reverse ++ .ref i :: st).map (cvV ad))) (st.map (cvV ad)) (QcM dC dI dA ad (n + k) P (Value.ref (ad i) :: As.map (cvV ad)).toArray) (fun q => ad 0 ≤ q) := by
    obtain ⟨hlink, hinst, hin⟩ := hL
    rcases hlink with hlink | ⟨h, hlink⟩
    · exact va_runI (own := y.cls) ⟨hx, hb, hml, hown, hts⟩ (hc l dC dI dA ad) (cwI cnt hts (GW_goodIn (GW_ws hM)) rfl rfl rfl (hts _ hM.2.2.1) (hts _ hlink) (hts _ hinst) hin hM.1 (room_of hd hfr hlo hM.2.2.2)) hp rfl (by rw [List.length_map]; exact hn) (hl.1.trans hml) hstk hroom dg hf
    · exact va_runIN (own := y.cls) (host := h) ⟨hx, hb, hml, hown, hts⟩ (hc l dC dI dA ad) ⟨va_cnB cnt hts (GW_goodIn (GW_ws hM)) rfl rfl rfl (hKt.2.2.1 _ hlink) (hts _ hM.2.2.1) hM.1 (room_of hd hfr hlo hM.2.2.2), hin, hts _ hinst⟩ hp rfl (by rw [List.length_map]; exact hn) (hl.1.trans hml) hstk hroom dg hf
  refine run_go hrun hS fun r ρ' I' H1 locs1 hP hW1 hS1 => ?_
  have q1 := sl_mono (Nat.le_add_right n k)
  have q3 := sl_mono h0
  have e1 : n - n0 + k = n + k - n0 := by omega
  have e2 : sl n - sl n0 + (sl (n + k) - sl n) = sl (n + k) - sl n0 := by omega
  have e3 : (r.map (cvV ad)).toList ++ st.map (cvV ad) = (r.toList ++ st).map (cvV ad) := by cases r <;> simp
  rw [e1, e2, e3]
  exact K r ρ' I' hP (by omega) H1 locs1 ls hW1 hS1 hl
end
theorem c_X2_init (n i : Nat) (ρ : Rho) (I : Mem) (hn9 : n ≤ 999) : MG yX2_init cX2_init 1 none 0 0 [.ref i] n ρ I (fun r ρ9 I9 => r = none ∧ ρ9 = ρ ∧ I9 = I) := by
  refine MG.of (by decide +kernel) (Nat.le_of_ble_eq_true rfl) hn9 ?_
  intro κ C hR
  show G κ n ρ 0 [(0, .ref i)] [] I
  refine g_aload_n C (pc := 0) dX2_init_0 0 rfl ?_
  refine g_objInit C (pc := 1) gO_RX2 gO_inst gO_code (Nat.le_of_ble_eq_true rfl) dX2_init_1 ?_
  refine g_vret C hR (pc := 4) rfl dX2_init_4 ⟨rfl, rfl, rfl⟩
theorem c_X4_init (i : Nat) (ρ : Rho) (I : Mem) (hs : (SH.drop i).take 1 = [(13, 2)]) (hi9 : i + 1 ≤ 119) (hI : I i = fun _ => 0) : MG yX4_init cX4_init 1 none 1 0 [.ref i] (i + 1) ρ I (fun r ρ9 I9 => r = none ∧ True ∧ CtQ i 1 ρ I ρ9 I9) := by
  refine MG.of (by decide +kernel) (Nat.le_of_ble_eq_true rfl) (by omega) ?_
  intro κ C hR
  show G κ (i + 1) ρ 0 [(0, .ref i)] [] I
  refine g_aload_n C (pc := 0) dX4_init_0 0 rfl ?_
  refine g_callIS C (pc := 1) mf_X2_init lk_RX4_3 (k := 0) (i := i) (As := []) (c_X2_init (i + 1) i ρ I (by omega)) (by decide) (by omega) rfl (Nat.le_of_ble_eq_true rfl) dX4_init_1 ?_
  rintro _ _ _ ⟨rfl, rfl, rfl⟩
  refine g_vret C hR (pc := 4) rfl dX4_init_4 ⟨rfl, trivial, fun _ _ => rfl, fun _ _ => rfl, fun a h1 h2 => ?_⟩
  rw [show a = i by omega]; exact hI
set_option maxHeartbeats 1600000 in
theorem c_X0_init (i : Nat) (ρ : Rho) (I : Mem) (hs : (SH.drop i).take 2 = [(10, 2), (0, 2)]) (hi9 : i + 2 ≤ 119) (hI : I i = fun _ => 0) : MG yX0_init cX0_init 1 none 1 1 [.ref i] (i + 1) ρ I (fun r ρ9 I9 => r = none ∧ (ρ9 i 0 = some (i + 1)) ∧ CtQ i 2 ρ I ρ9 I9) := by
  refine MG.of (by decide +kernel) (Nat.le_of_ble_eq_true rfl) (by omega) ?_
  intro κ C hR
  show G κ (i + 1) ρ 0 [(0, .ref i)] [] I
  have hl9 := SH_len
  have w0 : shp (i + 0) = (10, 2) := shp_of (l := [(10, 2), (0, 2)]) hs (by decide)
  have w1 : shp (i + 1) = (0, 2) := shp_of (l := [(10, 2), (0, 2)]) hs (by decide)
  refine g_aload_n C (pc := 0) dX0_init_0 0 rfl ?_
  refine g_callIS C (pc := 1) mf_X2_init lk_RX0_3 (k := 0) (i := i) (As := []) (c_X2_init (i + 1) i ρ I (by omega)) (by decide) (by omega) rfl (Nat.le_of_ble_eq_true rfl) dX0_init_1 ?_
  rintro _ _ _ ⟨rfl, e2, e3⟩
  rw [e2, e3]
  show G κ (i + 1) ρ 4 [(0, .ref i)] [] I
  refine g_aload_n C (pc := 4) dX0_init_4 0 rfl ?_
  refine g_iconst C (pc := 5) 2 dX0_init_5 (by decide) ?_
  refine g_newa C (pc := 6) (at0 := .int) (n := i + 1) (kd := 0) (N := 2) rfl (Or.inl ⟨rfl, rfl⟩) gAC_int (by decide) (by decide) (by decide) w1 (by omega) (by omega) (by omega) dX0_init_6 ?_
  refine g_putRA C (pc := 8) fl_RX0_9 (by decide) fp_0_0 (Or.inr ⟨rfl, fun C9 T9 N9 h9 => by (cases h9; rfl)⟩) w0 (by omega) (by omega) dX0_init_8 ?_
  refine ab_arr (n := i + 1) (i := i) (k := 0) (by omega) fun ρ1 I1 p1 q1 r1 u1 z1 => ?_
  show G κ (i + 2) ρ1 11 [(0, .ref i)] [] I1
  refine g_vret C hR (pc := 11) (by omega) dX0_init_11 ?_
  refine ⟨rfl, r1, ?_, ?_, ?_⟩
  · intro a ha
    rw [p1 a (by omega) (by omega)]
  · intro a ha
    rw [u1 a (by omega)]
  · intro a h1 h2
    by_cases e0 : a = i
    · subst e0
      rw [u1 a (by omega), hI]
    exact z1 a (by omega) (by omega)
set_option maxHeartbeats 1600000 in
theorem c_X1_init (i : Nat) (ρ : Rho) (I : Mem) (hs : (SH.drop i).take 3 = [(11, 3), (0, 3), (0, 3)]) (hi9 : i + 3 ≤ 119) (hI : I i = fun _ => 0) : MG yX1_init cX1_init 1 none 0 2 [.ref i] (i + 1) ρ I (fun r ρ9 I9 => r = none ∧ (ρ9 i 0 = some (i + 1) ∧ ρ9 i 1 = some (i + 2)) ∧ CtQ i 3 ρ I ρ9 I9) := by
  refine MG.of (by decide +kernel) (Nat.le_of_ble_eq_true rfl) (by omega) ?_
  intro κ C hR
  show G κ (i + 1) ρ 0 [(0, .ref i)] [] I
  have hl9 := SH_len
  have w0 : shp (i + 0) = (11, 3) := shp_of (l := [(11, 3), (0, 3), (0, 3)]) hs (by decide)
  have w1 : shp (i + 1) = (0, 3) := shp_of (l := [(11, 3), (0, 3), (0, 3)]) hs (by decide)
  have w2 : shp (i + 2) = (0, 3) := shp_of (l := [(11, 3), (0, 3), (0, 3)]) hs (by decide)
  refine g_aload_n C (pc := 0) dX1_init_0 0 rfl ?_
  refine g_objInit C (pc := 1) gO_RX1 gO_inst gO_code (Nat.le_of_ble_eq_true rfl) dX1_init_1 ?_
  refine g_aload_n C (pc := 4) dX1_init_4 0 rfl ?_
  refine g_iconst C (pc := 5) 3 dX1_init_5 (by decide) ?_
  refine g_newa C (pc := 6) (at0 := .int) (n := i + 1) (kd := 0) (N := 3) rfl (Or.inl ⟨rfl, rfl⟩) gAC_int (by decide) (by decide) (by decide) w1 (by omega) (by omega) (by omega) dX1_init_6 ?_
  refine g_putRA C (pc := 8) fl_RX1_9 (by decide) fp_1_0 (Or.inr ⟨rfl, fun C9 T9 N9 h9 => by (cases h9; rfl)⟩) w0 (by omega) (by omega) dX1_init_8 ?_
  refine ab_arr (n := i + 1) (i := i) (k := 0) (by omega) fun ρ1 I1 p1 q1 r1 u1 z1 => ?_
  show G κ (i + 2) ρ1 11 [(0, .ref i)] [] I1
  refine g_aload_n C (pc := 11) dX1_init_11 0 rfl ?_
  refine g_iconst C (pc := 12) 3 dX1_init_12 (by decide) ?_
  refine g_newa C (pc := 13) (at0 := .int) (n := i + 2) (kd := 0) (N := 3) rfl (Or.inl ⟨rfl, rfl⟩) gAC_int (by decide) (by decide) (by decide) w2 (by omega) (by omega) (by omega) dX1_init_13 ?_
  refine g_putRA C (pc := 15) fl_RX1_15 (by decide) fp_1_1 (Or.inr ⟨rfl, fun C9 T9 N9 h9 => by (cases h9; rfl)⟩) w0 (by omega) (by omega) dX1_init_15 ?_
  refine ab_arr (n := i + 2) (i := i) (k := 1) (by omega) fun ρ2 I2 p2 q2 r2 u2 z2 => ?_
  show G κ (i + 3) ρ2 18 [(0, .ref i)] [] I2
  refine g_vret C hR (pc := 18) (by omega) dX1_init_18 ?_
  refine ⟨rfl, ⟨((q2 0 (by decide)).trans r1), r2⟩, ?_, ?_, ?_⟩
  · intro a ha
    rw [p2 a (by omega) (by omega), p1 a (by omega) (by omega)]
  · intro a ha
    rw [u2 a (by omega), u1 a (by omega)]
  · intro a h1 h2
    by_cases e0 : a = i
    · subst e0
      rw [u2 a (by omega), u1 a (by omega), hI]
    by_cases e1 : a < i + 2
    · rw [u2 a (by omega)]; exact z1 a (by omega) (by omega)
    exact z2 a (by omega) (by omega)
set_option maxHeartbeats 1600000 in
theorem c_X6_init (i : Nat) (ρ : Rho) (I : Mem) (hs : (SH.drop i).take 5 = [(15, 7), (13, 2), (10, 2), (0, 2), (0, 3)]) (hi9 : i + 5 ≤ 119) (hI : I i = fun _ => 0) : MG yX6_init cX6_init 1 none 2 4 [.ref i] (i + 1) ρ I (fun r ρ9 I9 => r = none ∧ (ρ9 i 0 = some (i + 1) ∧ ρ9 i 1 = some (i + 2) ∧ ρ9 i 2 = some (i + 4) ∧ ρ9 (i + 2) 0 = some (i + 3)) ∧ CtQ i 5 ρ I ρ9 I9) := by
  refine MG.of (by decide +kernel) (Nat.le_of_ble_eq_true rfl) (by omega) ?_
  intro κ C hR
  show G κ (i + 1) ρ 0 [(0, .ref i)] [] I
  have hl9 := SH_len
  have w0 : shp (i + 0) = (15, 7) := shp_of (l := [(15, 7), (13, 2), (10, 2), (0, 2), (0, 3)]) hs (by decide)
  have w1 : shp (i + 1) = (13, 2) := shp_of (l := [(15, 7), (13, 2), (10, 2), (0, 2), (0, 3)]) hs (by decide)
  have w2 : shp (i + 2) = (10, 2) := shp_of (l := [(15, 7), (13, 2), (10, 2), (0, 2), (0, 3)]) hs (by decide)
  have w3 : shp (i + 3) = (0, 2) := shp_of (l := [(15, 7), (13, 2), (10, 2), (0, 2), (0, 3)]) hs (by decide)
  have w4 : shp (i + 4) = (0, 3) := shp_of (l := [(15, 7), (13, 2), (10, 2), (0, 2), (0, 3)]) hs (by decide)
  refine g_aload_n C (pc := 0) dX6_init_0 0 rfl ?_
  refine g_objInit C (pc := 1) gO_RX6 gO_inst gO_code (Nat.le_of_ble_eq_true rfl) dX6_init_1 ?_
  refine g_aload_n C (pc := 4) dX6_init_4 0 rfl ?_
  refine g_new C (pc := 5) (n := i + 1) gCL_RX6_9 gIN_RX4 gz_RX4 (c := 3) (T := TX4) (ty := tyX4) rfl gin_4 tyX4_ok (by decide) w1 (by omega) (by omega) (by omega) dX6_init_5 ?_
  refine g_dup C (pc := 8) dX6_init_8 rfl ?_
  refine g_callI C (pc := 9) mf_X4_init lk_RX6_11 (k := 0) (i := i + 1) (As := []) (c_X4_init (i + 1) _ _ (by rw [← List.drop_drop, sub_sh hs (by decide)]; rfl) (by omega) wrA_s) (by decide) (by omega) rfl w1 rfl (by omega) (Nat.le_of_ble_eq_true rfl) dX6_init_9 ?_
  rintro _ ρa1 I1 ⟨rfl, S1, pa1, u01, z1⟩
  refine g_putR C (pc := 12) fl_RX6_12 (by decide) fp_5_0 (Or.inr ⟨rfl, fun C9 T9 N9 h9 => by (cases h9; rfl)⟩) w0 (by omega) (by omega) dX6_init_12 ?_
  refine ab_obj (n := i + 1) (i := i) (k := 0) (by omega) pa1 fun ρ1 p1 q1 r1 s1 => ?_
  have u1 : ∀ a, a < i + 1 → I1 a = I a := fun a ha => (u01 a ha).trans (wrA_lt ha)
  show G κ (i + 2) ρ1 15 [(0, .ref i)] [] I1
  refine g_aload_n C (pc := 15) dX6_init_15 0 rfl ?_
  refine g_new C (pc := 16) (n := i + 2) gCL_RX6_18 gIN_RX0 gz_RX0 (c := 0) (T := TX0) (ty := tyX0) rfl gin_0 tyX0_ok (by decide) w2 (by omega) (by omega) (by omega) dX6_init_16 ?_
  refine g_dup C (pc := 19) dX6_init_19 rfl ?_
  refine g_callI C (pc := 20) mf_X0_init lk_RX6_20 (k := 1) (i := i + 2) (As := []) (c_X0_init (i + 2) _ _ (by rw [← List.drop_drop, sub_sh hs (by decide)]; rfl) (by omega) wrA_s) (by decide) (by omega) rfl w2 rfl (by omega) (Nat.le_of_ble_eq_true rfl) dX6_init_20 ?_
  rintro _ ρa2 I2 ⟨rfl, S2, pa2, u02, z2⟩
  refine g_putR C (pc := 23) fl_RX6_21 (by decide) fp_5_1 (Or.inr ⟨rfl, fun C9 T9 N9 h9 => by (cases h9; rfl)⟩) w0 (by omega) (by omega) dX6_init_23 ?_
  refine ab_obj (n := i + 2) (i := i) (k := 1) (by omega) pa2 fun ρ2 p2 q2 r2 s2 => ?_
  have u2 : ∀ a, a < i + 2 → I2 a = I1 a := fun a ha => (u02 a ha).trans (wrA_lt ha)
  show G κ (i + 4) ρ2 26 [(0, .ref i)] [] I2
  refine g_aload_n C (pc := 26) dX6_init_26 0 rfl ?_
  refine g_iconst C (pc := 27) 3 dX6_init_27 (by decide) ?_
  refine g_newa C (pc := 28) (at0 := .int) (n := i + 4) (kd := 0) (N := 3) rfl (Or.inl ⟨rfl, rfl⟩) gAC_int (by decide) (by decide) (by decide) w4 (by omega) (by omega) (by omega) dX6_init_28 ?_
  refine g_putRA C (pc := 30) fl_RX6_25 (by decide) fp_5_2 (Or.inr ⟨rfl, fun C9 T9 N9 h9 => by (cases h9; rfl)⟩) w0 (by omega) (by omega) dX6_init_30 ?_
  refine ab_arr (n := i + 4) (i := i) (k := 2) (by omega) fun ρ3 I3 p3 q3 r3 u3 z3 => ?_
  show G κ (i + 5) ρ3 33 [(0, .ref i)] [] I3
  refine g_vret C hR (pc := 33) (by omega) dX6_init_33 ?_
  refine ⟨rfl, ⟨((q3 0 (by decide)).trans ((q2 0 (by decide)).trans r1)), ((q3 1 (by decide)).trans r2), r3, by rw [p3 (i + 2) (by omega) (by omega), s2 (i + 2) (by omega)]; exact S2⟩, ?_, ?_, ?_⟩
  · intro a ha
    rw [p3 a (by omega) (by omega), p2 a (by omega) (by omega), p1 a (by omega) (by omega)]
  · intro a ha
    rw [u3 a (by omega), u2 a (by omega), u1 a (by omega)]
  · intro a h1 h2
    by_cases e0 : a = i
    · subst e0
      rw [u3 a (by omega), u2 a (by omega), u1 a (by omega), hI]
    by_cases e1 : a < i + 2
    · rw [u3 a (by omega), u2 a (by omega)]; exact z1 a (by omega) (by omega)
    by_cases e2 : a < i + 4
    · rw [u3 a (by omega)]; exact z2 a (by omega) (by omega)
    exact z3 a (by omega) (by omega)
set_option maxHeartbeats 1600000 in
theorem c_X10_init (i : Nat) (ρ : Rho) (I : Mem) (hs : (SH.drop i).take 14 = [(19, 13), (2, 320), (12, 8), (14, 7), (0, 6), (0, 6), (0, 5), (17, 4), (0, 6), (0, 6), (0, 2), (0, 8), (0, 8), (0, 3)]) (hi9 : i + 14 ≤ 119) (hI : I i = fun _ => 0) : MG yX10_init cX10_init 1 none 2 13 [.ref i] (i + 1) ρ I (fun r ρ9 I9 => r = none ∧ (ρ9 i 0 = some (i + 1) ∧ ρ9 i 1 = some (i + 2) ∧ GaS (i + 14) ρ9 (i + 2)) ∧ CtQ i 14 ρ I ρ9 I9) := by
  refine MG.of (by decide +kernel) (Nat.le_of_ble_eq_true rfl) (by omega) ?_
  intro κ C hR
  show G κ (i + 1) ρ 0 [(0, .ref i)] [] I
  have hl9 := SH_len
  have w0 : shp (i + 0) = (19, 13) := shp_of (l := [(19, 13), (2, 320), (12, 8), (14, 7), (0, 6), (0, 6), (0, 5), (17, 4), (0, 6), (0, 6), (0, 2), (0, 8), (0, 8), (0, 3)]) hs (by decide)
  have w1 : shp (i + 1) = (2, 320) := shp_of (l := [(19, 13), (2, 320), (12, 8), (14, 7), (0, 6), (0, 6), (0, 5), (17, 4), (0, 6), (0, 6), (0, 2), (0, 8), (0, 8), (0, 3)]) hs (by decide)
  have w2 : shp (i + 2) = (12, 8) := shp_of (l := [(19, 13), (2, 320), (12, 8), (14, 7), (0, 6), (0, 6), (0, 5), (17, 4), (0, 6), (0, 6), (0, 2), (0, 8), (0, 8), (0, 3)]) hs (by decide)
  have w3 : shp (i + 3) = (14, 7) := shp_of (l := [(19, 13), (2, 320), (12, 8), (14, 7), (0, 6), (0, 6), (0, 5), (17, 4), (0, 6), (0, 6), (0, 2), (0, 8), (0, 8), (0, 3)]) hs (by decide)
  have w4 : shp (i + 4) = (0, 6) := shp_of (l := [(19, 13), (2, 320), (12, 8), (14, 7), (0, 6), (0, 6), (0, 5), (17, 4), (0, 6), (0, 6), (0, 2), (0, 8), (0, 8), (0, 3)]) hs (by decide)
  have w5 : shp (i + 5) = (0, 6) := shp_of (l := [(19, 13), (2, 320), (12, 8), (14, 7), (0, 6), (0, 6), (0, 5), (17, 4), (0, 6), (0, 6), (0, 2), (0, 8), (0, 8), (0, 3)]) hs (by decide)
  have w6 : shp (i + 6) = (0, 5) := shp_of (l := [(19, 13), (2, 320), (12, 8), (14, 7), (0, 6), (0, 6), (0, 5), (17, 4), (0, 6), (0, 6), (0, 2), (0, 8), (0, 8), (0, 3)]) hs (by decide)
  have w7 : shp (i + 7) = (17, 4) := shp_of (l := [(19, 13), (2, 320), (12, 8), (14, 7), (0, 6), (0, 6), (0, 5), (17, 4), (0, 6), (0, 6), (0, 2), (0, 8), (0, 8), (0, 3)]) hs (by decide)
  have w8 : shp (i + 8) = (0, 6) := shp_of (l := [(19, 13), (2, 320), (12, 8), (14, 7), (0, 6), (0, 6), (0, 5), (17, 4), (0, 6), (0, 6), (0, 2), (0, 8), (0, 8), (0, 3)]) hs (by decide)
  have w9 : shp (i + 9) = (0, 6) := shp_of (l := [(19, 13), (2, 320), (12, 8), (14, 7), (0, 6), (0, 6), (0, 5), (17, 4), (0, 6), (0, 6), (0, 2), (0, 8), (0, 8), (0, 3)]) hs (by decide)
  have w10 : shp (i + 10) = (0, 2) := shp_of (l := [(19, 13), (2, 320), (12, 8), (14, 7), (0, 6), (0, 6), (0, 5), (17, 4), (0, 6), (0, 6), (0, 2), (0, 8), (0, 8), (0, 3)]) hs (by decide)
  have w11 : shp (i + 11) = (0, 8) := shp_of (l := [(19, 13), (2, 320), (12, 8), (14, 7), (0, 6), (0, 6), (0, 5), (17, 4), (0, 6), (0, 6), (0, 2), (0, 8), (0, 8), (0, 3)]) hs (by decide)
  have w12 : shp (i + 12) = (0, 8) := shp_of (l := [(19, 13), (2, 320), (12, 8), (14, 7), (0, 6), (0, 6), (0, 5), (17, 4), (0, 6), (0, 6), (0, 2), (0, 8), (0, 8), (0, 3)]) hs (by decide)
  have w13 : shp (i + 13) = (0, 3) := shp_of (l := [(19, 13), (2, 320), (12, 8), (14, 7), (0, 6), (0, 6), (0, 5), (17, 4), (0, 6), (0, 6), (0, 2), (0, 8), (0, 8), (0, 3)]) hs (by decide)
  refine g_aload_n C (pc := 0) dX10_init_0 0 rfl ?_
  refine g_objInit C (pc := 1) gO_RX10 gO_inst gO_code (Nat.le_of_ble_eq_true rfl) dX10_init_1 ?_
  refine g_aload_n C (pc := 4) dX10_init_4 0 rfl ?_
  refine g_sipush C (pc := 5) 320 dX10_init_5 (by decide) ?_
  refine g_newa C (pc := 8) (at0 := .byte) (n := i + 1) (kd := 2) (N := 320) rfl (Or.inr (Or.inr ⟨rfl, rfl⟩)) gAC_byte (by decide) (by decide) (by decide) w1 (by omega) (by omega) (by omega) dX10_init_8 ?_
  refine g_putRA C (pc := 10) fl_RX10_9 (by decide) fp_9_0 (Or.inr ⟨rfl, fun C9 T9 N9 h9 => by (cases h9; rfl)⟩) w0 (by omega) (by omega) dX10_init_10 ?_
  refine ab_arr (n := i + 1) (i := i) (k := 0) (by omega) fun ρ1 I1 p1 q1 r1 u1 z1 => ?_
  show G κ (i + 2) ρ1 13 [(0, .ref i)] [] I1
  refine g_aload_n C (pc := 13) dX10_init_13 0 rfl ?_
  refine g_new C (pc := 14) (n := i + 2) gCL_RX10_15 gIN_RX3 gz_RX3 (c := 2) (T := TX3) (ty := tyX3) rfl gin_3 tyX3_ok (by decide) w2 (by omega) (by omega) (by omega) dX10_init_14 ?_
  refine g_dup C (pc := 17) dX10_init_17 rfl ?_
  refine g_callI C (pc := 18) mf_X3_init lk_RX10_17 (k := 11) (i := i + 2) (As := []) (c_X3_init (i + 2) _ _ (by rw [← List.drop_drop, sub_sh hs (by decide)]; rfl) (by omega) wrA_s) (by decide) (by omega) rfl w2 rfl (by omega) (Nat.le_of_ble_eq_true rfl) dX10_init_18 ?_
  rintro _ ρa2 I2 ⟨rfl, S2, pa2, u02, z2⟩
  refine g_putR C (pc := 21) fl_RX10_18 (by decide) fp_9_1 (Or.inr ⟨rfl, fun C9 T9 N9 h9 => by (cases h9; rfl)⟩) w0 (by omega) (by omega) dX10_init_21 ?_
  refine ab_obj (n := i + 2) (i := i) (k := 1) (by omega) pa2 fun ρ2 p2 q2 r2 s2 => ?_
  have u2 : ∀ a, a < i + 2 → I2 a = I1 a := fun a ha => (u02 a ha).trans (wrA_lt ha)
  show G κ (i + 14) ρ2 24 [(0, .ref i)] [] I2
  refine g_vret C hR (pc := 24) (by omega) dX10_init_24 ?_
  refine ⟨rfl, ⟨((q2 0 (by decide)).trans r1), r2, (S2.ag (fun a g1 g2 => by rw [s2 a (by omega)]) (by omega))⟩, ?_, ?_, ?_⟩
  · intro a ha
    rw [p2 a (by omega) (by omega), p1 a (by omega) (by omega)]
  · intro a ha
    rw [u2 a (by omega), u1 a (by omega)]
  · intro a h1 h2
    by_cases e0 : a = i
    · subst e0
      rw [u2 a (by omega), u1 a (by omega), hI]
    by_cases e1 : a < i + 2
    · rw [u2 a (by omega)]; exact z1 a (by omega) (by omega)
    exact z2 a (by omega) (by omega)
theorem Sp.ag {m m' h : Nat} {ρ ρ' : Rho} (s : Sp m ρ h) (e : ∀ a, h ≤ a → a < h + 6 → ρ' a = ρ a) (hm : h + 5 < m') : Sp m' ρ' h := by
  obtain ⟨h1, -, h2, h3, h4, h5⟩ := s
  exact ⟨h1, hm, by rw [e h (by omega) (by omega)]; exact h2, by rw [e h (by omega) (by omega)]; exact h3, h4, h5.ag (fun a q1 q2 => e a (by omega) (by omega)) (by omega)⟩
theorem Ch.ag {ρ ρ' : Rho} {m m' : Nat} : ∀ {k h : Nat}, Ch m ρ k h → (∀ a, a < h + 6 → h ≤ a + 6 * k → ρ' a = ρ a) → h + 5 < m' → Ch m' ρ' k h
  | 0, h, c, e, hm => Sp.ag c (fun a h1 h2 => e a h2 (by omega)) hm
  | k + 1, h, ⟨s, h6, r, c⟩, e, hm => ⟨Sp.ag s (fun a h1 h2 => e a h2 (by omega)) hm, h6, by rw [e h (by omega) (by omega)]; exact r, Ch.ag c (fun a h1 h2 => e a (by omega) (by omega)) (by omega)⟩
set_option maxHeartbeats 1600000 in
theorem c_X9_init_N (i : Nat) (ρ : Rho) (I : Mem) (hs : (SH.drop i).take 6 = [(18, 5), (17, 4), (0, 6), (0, 6), (0, 2), (0, 24)]) (hi9 : i + 6 ≤ 119) (hI : I i = fun _ => 0) : MG yX9_init cX9_init 2 none 1 5 [.ref i, .null] (i + 1) ρ I (fun r ρ9 I9 => r = none ∧ (Sp (i + 6) ρ9 i ∧ ρ9 i 2 = none) ∧ CtQ i 6 ρ I ρ9 I9) := by
  refine MG.of (by decide +kernel) (Nat.le_of_ble_eq_true rfl) (by omega) ?_
  intro κ C hR
  show G κ (i + 1) ρ 0 [(0, .ref i), (1, .null)] [] I
  have hl9 := SH_len
  have w0 : shp (i + 0) = (18, 5) := shp_of (l := [(18, 5), (17, 4), (0, 6), (0, 6), (0, 2), (0, 24)]) hs (by decide)
  have w1 : shp (i + 1) = (17, 4) := shp_of (l := [(18, 5), (17, 4), (0, 6), (0, 6), (0, 2), (0, 24)]) hs (by decide)
  have w2 : shp (i + 2) = (0, 6) := shp_of (l := [(18, 5), (17, 4), (0, 6), (0, 6), (0, 2), (0, 24)]) hs (by decide)
  have w3 : shp (i + 3) = (0, 6) := shp_of (l := [(18, 5), (17, 4), (0, 6), (0, 6), (0, 2), (0, 24)]) hs (by decide)
  have w4 : shp (i + 4) = (0, 2) := shp_of (l := [(18, 5), (17, 4), (0, 6), (0, 6), (0, 2), (0, 24)]) hs (by decide)
  have w5 : shp (i + 5) = (0, 24) := shp_of (l := [(18, 5), (17, 4), (0, 6), (0, 6), (0, 2), (0, 24)]) hs (by decide)
  refine g_aload_n C (pc := 0) dX9_init_0 0 rfl ?_
  refine g_objInit C (pc := 1) gO_RX9 gO_inst gO_code (Nat.le_of_ble_eq_true rfl) dX9_init_1 ?_
  refine g_aload_n C (pc := 4) dX9_init_4 0 rfl ?_
  refine g_new C (pc := 5) (n := i + 1) gCL_RX9_9 gIN_RX8 gz_RX8 (c := 7) (T := TX8) (ty := tyX8) rfl gin_8 tyX8_ok (by decide) w1 (by omega) (by omega) (by omega) dX9_init_5 ?_
  refine g_dup C (pc := 8) dX9_init_8 rfl ?_
  refine g_callI C (pc := 9) mf_X8_init lk_RX9_11 (k := 3) (i := i + 1) (As := []) (c_X8_init (i + 1) _ _ (by rw [← List.drop_drop, sub_sh hs (by decide)]; rfl) (by omega) wrA_s) (by decide) (by omega) rfl w1 rfl (by omega) (Nat.le_of_ble_eq_true rfl) dX9_init_9 ?_
  rintro _ ρa1 I1 ⟨rfl, S1, pa1, u01, z1⟩
  refine g_putR C (pc := 12) fl_RX9_12 (by decide) fp_8_0 (Or.inr ⟨rfl, fun C9 T9 N9 h9 => by (cases h9; rfl)⟩) w0 (by omega) (by omega) dX9_init_12 ?_
  refine ab_obj (n := i + 1) (i := i) (k := 0) (by omega) pa1 fun ρ1 p1 q1 r1 s1 => ?_
  have u1 : ∀ a, a < i + 1 → I1 a = I a := fun a ha => (u01 a ha).trans (wrA_lt ha)
  show G κ (i + 5) ρ1 15 [(0, .ref i), (1, .null)] [] I1
  refine g_aload_n C (pc := 15) dX9_init_15 0 rfl ?_
  refine g_bipush C (pc := 16) 24 dX9_init_16 (by decide) ?_
  refine g_newa C (pc := 18) (at0 := .int) (n := i + 5) (kd := 0) (N := 24) rfl (Or.inl ⟨rfl, rfl⟩) gAC_int (by decide) (by decide) (by decide) w5 (by omega) (by omega) (by omega) dX9_init_18 ?_
  refine g_putRA C (pc := 20) fl_RX9_18 (by decide) fp_8_1 (Or.inr ⟨rfl, fun C9 T9 N9 h9 => by (cases h9; rfl)⟩) w0 (by omega) (by omega) dX9_init_20 ?_
  refine ab_arr (n := i + 5) (i := i) (k := 1) (by omega) fun ρ2 I2 p2 q2 r2 u2 z2 => ?_
  show G κ (i + 6) ρ2 23 [(0, .ref i), (1, .null)] [] I2
  refine g_aload_n C (pc := 23) dX9_init_23 0 rfl ?_
  refine g_aload_nN C (pc := 24) dX9_init_24 1 rfl ?_
  refine g_putNull C (pc := 25) fl_RX9_22 (by decide) fp_8_2 (Or.inr ⟨rfl, fun C9 T9 N9 h9 => by (cases h9; rfl)⟩) w0 (by omega) (by omega) dX9_init_25 ?_
  obtain ⟨ρ3, hρ3⟩ : ∃ ρ3, ρ3 = rwr ρ2 i 2 none := ⟨_, rfl⟩
  rw [← hρ3]
  have p3 : ∀ a, a < i + 6 → a ≠ i → ρ3 a = ρ2 a := fun a _ h1 => by rw [hρ3]; funext b9; exact rwr_n (fun h9 => h1 h9.1)
  have q3 : ∀ b9, b9 ≠ 2 → ρ3 i b9 = ρ2 i b9 := fun b9 h1 => by rw [hρ3]; exact rwr_n (fun h9 => h1 h9.2)
  have r3 : ρ3 i 2 = none := by rw [hρ3]; exact rwr_s
  refine g_vret C hR (pc := 28) (by omega) dX9_init_28 ?_
  refine ⟨rfl, ⟨⟨w0, by omega, (q3 0 (by decide)).trans ((q2 0 (by decide)).trans r1), (q3 1 (by decide)).trans r2, w5, (S1.ag (fun a g1 g2 => by rw [p3 a (by omega) (by omega), p2 a (by omega) (by omega), s1 a (by omega)]) (by omega))⟩, r3⟩, ?_, ?_, ?_⟩
  · intro a ha
    rw [p3 a (by omega) (by omega), p2 a (by omega) (by omega), p1 a (by omega) (by omega)]
  · intro a ha
    rw [u2 a (by omega), u1 a (by omega)]
  · intro a h1 h2
    by_cases e0 : a = i
    · subst e0
      rw [u2 a (by omega), u1 a (by omega), hI]
    by_cases e1 : a < i + 5
    · rw [u2 a (by omega)]; exact z1 a (by omega) (by omega)
    exact z2 a (by omega) (by omega)
set_option maxHeartbeats 1600000 in
theorem c_X9_init_R (i j : Nat) (ρ : Rho) (I : Mem) (hs : (SH.drop i).take 6 = [(18, 5), (17, 4), (0, 6), (0, 6), (0, 2), (0, 24)]) (hi9 : i + 6 ≤ 119) (hI : I i = fun _ => 0) : MG yX9_init cX9_init 2 none 1 5 [.ref i, .ref j] (i + 1) ρ I (fun r ρ9 I9 => r = none ∧ (Sp (i + 6) ρ9 i ∧ ρ9 i 2 = some j) ∧ CtQ i 6 ρ I ρ9 I9) := by
  refine MG.of (by decide +kernel) (Nat.le_of_ble_eq_true rfl) (by omega) ?_
  intro κ C hR
  show G κ (i + 1) ρ 0 [(0, .ref i), (1, .ref j)] [] I
  have hl9 := SH_len
  have w0 : shp (i + 0) = (18, 5) := shp_of (l := [(18, 5), (17, 4), (0, 6), (0, 6), (0, 2), (0, 24)]) hs (by decide)
  have w1 : shp (i + 1) = (17, 4) := shp_of (l := [(18, 5), (17, 4), (0, 6), (0, 6), (0, 2), (0, 24)]) hs (by decide)
  have w2 : shp (i + 2) = (0, 6) := shp_of (l := [(18, 5), (17, 4), (0, 6), (0, 6), (0, 2), (0, 24)]) hs (by decide)
  have w3 : shp (i + 3) = (0, 6) := shp_of (l := [(18, 5), (17, 4), (0, 6), (0, 6), (0, 2), (0, 24)]) hs (by decide)
  have w4 : shp (i + 4) = (0, 2) := shp_of (l := [(18, 5), (17, 4), (0, 6), (0, 6), (0, 2), (0, 24)]) hs (by decide)
  have w5 : shp (i + 5) = (0, 24) := shp_of (l := [(18, 5), (17, 4), (0, 6), (0, 6), (0, 2), (0, 24)]) hs (by decide)
  refine g_aload_n C (pc := 0) dX9_init_0 0 rfl ?_
  refine g_objInit C (pc := 1) gO_RX9 gO_inst gO_code (Nat.le_of_ble_eq_true rfl) dX9_init_1 ?_
  refine g_aload_n C (pc := 4) dX9_init_4 0 rfl ?_
  refine g_new C (pc := 5) (n := i + 1) gCL_RX9_9 gIN_RX8 gz_RX8 (c := 7) (T := TX8) (ty := tyX8) rfl gin_8 tyX8_ok (by decide) w1 (by omega) (by omega) (by omega) dX9_init_5 ?_
  refine g_dup C (pc := 8) dX9_init_8 rfl ?_
  refine g_callI C (pc := 9) mf_X8_init lk_RX9_11 (k := 3) (i := i + 1) (As := []) (c_X8_init (i + 1) _ _ (by rw [← List.drop_drop, sub_sh hs (by decide)]; rfl) (by omega) wrA_s) (by decide) (by omega) rfl w1 rfl (by omega) (Nat.le_of_ble_eq_true rfl) dX9_init_9 ?_
  rintro _ ρa1 I1 ⟨rfl, S1, pa1, u01, z1⟩
  refine g_putR C (pc := 12) fl_RX9_12 (by decide) fp_8_0 (Or.inr ⟨rfl, fun C9 T9 N9 h9 => by (cases h9; rfl)⟩) w0 (by omega) (by omega) dX9_init_12 ?_
  refine ab_obj (n := i + 1) (i := i) (k := 0) (by omega) pa1 fun ρ1 p1 q1 r1 s1 => ?_
  have u1 : ∀ a, a < i + 1 → I1 a = I a := fun a ha => (u01 a ha).trans (wrA_lt ha)
  show G κ (i + 5) ρ1 15 [(0, .ref i), (1, .ref j)] [] I1
  refine g_aload_n C (pc := 15) dX9_init_15 0 rfl ?_
  refine g_bipush C (pc := 16) 24 dX9_init_16 (by decide) ?_
  refine g_newa C (pc := 18) (at0 := .int) (n := i + 5) (kd := 0) (N := 24) rfl (Or.inl ⟨rfl, rfl⟩) gAC_int (by decide) (by decide) (by decide) w5 (by omega) (by omega) (by omega) dX9_init_18 ?_
  refine g_putRA C (pc := 20) fl_RX9_18 (by decide) fp_8_1 (Or.inr ⟨rfl, fun C9 T9 N9 h9 => by (cases h9; rfl)⟩) w0 (by omega) (by omega) dX9_init_20 ?_
  refine ab_arr (n := i + 5) (i := i) (k := 1) (by omega) fun ρ2 I2 p2 q2 r2 u2 z2 => ?_
  show G κ (i + 6) ρ2 23 [(0, .ref i), (1, .ref j)] [] I2
  refine g_aload_n C (pc := 23) dX9_init_23 0 rfl ?_
  refine g_aload_n C (pc := 24) dX9_init_24 1 rfl ?_
  refine g_putR C (pc := 25) fl_RX9_22 (by decide) fp_8_2 (Or.inr ⟨rfl, fun C9 T9 N9 h9 => by (cases h9; rfl)⟩) w0 (by omega) (by omega) dX9_init_25 ?_
  obtain ⟨ρ3, hρ3⟩ : ∃ ρ3, ρ3 = rwr ρ2 i 2 (some j) := ⟨_, rfl⟩
  rw [← hρ3]
  have p3 : ∀ a, a < i + 6 → a ≠ i → ρ3 a = ρ2 a := fun a _ h1 => by rw [hρ3]; funext b9; exact rwr_n (fun h9 => h1 h9.1)
  have q3 : ∀ b9, b9 ≠ 2 → ρ3 i b9 = ρ2 i b9 := fun b9 h1 => by rw [hρ3]; exact rwr_n (fun h9 => h1 h9.2)
  have r3 : ρ3 i 2 = (some j) := by rw [hρ3]; exact rwr_s
  refine g_vret C hR (pc := 28) (by omega) dX9_init_28 ?_
  refine ⟨rfl, ⟨⟨w0, by omega, (q3 0 (by decide)).trans ((q2 0 (by decide)).trans r1), (q3 1 (by decide)).trans r2, w5, (S1.ag (fun a g1 g2 => by rw [p3 a (by omega) (by omega), p2 a (by omega) (by omega), s1 a (by omega)]) (by omega))⟩, r3⟩, ?_, ?_, ?_⟩
  · intro a ha
    rw [p3 a (by omega) (by omega), p2 a (by omega) (by omega), p1 a (by omega) (by omega)]
  · intro a ha
    rw [u2 a (by omega), u1 a (by omega)]
  · intro a h1 h2
    by_cases e0 : a = i
    · subst e0
      rw [u2 a (by omega), u1 a (by omega), hI]
    by_cases e1 : a < i + 5
    · rw [u2 a (by omega)]; exact z1 a (by omega) (by omega)
    exact z2 a (by omega) (by omega)
set_option maxHeartbeats 1600000 in
theorem c_X11_chain  (ρ : Rho) (I : Mem)  : MG yX11_chain cX11_chain 3 (some (.object "WeatherChess$Step")) 3 24 [.int 3] 29 ρ I (fun r ρ9 I9 => r = some (.ref 47) ∧ Ch 53 ρ9 3 47 ∧ CtQ 29 24 ρ I ρ9 I9) := by
  refine MG.of (by decide +kernel) (Nat.le_of_ble_eq_true rfl) (by omega) ?_
  intro κ C hR
  show G κ 29 ρ 0 [(0, .int 3)] [] I
  have hl9 := SH_len
  refine g_new C (pc := 0) (n := 29) gCL_RX11_194 gIN_RX9 gz_RX9 (c := 8) (T := TX9) (ty := tyX9) rfl gin_9 tyX9_ok (by decide) (show shp 29 = (18, 5) by decide +kernel) (by omega) (by omega) (by omega) dX11_chain_0 ?_
  refine g_dup C (pc := 3) dX11_chain_3 rfl ?_
  refine g_null C (pc := 4) dX11_chain_4 ?_
  refine g_callI C (pc := 5) mf_X9_init lk_RX11_364 (k := 5) (i := 29) (As := [.null]) (c_X9_init_N 29 _ _ (by decide +kernel) (by omega) wrA_s) (by decide) (by omega) rfl (show shp 29 = (18, 5) by decide +kernel) rfl (by omega) (Nat.le_of_ble_eq_true rfl) dX11_chain_5 ?_
  rintro _ ρ1 I1 ⟨rfl, ⟨S1, T1⟩, p1, u1, z1⟩
  replace p1 : ∀ a, a < 29 → ρ1 a = ρ a := fun a ha => by rw [p1 a ha]; unfold rclr; rw [if_neg (by omega)]
  replace u1 : ∀ a, a < 29 → I1 a = I a := fun a ha => (u1 a ha).trans (wrA_lt ha)
  refine g_astore_n C (pc := 8) dX11_chain_8 (by decide) (lv' := [(1, .ref 29), (0, .int 3)]) rfl ?_
  refine g_iconst C (pc := 9) 0 dX11_chain_9 (by decide) ?_
  refine g_istore_n C (pc := 10) dX11_chain_10 (by decide) (fun v10 => [(2, .int v10), (1, .ref 29), (0, .int 3)]) (fun _ => rfl) (fun v10 ev10 => ?_)
  subst ev10
  show G κ 35 ρ1 11 [(2, .int (0)), (1, .ref 29), (0, .int 3)] [] I1
  refine g_iload_n C (pc := 11) dX11_chain_11 0 rfl ?_
  refine g_iload_n C (pc := 12) dX11_chain_12 2 rfl ?_
  refine g_icmp_ge C (pc := 13) 31 dX11_chain_13 (by decide) (fun c13 => absurd c13 (by decide)) (fun c13 => ?_)
  refine g_new C (pc := 16) (n := 35) gCL_RX11_194 gIN_RX9 gz_RX9 (c := 8) (T := TX9) (ty := tyX9) rfl gin_9 tyX9_ok (by decide) (show shp 35 = (18, 5) by decide +kernel) (by omega) (by omega) (by omega) dX11_chain_16 ?_
  refine g_dup C (pc := 19) dX11_chain_19 rfl ?_
  refine g_aload_n C (pc := 20) dX11_chain_20 1 rfl ?_
  refine g_callI C (pc := 21) mf_X9_init lk_RX11_364 (k := 5) (i := 35) (As := [.ref 29]) (c_X9_init_R 35 29 _ _ (by decide +kernel) (by omega) wrA_s) (by decide) (by omega) rfl (show shp 35 = (18, 5) by decide +kernel) rfl (by omega) (Nat.le_of_ble_eq_true rfl) dX11_chain_21 ?_
  rintro _ ρ2 I2 ⟨rfl, ⟨S2, T2⟩, p2, u2, z2⟩
  replace p2 : ∀ a, a < 35 → ρ2 a = ρ1 a := fun a ha => by rw [p2 a ha]; unfold rclr; rw [if_neg (by omega)]
  replace u2 : ∀ a, a < 35 → I2 a = I1 a := fun a ha => (u2 a ha).trans (wrA_lt ha)
  refine g_astore_n C (pc := 24) dX11_chain_24 (by decide) (lv' := [(1, .ref 35), (2, .int (0)), (0, .int 3)]) rfl ?_
  refine g_iinc C (pc := 25) (1) dX11_chain_25 1 rfl (by decide) (by decide) (fun v25 => [(2, .int v25), (1, .ref 35), (0, .int 3)]) (fun _ => rfl) (fun v25 ev25 => ?_)
  subst ev25
  refine g_goto C (pc := 28) 11 dX11_chain_28 (by decide) ?_
  show G κ 41 ρ2 11 [(2, .int (0 + 1)), (1, .ref 35), (0, .int 3)] [] I2
  refine g_iload_n C (pc := 11) dX11_chain_11 0 rfl ?_
  refine g_iload_n C (pc := 12) dX11_chain_12 2 rfl ?_
  refine g_icmp_ge C (pc := 13) 31 dX11_chain_13 (by decide) (fun c13 => absurd c13 (by decide)) (fun c13 => ?_)
  refine g_new C (pc := 16) (n := 41) gCL_RX11_194 gIN_RX9 gz_RX9 (c := 8) (T := TX9) (ty := tyX9) rfl gin_9 tyX9_ok (by decide) (show shp 41 = (18, 5) by decide +kernel) (by omega) (by omega) (by omega) dX11_chain_16 ?_
  refine g_dup C (pc := 19) dX11_chain_19 rfl ?_
  refine g_aload_n C (pc := 20) dX11_chain_20 1 rfl ?_
  refine g_callI C (pc := 21) mf_X9_init lk_RX11_364 (k := 5) (i := 41) (As := [.ref 35]) (c_X9_init_R 41 35 _ _ (by decide +kernel) (by omega) wrA_s) (by decide) (by omega) rfl (show shp 41 = (18, 5) by decide +kernel) rfl (by omega) (Nat.le_of_ble_eq_true rfl) dX11_chain_21 ?_
  rintro _ ρ3 I3 ⟨rfl, ⟨S3, T3⟩, p3, u3, z3⟩
  replace p3 : ∀ a, a < 41 → ρ3 a = ρ2 a := fun a ha => by rw [p3 a ha]; unfold rclr; rw [if_neg (by omega)]
  replace u3 : ∀ a, a < 41 → I3 a = I2 a := fun a ha => (u3 a ha).trans (wrA_lt ha)
  refine g_astore_n C (pc := 24) dX11_chain_24 (by decide) (lv' := [(1, .ref 41), (2, .int (0 + 1)), (0, .int 3)]) rfl ?_
  refine g_iinc C (pc := 25) (1) dX11_chain_25 1 rfl (by decide) (by decide) (fun v25 => [(2, .int v25), (1, .ref 41), (0, .int 3)]) (fun _ => rfl) (fun v25 ev25 => ?_)
  subst ev25
  refine g_goto C (pc := 28) 11 dX11_chain_28 (by decide) ?_
  show G κ 47 ρ3 11 [(2, .int (0 + 1 + 1)), (1, .ref 41), (0, .int 3)] [] I3
  refine g_iload_n C (pc := 11) dX11_chain_11 0 rfl ?_
  refine g_iload_n C (pc := 12) dX11_chain_12 2 rfl ?_
  refine g_icmp_ge C (pc := 13) 31 dX11_chain_13 (by decide) (fun c13 => absurd c13 (by decide)) (fun c13 => ?_)
  refine g_new C (pc := 16) (n := 47) gCL_RX11_194 gIN_RX9 gz_RX9 (c := 8) (T := TX9) (ty := tyX9) rfl gin_9 tyX9_ok (by decide) (show shp 47 = (18, 5) by decide +kernel) (by omega) (by omega) (by omega) dX11_chain_16 ?_
  refine g_dup C (pc := 19) dX11_chain_19 rfl ?_
  refine g_aload_n C (pc := 20) dX11_chain_20 1 rfl ?_
  refine g_callI C (pc := 21) mf_X9_init lk_RX11_364 (k := 5) (i := 47) (As := [.ref 41]) (c_X9_init_R 47 41 _ _ (by decide +kernel) (by omega) wrA_s) (by decide) (by omega) rfl (show shp 47 = (18, 5) by decide +kernel) rfl (by omega) (Nat.le_of_ble_eq_true rfl) dX11_chain_21 ?_
  rintro _ ρ4 I4 ⟨rfl, ⟨S4, T4⟩, p4, u4, z4⟩
  replace p4 : ∀ a, a < 47 → ρ4 a = ρ3 a := fun a ha => by rw [p4 a ha]; unfold rclr; rw [if_neg (by omega)]
  replace u4 : ∀ a, a < 47 → I4 a = I3 a := fun a ha => (u4 a ha).trans (wrA_lt ha)
  refine g_astore_n C (pc := 24) dX11_chain_24 (by decide) (lv' := [(1, .ref 47), (2, .int (0 + 1 + 1)), (0, .int 3)]) rfl ?_
  refine g_iinc C (pc := 25) (1) dX11_chain_25 1 rfl (by decide) (by decide) (fun v25 => [(2, .int v25), (1, .ref 47), (0, .int 3)]) (fun _ => rfl) (fun v25 ev25 => ?_)
  subst ev25
  refine g_goto C (pc := 28) 11 dX11_chain_28 (by decide) ?_
  show G κ 53 ρ4 11 [(2, .int (0 + 1 + 1 + 1)), (1, .ref 47), (0, .int 3)] [] I4
  refine g_iload_n C (pc := 11) dX11_chain_11 0 rfl ?_
  refine g_iload_n C (pc := 12) dX11_chain_12 2 rfl ?_
  refine g_icmp_ge C (pc := 13) 31 dX11_chain_13 (by decide) (fun c13 => ?_) (fun c13 => absurd c13 (by decide))
  refine g_aload_n C (pc := 31) dX11_chain_31 1 rfl ?_
  refine g_aret C hR (pc := 32) rfl dX11_chain_32 ?_
  have h3 : Sp 53 ρ4 41 := S3.ag (fun a g1 g2 => p4 a (by omega)) (by omega)
  have h2 : Sp 53 ρ4 35 := S2.ag (fun a g1 g2 => (p4 a (by omega)).trans (p3 a (by omega))) (by omega)
  have h1 : Sp 53 ρ4 29 := S1.ag (fun a g1 g2 => (p4 a (by omega)).trans ((p3 a (by omega)).trans (p2 a (by omega)))) (by omega)
  refine ⟨rfl, ⟨S4.ag (fun a g1 g2 => rfl) (by omega), by decide, T4, h3, by decide, (congrFun (p4 41 (by omega)) 2).trans T3, h2, by decide, (congrFun ((p4 35 (by omega)).trans (p3 35 (by omega))) 2).trans T2, h1⟩, fun a ha => ?_, fun a ha => ?_, fun a q1 q2 => ?_⟩
  · rw [p4 a (by omega), p3 a (by omega), p2 a (by omega), p1 a (by omega)]
  · rw [u4 a (by omega), u3 a (by omega), u2 a (by omega), u1 a (by omega)]
  · by_cases e1 : a < 35
    · rw [u4 a (by omega), u3 a (by omega), u2 a (by omega)]; exact z1 a (by omega) (by omega)
    by_cases e2 : a < 41
    · rw [u4 a (by omega), u3 a (by omega)]; exact z2 a (by omega) (by omega)
    by_cases e3 : a < 47
    · rw [u4 a (by omega)]; exact z3 a (by omega) (by omega)
    exact z4 a (by omega) (by omega)
