theorem i32_4 : (0 : Int32).toNatClampNeg = 0 ∧ (0 + 1 : Int32).toNatClampNeg = 1 ∧ (0 + 1 + 1 : Int32).toNatClampNeg = 2 ∧ (0 + 1 + 1 + 1 : Int32).toNatClampNeg = 3 := by decide
theorem ab_wr4 {κ : Kap} {n i : Nat} {ρ : Rho} {pc : Nat} {lv : List (Nat × Value)} {st : List Value} {I : Mem} {x : Int32} (h : ∀ J, (∀ k, k < 4 → J i k = x) → (∀ a, a ≠ i → J a = I a) → G κ n ρ pc lv st J) : G κ n ρ pc lv st (wr (wr (wr (wr I i (0 : Int32).toNatClampNeg x) i (0 + 1 : Int32).toNatClampNeg x) i (0 + 1 + 1 : Int32).toNatClampNeg x) i (0 + 1 + 1 + 1 : Int32).toNatClampNeg x) := by
  refine h _ (fun k hk => ?_) (fun a ha => by rw [wr_n ha, wr_n ha, wr_n ha, wr_n ha])
  obtain ⟨e0, e1, e2, e3⟩ := i32_4
  rw [e0, e1, e2, e3]
  have hc : k = 0 ∨ k = 1 ∨ k = 2 ∨ k = 3 := by omega
  rcases hc with rfl | rfl | rfl | rfl
  · rw [wr_sn (by decide), wr_sn (by decide), wr_sn (by decide), wr_ss]
  · rw [wr_sn (by decide), wr_sn (by decide), wr_ss]
  · rw [wr_sn (by decide), wr_ss]
  · rw [wr_ss]
set_option maxHeartbeats 1600000 in
theorem c_X7_init (i : Nat) (ρ : Rho) (I : Mem) (hs : (SH.drop i).take 8 = [(16, 3), (0, 4), (0, 4), (4, 4), (0, 40), (0, 40), (0, 40), (0, 40)]) (hi9 : i + 8 ≤ 119) (hI : I i = fun _ => 0) : MG yX7_init cX7_init 2 none 1 7 [.ref i] (i + 1) ρ I (fun r ρ9 I9 => r = none ∧ (SsS (i + 8) ρ9 i ∧ (∀ k, k < 4 → I9 (i + 1) k = -4) ∧ I9 (i + 2) = fun _ => 0) ∧ (∀ a, a < i → ρ9 a = ρ a) ∧ (∀ a, a < i → I9 a = I a) ∧ ∀ a, i ≤ a → a < i + 8 → a ≠ i + 1 → I9 a = fun _ => 0) := by
  refine MG.of (by decide +kernel) (Nat.le_of_ble_eq_true rfl) (by omega) ?_
  intro κ C hR
  show G κ (i + 1) ρ 0 [(0, .ref i)] [] I
  have hl9 := SH_len
  have w0 : shp (i + 0) = (16, 3) := shp_of (l := [(16, 3), (0, 4), (0, 4), (4, 4), (0, 40), (0, 40), (0, 40), (0, 40)]) hs (by decide)
  have w1 : shp (i + 1) = (0, 4) := shp_of (l := [(16, 3), (0, 4), (0, 4), (4, 4), (0, 40), (0, 40), (0, 40), (0, 40)]) hs (by decide)
  have w2 : shp (i + 2) = (0, 4) := shp_of (l := [(16, 3), (0, 4), (0, 4), (4, 4), (0, 40), (0, 40), (0, 40), (0, 40)]) hs (by decide)
  have w3 : shp (i + 3) = (4, 4) := shp_of (l := [(16, 3), (0, 4), (0, 4), (4, 4), (0, 40), (0, 40), (0, 40), (0, 40)]) hs (by decide)
  have w4 : shp (i + 4) = (0, 40) := shp_of (l := [(16, 3), (0, 4), (0, 4), (4, 4), (0, 40), (0, 40), (0, 40), (0, 40)]) hs (by decide)
  have w5 : shp (i + 5) = (0, 40) := shp_of (l := [(16, 3), (0, 4), (0, 4), (4, 4), (0, 40), (0, 40), (0, 40), (0, 40)]) hs (by decide)
  have w6 : shp (i + 6) = (0, 40) := shp_of (l := [(16, 3), (0, 4), (0, 4), (4, 4), (0, 40), (0, 40), (0, 40), (0, 40)]) hs (by decide)
  have w7 : shp (i + 7) = (0, 40) := shp_of (l := [(16, 3), (0, 4), (0, 4), (4, 4), (0, 40), (0, 40), (0, 40), (0, 40)]) hs (by decide)
  refine g_aload_n C (pc := 0) dX7_init_0 0 rfl ?_
  refine g_objInit C (pc := 1) gO_RX7 gO_inst gO_code (Nat.le_of_ble_eq_true rfl) dX7_init_1 ?_
  refine g_aload_n C (pc := 4) dX7_init_4 0 rfl ?_
  refine g_iconst C (pc := 5) 4 dX7_init_5 (by decide) ?_
  refine g_newa C (pc := 6) (at0 := .int) (n := i + 1) (kd := 0) (N := 4) rfl (Or.inl ⟨rfl, rfl⟩) gAC_int (by decide) (by decide) (by decide) w1 (by omega) (by omega) (by omega) dX7_init_6 ?_
  refine g_putRA C (pc := 8) fl_RX7_9 (by decide) fp_6_0 (Or.inr ⟨rfl, fun C9 T9 N9 h9 => by (cases h9; rfl)⟩) w0 (by omega) (by omega) dX7_init_8 ?_
  refine ab_arr (n := i + 1) (i := i) (k := 0) (by omega) fun ρ1 I1 p1 q1 r1 u1 z1 => ?_
  show G κ (i + 2) ρ1 11 [(0, .ref i)] [] I1
  refine g_aload_n C (pc := 11) dX7_init_11 0 rfl ?_
  refine g_iconst C (pc := 12) 4 dX7_init_12 (by decide) ?_
  refine g_newa C (pc := 13) (at0 := .int) (n := i + 2) (kd := 0) (N := 4) rfl (Or.inl ⟨rfl, rfl⟩) gAC_int (by decide) (by decide) (by decide) w2 (by omega) (by omega) (by omega) dX7_init_13 ?_
  refine g_putRA C (pc := 15) fl_RX7_15 (by decide) fp_6_1 (Or.inr ⟨rfl, fun C9 T9 N9 h9 => by (cases h9; rfl)⟩) w0 (by omega) (by omega) dX7_init_15 ?_
  refine ab_arr (n := i + 2) (i := i) (k := 1) (by omega) fun ρ2 I2 p2 q2 r2 u2 z2 => ?_
  show G κ (i + 3) ρ2 18 [(0, .ref i)] [] I2
  refine g_aload_n C (pc := 18) dX7_init_18 0 rfl ?_
  refine g_iconst C (pc := 19) 4 dX7_init_19 (by decide) ?_
  refine g_bipush C (pc := 20) 40 dX7_init_20 (by decide) ?_
  refine g_multi C (pc := 22) gCL_RX7_18 gAC_int w3 (fun j hj => ?_) (by omega) (by omega) (by omega) dX7_init_22 (fun ρa Ia pa ra ua za => ?_)
  · have hc : j = 0 ∨ j = 1 ∨ j = 2 ∨ j = 3 := by omega
    rcases hc with rfl | rfl | rfl | rfl
    · exact w4
    · exact w5
    · exact w6
    · exact w7
  refine g_putRA C (pc := 26) fl_RX7_20 (by decide) fp_6_2 (Or.inr ⟨rfl, fun C9 T9 N9 h9 => by (cases h9; rfl)⟩) w0 (by omega) (by omega) dX7_init_26 ?_
  obtain ⟨ρ3, hρ3⟩ : ∃ ρ3, ρ3 = rwr ρa i 2 (some (i + 3)) := ⟨_, rfl⟩
  rw [← hρ3]
  have p3 : ∀ a, a < i + 3 → a ≠ i → ρ3 a = ρ2 a := fun a h0 h1 => by rw [hρ3]; funext b9; rw [rwr_n (fun h9 => h1 h9.1), pa a (by omega)]
  have q3 : ∀ b9, b9 ≠ 2 → ρ3 i b9 = ρ2 i b9 := fun b9 h1 => by rw [hρ3, rwr_n (fun h9 => h1 h9.2), pa i (by omega)]
  have r3 : ρ3 i 2 = some (i + 3) := by rw [hρ3]; exact rwr_s
  have l3 : ∀ j, j < 4 → ρ3 (i + 3) j = some (i + 3 + 1 + j) := fun j hj => by rw [hρ3, rwr_n (fun h9 => by omega)]; exact ra j hj
  have r0 : ρ3 i 0 = some (i + 1) := (q3 0 (by decide)).trans ((q2 0 (by decide)).trans r1)
  have r4 : ρ3 i 1 = some (i + 2) := (q3 1 (by decide)).trans r2
  show G κ (i + 8) ρ3 29 [(0, .ref i)] [] Ia
  refine g_iconst C (pc := 29) 0 dX7_init_29 (by decide) ?_
  refine g_istore_n C (pc := 30) dX7_init_30 (by decide) (fun v9 => [(1, .int v9), (0, .ref i)]) (fun _ => rfl) (fun v9 ev9 => ?_)
  subst ev9
  show G κ (i + 8) ρ3 31 [(1, .int (0)), (0, .ref i)] [] Ia
  refine g_iload_n C (pc := 31) dX7_init_31 0 rfl ?_
  refine g_iconst C (pc := 32) 4 dX7_init_32 (by decide) ?_
  refine g_icmp_ge C (pc := 33) 50 dX7_init_33 (by decide) (fun c9 => absurd c9 (by decide)) (fun c9 => ?_)
  refine g_aload_n C (pc := 36) dX7_init_36 1 rfl ?_
  refine g_getR C (pc := 37) fl_RX7_9 (by decide) w0 (by omega) r0 dX7_init_37 ?_
  refine g_iload_n C (pc := 40) dX7_init_40 0 rfl ?_
  refine g_bipush C (pc := 41) (-4) dX7_init_41 (by decide) ?_
  refine g_iast C (pc := 43) (N := 4) w1 (by omega) (by omega) (show vp_in _ 4 from by unfold vp_in; decide) dX7_init_43 ?_
  refine g_iinc C (pc := 44) (1) dX7_init_44 0 rfl (by decide) (by decide) (fun v9 => [(1, .int v9), (0, .ref i)]) (fun _ => rfl) (fun v9 ev9 => ?_)
  subst ev9
  refine g_goto C (pc := 47) 31 dX7_init_47 (by decide) ?_
  show G κ (i + 8) ρ3 31 [(1, .int (0 + 1)), (0, .ref i)] [] (wr Ia (i + 1) (0 : Int32).toNatClampNeg (-4))
  refine g_iload_n C (pc := 31) dX7_init_31 0 rfl ?_
  refine g_iconst C (pc := 32) 4 dX7_init_32 (by decide) ?_
  refine g_icmp_ge C (pc := 33) 50 dX7_init_33 (by decide) (fun c9 => absurd c9 (by decide)) (fun c9 => ?_)
  refine g_aload_n C (pc := 36) dX7_init_36 1 rfl ?_
  refine g_getR C (pc := 37) fl_RX7_9 (by decide) w0 (by omega) r0 dX7_init_37 ?_
  refine g_iload_n C (pc := 40) dX7_init_40 0 rfl ?_
  refine g_bipush C (pc := 41) (-4) dX7_init_41 (by decide) ?_
  refine g_iast C (pc := 43) (N := 4) w1 (by omega) (by omega) (show vp_in _ 4 from by unfold vp_in; decide) dX7_init_43 ?_
  refine g_iinc C (pc := 44) (1) dX7_init_44 0 rfl (by decide) (by decide) (fun v9 => [(1, .int v9), (0, .ref i)]) (fun _ => rfl) (fun v9 ev9 => ?_)
  subst ev9
  refine g_goto C (pc := 47) 31 dX7_init_47 (by decide) ?_
  show G κ (i + 8) ρ3 31 [(1, .int (0 + 1 + 1)), (0, .ref i)] [] (wr (wr Ia (i + 1) (0 : Int32).toNatClampNeg (-4)) (i + 1) (0 + 1 : Int32).toNatClampNeg (-4))
  refine g_iload_n C (pc := 31) dX7_init_31 0 rfl ?_
  refine g_iconst C (pc := 32) 4 dX7_init_32 (by decide) ?_
  refine g_icmp_ge C (pc := 33) 50 dX7_init_33 (by decide) (fun c9 => absurd c9 (by decide)) (fun c9 => ?_)
  refine g_aload_n C (pc := 36) dX7_init_36 1 rfl ?_
  refine g_getR C (pc := 37) fl_RX7_9 (by decide) w0 (by omega) r0 dX7_init_37 ?_
  refine g_iload_n C (pc := 40) dX7_init_40 0 rfl ?_
  refine g_bipush C (pc := 41) (-4) dX7_init_41 (by decide) ?_
  refine g_iast C (pc := 43) (N := 4) w1 (by omega) (by omega) (show vp_in _ 4 from by unfold vp_in; decide) dX7_init_43 ?_
  refine g_iinc C (pc := 44) (1) dX7_init_44 0 rfl (by decide) (by decide) (fun v9 => [(1, .int v9), (0, .ref i)]) (fun _ => rfl) (fun v9 ev9 => ?_)
  subst ev9
  refine g_goto C (pc := 47) 31 dX7_init_47 (by decide) ?_
  show G κ (i + 8) ρ3 31 [(1, .int (0 + 1 + 1 + 1)), (0, .ref i)] [] (wr (wr (wr Ia (i + 1) (0 : Int32).toNatClampNeg (-4)) (i + 1) (0 + 1 : Int32).toNatClampNeg (-4)) (i + 1) (0 + 1 + 1 : Int32).toNatClampNeg (-4))
  refine g_iload_n C (pc := 31) dX7_init_31 0 rfl ?_
  refine g_iconst C (pc := 32) 4 dX7_init_32 (by decide) ?_
  refine g_icmp_ge C (pc := 33) 50 dX7_init_33 (by decide) (fun c9 => absurd c9 (by decide)) (fun c9 => ?_)
  refine g_aload_n C (pc := 36) dX7_init_36 1 rfl ?_
  refine g_getR C (pc := 37) fl_RX7_9 (by decide) w0 (by omega) r0 dX7_init_37 ?_
  refine g_iload_n C (pc := 40) dX7_init_40 0 rfl ?_
  refine g_bipush C (pc := 41) (-4) dX7_init_41 (by decide) ?_
  refine g_iast C (pc := 43) (N := 4) w1 (by omega) (by omega) (show vp_in _ 4 from by unfold vp_in; decide) dX7_init_43 ?_
  refine g_iinc C (pc := 44) (1) dX7_init_44 0 rfl (by decide) (by decide) (fun v9 => [(1, .int v9), (0, .ref i)]) (fun _ => rfl) (fun v9 ev9 => ?_)
  subst ev9
  refine g_goto C (pc := 47) 31 dX7_init_47 (by decide) ?_
  show G κ (i + 8) ρ3 31 [(1, .int (0 + 1 + 1 + 1 + 1)), (0, .ref i)] [] (wr (wr (wr (wr Ia (i + 1) (0 : Int32).toNatClampNeg (-4)) (i + 1) (0 + 1 : Int32).toNatClampNeg (-4)) (i + 1) (0 + 1 + 1 : Int32).toNatClampNeg (-4)) (i + 1) (0 + 1 + 1 + 1 : Int32).toNatClampNeg (-4))
  refine g_iload_n C (pc := 31) dX7_init_31 0 rfl ?_
  refine g_iconst C (pc := 32) 4 dX7_init_32 (by decide) ?_
  refine g_icmp_ge C (pc := 33) 50 dX7_init_33 (by decide) (fun c9 => ?_) (fun c9 => absurd c9 (by decide))
  refine ab_wr4 (fun J hJ1 hJ2 => ?_)
  refine g_vret C hR (pc := 50) (by omega) dX7_init_50 ?_
  refine ⟨rfl, ⟨⟨w0, r0, r4, r3, w1, w2, w3, fun k hk => ⟨?_, ?_⟩, by omega⟩, hJ1, ?_⟩, fun a ha => ?_, fun a ha => ?_, fun a h1 h2 h3 => ?_⟩
  · have hc : k = 0 ∨ k = 1 ∨ k = 2 ∨ k = 3 := by omega
    rcases hc with rfl | rfl | rfl | rfl
    · exact w4
    · exact w5
    · exact w6
    · exact w7
  · exact (l3 k hk).trans (congrArg some (by omega))
  · rw [hJ2 _ (by omega), ua _ (by omega)]; exact z2 _ (by omega) (by omega)
  · rw [p3 a (by omega) (by omega), p2 a (by omega) (by omega), p1 a (by omega) (by omega)]
  · rw [hJ2 a (by omega), ua a (by omega), u2 a (by omega), u1 a (by omega)]
  · rw [hJ2 a h3]
    by_cases e0 : a = i
    · subst e0; rw [ua a (by omega), u2 a (by omega), u1 a (by omega), hI]
    by_cases e2 : a < i + 3
    · rw [ua a (by omega)]; exact z2 a (by omega) (by omega)
    exact za a (by omega) (by omega)
theorem ab_obj5 {κ : Kap} {ρ ρ' : Rho} {pc : Nat} {lv : List (Nat × Value)} {st : List Value} {I' : Mem} (h : ∀ ρ1, (∀ a, a < 29 → a ≠ 0 → ρ1 a = ρ a) → (∀ b, b ≠ 4 → ρ1 0 b = ρ 0 b) → ρ1 0 4 = some 47 → (∀ a, 29 ≤ a → ρ1 a = ρ' a) → G κ 53 ρ1 pc lv st I') (hp : ∀ a, a < 29 → ρ' a = ρ a) : G κ 53 (rwr ρ' 0 4 (some 47)) pc lv st I' :=
  h _ (fun a ha h1 => by funext b; rw [rwr_n (fun h9 => h1 h9.1), hp a ha]) (fun b hb => by rw [rwr_n (fun h9 => hb h9.2), hp 0 (by decide)]) rwr_s (fun a ha => by funext b; rw [rwr_n (fun h9 => by omega)])
theorem SsS.ag {m m' q : Nat} {ρ ρ' : Rho} (h : SsS m ρ q) (e : ∀ a, q ≤ a → a < q + 4 → ρ' a = ρ a) (hm : q + 7 < m') : SsS m' ρ' q := by
  obtain ⟨h1, h2, h3, h4, h5, h6, h7, h8, -⟩ := h
  exact ⟨h1, by rw [e q (by omega) (by omega)]; exact h2, by rw [e q (by omega) (by omega)]; exact h3, by rw [e q (by omega) (by omega)]; exact h4, h5, h6, h7, fun k hk => ⟨(h8 k hk).1, by rw [e (q + 3) (by omega) (by omega)]; exact (h8 k hk).2⟩, hm⟩
/-- the board that a clear game holds -/
theorem clear_R {J : Mem} {g : Nat} (a4 : ∀ k, k < 5 → J (g + 4) k = 1) (w4 : J (g + 1) 3 = 3) (y4 : J (g + 1) 4 = 3) (z4 : J (g + 1) 5 = 0) (n4 : J (g + 1) 6 = 0) (l4 : ∀ k, k < 2 → J (g + 8) k = 0) (m4 : J (g + 5) 3 = 0) : RR J (g + 1) (dF dr0) ∧ BR J (g + 5) (dF dr0) (dB dr0) := by
  refine ⟨⟨w4, y4, n4, fun i hi => ?_, fun p hp => absurd hp (Nat.not_lt_zero p), fun w hw => a4 w hw⟩, m4, fun p hp => absurd hp (Nat.not_lt_zero p), fun s hs i hi => ?_⟩
  · rw [z4, b_0]; rfl
  · rw [show J (g + 5 + 3) s = 0 from l4 s hs, b_0]; rfl
theorem two_R {J : Mem} {g : Nat} (h1 : RR J (g + 1) (dF dr0)) (h2 : BR J (g + 5) (dF dr0) (dB dr0)) (h3 : ∀ k, k < 6 → J (g + 6) k = -4) : (fun K : Mem => RR K (g + 1) (twoK (dF dr0) (dB dr0)).1 ∧ RW (twoK (dF dr0) (dB dr0)).1 ∧ BR K (g + 5) (twoK (dF dr0) (dB dr0)).1 (twoK (dF dr0) (dB dr0)).2 ∧ BW (twoK (dF dr0) (dB dr0)).1 (twoK (dF dr0) (dB dr0)).2) (addK (addK J g 0 0 0 0 9) g 1 1 0 8 9) := by
  obtain ⟨r1, r2, r3, r4⟩ := addK_R (kd := 0) (sd := 0) (q := 0) (o := 9) h1 dr0_rw h2 dr0_bw (show 0 < 6 by decide) (by decide) (by decide) (by decide) (by decide) (h3 0 (by decide)) (pon_empty rfl)
  have e0 : addK J g (rN (dF dr0)) 0 (nI 0) (nI 0) (nI 9) = addK J g 0 0 0 0 9 := rfl
  rw [e0] at r1 r3
  have hz : addK J g 0 0 0 0 9 (g + 6) (rN (adF (dF dr0) 0 0)) = -4 := by
    rw [addK_at.2.2.1]
    show upd (J (g + 6)) 0 0 1 = -4
    unfold upd
    rw [if_neg (by decide)]
    exact h3 1 (by decide)
  have hT : twoK (dF dr0) (dB dr0) = (adF (adF (dF dr0) 0 0) 0 1, adB (adB (dB dr0) 0 0 9) 1 8 9) := by
    unfold twoK
    rw [show rW (dF dr0) * rH (dF dr0) - 1 = 8 by decide]
  have hN : rN (adF (dF dr0) 0 0) = 1 := rfl
  obtain ⟨s1, s2, s3, s4⟩ := addK_R (kd := 0) (sd := 1) (q := 8) (o := 9) r1 r2 r3 r4 (by rw [hN]; decide) (by decide) (by decide) (by decide) (by decide) hz (pon_one rfl (by decide))
  rw [hN, show nI 0 = 0 from rfl, show nI 8 = 8 by decide, show nI 9 = 9 by decide] at s1 s3
  rw [hN] at s4
  rw [hT]
  exact ⟨s1, s2, s3, s4⟩
set_option maxHeartbeats 1600000 in
theorem c_X11_init  (ρ : Rho) (I : Mem) (hI : I 0 = fun _ => 0) : MG yX11_init cX11_init 2 none 5 96 [.ref 0] 1 ρ I (fun r ρ9 I9 => r = none ∧ XS 97 ρ9 ∧ RR I9 2 (twoK (dF dr0) (dB dr0)).1 ∧ RW (twoK (dF dr0) (dB dr0)).1 ∧ BR I9 6 (twoK (dF dr0) (dB dr0)).1 (twoK (dF dr0) (dB dr0)).2 ∧ BW (twoK (dF dr0) (dB dr0)).1 (twoK (dF dr0) (dB dr0)).2 ∧ I9 1 5 = 0 ∧ I9 1 6 = 0 ∧ I9 1 7 = 0 ∧ (∀ k, k < 4 → I9 62 k = -4) ∧ (∀ a, a < 73 → ¬ (1 ≤ a ∧ a ≤ 9) → a ≠ 62 → I9 a = fun _ => 0)) := by
  refine MG.of (by decide +kernel) (Nat.le_of_ble_eq_true rfl) (by omega) ?_
  intro κ C hR
  show G κ 1 ρ 0 [(0, .ref 0)] [] I
  have hl9 := SH_len
  have w0 : shp 0 = (20, 11) := by decide +kernel
  have hi9 : 96 ≤ 119 := by decide
  refine g_aload_n C (pc := 0) dX11_init_0 0 rfl ?_
  refine g_objInit C (pc := 1) gO_RX11 gO_inst gO_code (Nat.le_of_ble_eq_true rfl) dX11_init_1 ?_
  refine g_aload_n C (pc := 4) dX11_init_4 0 rfl ?_
  refine g_new C (pc := 5) (n := 1) gCL_RX11_7 gIN_RX3 gz_RX3 (c := 2) (T := TX3) (ty := tyX3) rfl gin_3 tyX3_ok (by decide) (show shp 1 = (12, 8) by decide +kernel) (by omega) (by omega) (by omega) dX11_init_5 ?_
  refine g_dup C (pc := 8) dX11_init_8 rfl ?_
  refine g_callI C (pc := 9) mf_X3_init lk_RX11_9 (k := 11) (i := 1) (As := []) (c_X3_init 1 _ _ (by decide +kernel) (by omega) wrA_s) (by decide) (by omega) rfl (show shp 1 = (12, 8) by decide +kernel) rfl (by omega) (Nat.le_of_ble_eq_true rfl) dX11_init_9 ?_
  rintro _ ρa1 I1 ⟨rfl, S1, pa1, u01, z1⟩
  refine g_putR C (pc := 12) fl_RX11_10 (by decide) fp_10_0 (Or.inr ⟨rfl, fun C9 T9 N9 h9 => by (cases h9; rfl)⟩) w0 (by omega) (by omega) dX11_init_12 ?_
  refine ab_obj (n := 1) (i := 0) (k := 0) (by omega) pa1 fun ρ1 p1 q1 r1 s1 => ?_
  have u1 : ∀ a, a < 1 → I1 a = I a := fun a ha => (u01 a ha).trans (wrA_lt ha)
  show G κ 13 ρ1 15 [(0, .ref 0)] [] I1
  refine g_aload_n C (pc := 15) dX11_init_15 0 rfl ?_
  refine g_iconst C (pc := 16) 2 dX11_init_16 (by decide) ?_
  refine g_anew C (pc := 17) (n := 13) (N := 2) gCL_RX11_7 (by decide) (by decide) (by decide) (show shp 13 = (3, 2) by decide +kernel) (by omega) (by omega) (by omega) dX11_init_17 ?_
  refine g_putRA C (pc := 20) fl_RX11_16 (by decide) fp_10_1 (Or.inr ⟨rfl, fun C9 T9 N9 h9 => by (cases h9; rfl)⟩) w0 (by omega) (by omega) dX11_init_20 ?_
  refine ab_arr (n := 13) (i := 0) (k := 1) (by omega) fun ρ2 I2 p2 q2 r2 u2 z2 => ?_
  show G κ 14 ρ2 23 [(0, .ref 0)] [] I2
  refine g_aload_n C (pc := 23) dX11_init_23 0 rfl ?_
  refine g_iconst C (pc := 24) 2 dX11_init_24 (by decide) ?_
  refine g_newa C (pc := 25) (at0 := .boolean) (n := 14) (kd := 1) (N := 2) rfl (Or.inr (Or.inl ⟨rfl, rfl⟩)) gAC_boolean (by decide) (by decide) (by decide) (show shp 14 = (1, 2) by decide +kernel) (by omega) (by omega) (by omega) dX11_init_25 ?_
  refine g_putRA C (pc := 27) fl_RX11_20 (by decide) fp_10_2 (Or.inr ⟨rfl, fun C9 T9 N9 h9 => by (cases h9; rfl)⟩) w0 (by omega) (by omega) dX11_init_27 ?_
  refine ab_arr (n := 14) (i := 0) (k := 2) (by omega) fun ρ3 I3 p3 q3 r3 u3 z3 => ?_
  show G κ 15 ρ3 30 [(0, .ref 0)] [] I3
  refine g_aload_n C (pc := 30) dX11_init_30 0 rfl ?_
  refine g_new C (pc := 31) (n := 15) gCL_RX11_24 gIN_RX10 gz_RX10 (c := 9) (T := TX10) (ty := tyX10) rfl gin_10 tyX10_ok (by decide) (show shp 15 = (19, 13) by decide +kernel) (by omega) (by omega) (by omega) dX11_init_31 ?_
  refine g_dup C (pc := 34) dX11_init_34 rfl ?_
  refine g_callI C (pc := 35) mf_X10_init lk_RX11_26 (k := 13) (i := 15) (As := []) (c_X10_init 15 _ _ (by decide +kernel) (by omega) wrA_s) (by decide) (by omega) rfl (show shp 15 = (19, 13) by decide +kernel) rfl (by omega) (Nat.le_of_ble_eq_true rfl) dX11_init_35 ?_
  rintro _ ρa4 I4 ⟨rfl, S4, pa4, u04, z4⟩
  refine g_putR C (pc := 38) fl_RX11_27 (by decide) fp_10_3 (Or.inr ⟨rfl, fun C9 T9 N9 h9 => by (cases h9; rfl)⟩) w0 (by omega) (by omega) dX11_init_38 ?_
  refine ab_obj (n := 15) (i := 0) (k := 3) (by omega) pa4 fun ρ4 p4 q4 r4 s4 => ?_
  have u4 : ∀ a, a < 15 → I4 a = I3 a := fun a ha => (u04 a ha).trans (wrA_lt ha)
  show G κ 29 ρ4 41 [(0, .ref 0)] [] I4
  refine g_aload_n C (pc := 41) dX11_init_41 0 rfl ?_
  refine g_iconst C (pc := 42) 3 dX11_init_42 (by decide) ?_
  refine g_callS C (pc := 43) mf_X11_chain lk_RX11_31 (k := 24) (As := [.int 3]) (c_X11_chain _ _) (by decide) (by omega) rfl (Nat.le_of_ble_eq_true rfl) dX11_init_43 ?_
  rintro _ ρa5 I5 ⟨rfl, S5, pa5, u5, z5⟩
  refine g_putR C (pc := 46) fl_RX11_35 (by decide) fp_10_4 (Or.inr ⟨rfl, fun C9 T9 N9 h9 => by (cases h9; rfl)⟩) w0 (by omega) (by omega) dX11_init_46 ?_
  refine ab_obj5 (fun ρ5 p5 q5 r5 s5 => ?_) pa5
  show G κ 53 ρ5 49 [(0, .ref 0)] [] I5
  refine g_aload_n C (pc := 49) dX11_init_49 0 rfl ?_
  refine g_new C (pc := 50) (n := 53) gCL_RX11_39 gIN_RX6 gz_RX6 (c := 5) (T := TX6) (ty := tyX6) rfl gin_6 tyX6_ok (by decide) (show shp 53 = (15, 7) by decide +kernel) (by omega) (by omega) (by omega) dX11_init_50 ?_
  refine g_dup C (pc := 53) dX11_init_53 rfl ?_
  refine g_callI C (pc := 54) mf_X6_init lk_RX11_41 (k := 4) (i := 53) (As := []) (c_X6_init 53 _ _ (by decide +kernel) (by omega) wrA_s) (by decide) (by omega) rfl (show shp 53 = (15, 7) by decide +kernel) rfl (by omega) (Nat.le_of_ble_eq_true rfl) dX11_init_54 ?_
  rintro _ ρa6 I6 ⟨rfl, S6, pa6, u06, z6⟩
  refine g_putR C (pc := 57) fl_RX11_42 (by decide) fp_10_5 (Or.inr ⟨rfl, fun C9 T9 N9 h9 => by (cases h9; rfl)⟩) w0 (by omega) (by omega) dX11_init_57 ?_
  refine ab_obj (n := 53) (i := 0) (k := 5) (by omega) pa6 fun ρ6 p6 q6 r6 s6 => ?_
  have u6 : ∀ a, a < 53 → I6 a = I5 a := fun a ha => (u06 a ha).trans (wrA_lt ha)
  show G κ 58 ρ6 60 [(0, .ref 0)] [] I6
  refine g_aload_n C (pc := 60) dX11_init_60 0 rfl ?_
  refine g_new C (pc := 61) (n := 58) gCL_RX11_46 gIN_RX1 gz_RX1 (c := 1) (T := TX1) (ty := tyX1) rfl gin_1 tyX1_ok (by decide) (show shp 58 = (11, 3) by decide +kernel) (by omega) (by omega) (by omega) dX11_init_61 ?_
  refine g_dup C (pc := 64) dX11_init_64 rfl ?_
  refine g_callI C (pc := 65) mf_X1_init lk_RX11_48 (k := 2) (i := 58) (As := []) (c_X1_init 58 _ _ (by decide +kernel) (by omega) wrA_s) (by decide) (by omega) rfl (show shp 58 = (11, 3) by decide +kernel) rfl (by omega) (Nat.le_of_ble_eq_true rfl) dX11_init_65 ?_
  rintro _ ρa7 I7 ⟨rfl, S7, pa7, u07, z7⟩
  refine g_putR C (pc := 68) fl_RX11_49 (by decide) fp_10_6 (Or.inr ⟨rfl, fun C9 T9 N9 h9 => by (cases h9; rfl)⟩) w0 (by omega) (by omega) dX11_init_68 ?_
  refine ab_obj (n := 58) (i := 0) (k := 6) (by omega) pa7 fun ρ7 p7 q7 r7 s7 => ?_
  have u7 : ∀ a, a < 58 → I7 a = I6 a := fun a ha => (u07 a ha).trans (wrA_lt ha)
  show G κ 61 ρ7 71 [(0, .ref 0)] [] I7
  refine g_aload_n C (pc := 71) dX11_init_71 0 rfl ?_
  refine g_new C (pc := 72) (n := 61) gCL_RX11_53 gIN_RX7 gz_RX7 (c := 6) (T := TX7) (ty := tyX7) rfl gin_7 tyX7_ok (by decide) (show shp 61 = (16, 3) by decide +kernel) (by omega) (by omega) (by omega) dX11_init_72 ?_
  refine g_dup C (pc := 75) dX11_init_75 rfl ?_
  refine g_callI C (pc := 76) mf_X7_init lk_RX11_55 (k := 7) (i := 61) (As := []) (c_X7_init 61 _ _ (by decide +kernel) (by omega) wrA_s) (by decide) (by omega) rfl (show shp 61 = (16, 3) by decide +kernel) rfl (by omega) (Nat.le_of_ble_eq_true rfl) dX11_init_76 ?_
  rintro _ ρa8 I8 ⟨rfl, ⟨S8, L8, G8⟩, pa8, u08, z8⟩
  refine g_putR C (pc := 79) fl_RX11_56 (by decide) fp_10_7 (Or.inr ⟨rfl, fun C9 T9 N9 h9 => by (cases h9; rfl)⟩) w0 (by omega) (by omega) dX11_init_79 ?_
  refine ab_obj (n := 61) (i := 0) (k := 7) (by omega) pa8 fun ρ8 p8 q8 r8 s8 => ?_
  have u8 : ∀ a, a < 61 → I8 a = I7 a := fun a ha => (u08 a ha).trans (wrA_lt ha)
  show G κ 69 ρ8 82 [(0, .ref 0)] [] I8
  refine g_aload_n C (pc := 82) dX11_init_82 0 rfl ?_
  refine g_new C (pc := 83) (n := 69) gCL_RX11_60 gIN_RX8 gz_RX8 (c := 7) (T := TX8) (ty := tyX8) rfl gin_8 tyX8_ok (by decide) (show shp 69 = (17, 4) by decide +kernel) (by omega) (by omega) (by omega) dX11_init_83 ?_
  refine g_dup C (pc := 86) dX11_init_86 rfl ?_
  refine g_callI C (pc := 87) mf_X8_init lk_RX11_62 (k := 3) (i := 69) (As := []) (c_X8_init 69 _ _ (by decide +kernel) (by omega) wrA_s) (by decide) (by omega) rfl (show shp 69 = (17, 4) by decide +kernel) rfl (by omega) (Nat.le_of_ble_eq_true rfl) dX11_init_87 ?_
  rintro _ ρa9 I9 ⟨rfl, S9, pa9, u09, z9⟩
  refine g_putR C (pc := 90) fl_RX11_63 (by decide) fp_10_8 (Or.inr ⟨rfl, fun C9 T9 N9 h9 => by (cases h9; rfl)⟩) w0 (by omega) (by omega) dX11_init_90 ?_
  refine ab_obj (n := 69) (i := 0) (k := 8) (by omega) pa9 fun ρ9 p9 q9 r9 s9 => ?_
  have u9 : ∀ a, a < 69 → I9 a = I8 a := fun a ha => (u09 a ha).trans (wrA_lt ha)
  show G κ 73 ρ9 93 [(0, .ref 0)] [] I9
  have R0 := ((q9 0 (by decide)).trans ((q8 0 (by decide)).trans ((q7 0 (by decide)).trans ((q6 0 (by decide)).trans ((q5 0 (by decide)).trans ((q4 0 (by decide)).trans ((q3 0 (by decide)).trans ((q2 0 (by decide)).trans r1))))))))
  have R1 := ((q9 1 (by decide)).trans ((q8 1 (by decide)).trans ((q7 1 (by decide)).trans ((q6 1 (by decide)).trans ((q5 1 (by decide)).trans ((q4 1 (by decide)).trans ((q3 1 (by decide)).trans r2)))))))
  have R2 := ((q9 2 (by decide)).trans ((q8 2 (by decide)).trans ((q7 2 (by decide)).trans ((q6 2 (by decide)).trans ((q5 2 (by decide)).trans ((q4 2 (by decide)).trans r3))))))
  have R3 := ((q9 3 (by decide)).trans ((q8 3 (by decide)).trans ((q7 3 (by decide)).trans ((q6 3 (by decide)).trans ((q5 3 (by decide)).trans r4)))))
  have R4 := ((q9 4 (by decide)).trans ((q8 4 (by decide)).trans ((q7 4 (by decide)).trans ((q6 4 (by decide)).trans r5))))
  have R5 := ((q9 5 (by decide)).trans ((q8 5 (by decide)).trans ((q7 5 (by decide)).trans r6)))
  have R6 := ((q9 6 (by decide)).trans ((q8 6 (by decide)).trans r7))
  have R7 := ((q9 7 (by decide)).trans r8)
  have R8 := r9
  have ga1 : GaS 73 ρ9 1 := S1.ag (fun a g1 g2 => by rw [p9 a (by omega) (by omega), p8 a (by omega) (by omega), p7 a (by omega) (by omega), p6 a (by omega) (by omega), p5 a (by omega) (by omega), p4 a (by omega) (by omega), p3 a (by omega) (by omega), p2 a (by omega) (by omega), s1 a (by omega)]) (by omega)
  have c15 : ∀ a, 15 ≤ a → a < 29 → ρ9 a = ρa4 a := fun a g1 g2 => by rw [p9 a (by omega) (by omega), p8 a (by omega) (by omega), p7 a (by omega) (by omega), p6 a (by omega) (by omega), p5 a (by omega) (by omega), s4 a (by omega)]
  have c29 : ∀ a, 29 ≤ a → a < 53 → ρ9 a = ρa5 a := fun a g1 g2 => by rw [p9 a (by omega) (by omega), p8 a (by omega) (by omega), p7 a (by omega) (by omega), p6 a (by omega) (by omega), s5 a (by omega)]
  have c53 : ∀ a, 53 ≤ a → a < 58 → ρ9 a = ρa6 a := fun a g1 g2 => by rw [p9 a (by omega) (by omega), p8 a (by omega) (by omega), p7 a (by omega) (by omega), s6 a (by omega)]
  have c58 : ∀ a, 58 ≤ a → a < 61 → ρ9 a = ρa7 a := fun a g1 g2 => by rw [p9 a (by omega) (by omega), p8 a (by omega) (by omega), s7 a (by omega)]
  have c61 : ∀ a, 61 ≤ a → a < 69 → ρ9 a = ρa8 a := fun a g1 g2 => by rw [p9 a (by omega) (by omega), s8 a (by omega)]
  have c69 : ∀ a, 69 ≤ a → a < 73 → ρ9 a = ρa9 a := fun a g1 g2 => s9 a (by omega)
  have hz9 : ∀ a, a < 73 → a ≠ 62 → I9 a = fun _ => 0 := by
    intro a h1 h2
    by_cases e0 : a = 0
    · rw [e0, u9 0 (by omega), u8 0 (by omega), u7 0 (by omega), u6 0 (by omega), u5 0 (by omega), u4 0 (by omega), u3 0 (by omega), u2 0 (by omega), u1 0 (by omega), hI]
    by_cases e1 : a < 13
    · rw [u9 a (by omega), u8 a (by omega), u7 a (by omega), u6 a (by omega), u5 a (by omega), u4 a (by omega), u3 a (by omega), u2 a (by omega)]; exact z1 a (by omega) (by omega)
    by_cases e2 : a < 14
    · rw [u9 a (by omega), u8 a (by omega), u7 a (by omega), u6 a (by omega), u5 a (by omega), u4 a (by omega), u3 a (by omega)]; exact z2 a (by omega) (by omega)
    by_cases e3 : a < 15
    · rw [u9 a (by omega), u8 a (by omega), u7 a (by omega), u6 a (by omega), u5 a (by omega), u4 a (by omega)]; exact z3 a (by omega) (by omega)
    by_cases e4 : a < 29
    · rw [u9 a (by omega), u8 a (by omega), u7 a (by omega), u6 a (by omega), u5 a (by omega)]; exact z4 a (by omega) (by omega)
    by_cases e5 : a < 53
    · rw [u9 a (by omega), u8 a (by omega), u7 a (by omega), u6 a (by omega)]; exact z5 a (by omega) (by omega)
    by_cases e6 : a < 58
    · rw [u9 a (by omega), u8 a (by omega), u7 a (by omega)]; exact z6 a (by omega) (by omega)
    by_cases e7 : a < 61
    · rw [u9 a (by omega), u8 a (by omega)]; exact z7 a (by omega) (by omega)
    by_cases e8 : a < 69
    · rw [u9 a (by omega)]; exact z8 a (by omega) (by omega) (by omega)
    exact z9 a (by omega) (by omega)
  have h62 : ∀ k, k < 4 → I9 62 k = -4 := fun k hk => by rw [u9 62 (by omega)]; exact L8 k hk
  clear u1 u2 u3 u4 u5 u6 u7 u8 u9 z1 z2 z3 z4 z5 z6 z7 z8 z9
  refine g_aload_n C (pc := 93) dX11_init_93 0 rfl ?_
  refine g_getR C (pc := 94) fl_RX11_10 (by decide) w0 (by omega) R0 dX11_init_94 ?_
  refine g_callVV C (pc := 97) mf_X3_clear lk_RX11_67 (c_X3_clear 73 ρ9 I9 1 (by omega) ga1) (by decide) (by omega) rfl ga1.1 rfl (by omega) (Nat.le_of_ble_eq_true rfl) dX11_init_97 (fun J h4 => ?_)
  obtain ⟨a4, w4, y4, z4, n4, p4, l4, m4, t5, t6, t7, g4⟩ := h4
  obtain ⟨hR1, hB1⟩ := clear_R (g := 1) a4 w4 y4 z4 n4 l4 m4
  refine g_aload_n C (pc := 100) dX11_init_100 0 rfl ?_
  refine g_getR C (pc := 101) fl_RX11_10 (by decide) w0 (by omega) R0 dX11_init_101 ?_
  refine g_callVV C (pc := 104) mf_X3_addTwoKings lk_RX11_70 (c_X3_addTwoKings 73 ρ9 J 1 (by omega) ga1 n4 w4 y4) (by decide) (by omega) rfl ga1.1 rfl (by omega) (Nat.le_of_ble_eq_true rfl) dX11_init_104 (fun K hK => ?_)
  obtain ⟨T1, T2, T3, T4⟩ := two_R hR1 hB1 (fun k hk => (p4 k hk).1)
  have hKo : ∀ a, ¬ (1 ≤ a ∧ a ≤ 9) → K a = I9 a := fun a ha => by rw [← hK, addK_n (by omega), addK_n (by omega)]; exact g4 a (by omega)
  have hK1 : ∀ z, K 1 z = J 1 z := fun z => by rw [← hK, addK_n (by omega), addK_n (by omega)]
  rw [hK] at T1 T3
  replace t5 := (hK1 5).trans t5
  replace t6 := (hK1 6).trans t6
  replace t7 := (hK1 7).trans t7
  clear hK a4 w4 y4 z4 n4 p4 l4 m4 g4 hR1 hB1 hK1
  refine g_iconst C (pc := 107) 0 dX11_init_107 (by decide) ?_
  refine g_istore_n C (pc := 108) dX11_init_108 (by decide) (fun v9 => [(1, .int v9), (0, .ref 0)]) (fun _ => rfl) (fun v9 ev9 => ?_)
  subst ev9
  have i90 : ρ9 0 1 = some 13 := R1
  show G κ 73 ρ9 109 [(1, .int (0)), (0, .ref 0)] [] K
  refine g_iload_n C (pc := 109) dX11_init_109 0 rfl ?_
  refine g_aload_n C (pc := 110) dX11_init_110 1 rfl ?_
  refine g_getR C (pc := 111) fl_RX11_16 (by decide) w0 (by omega) i90 dX11_init_111 ?_
  refine g_alen C (pc := 114) 2 (show shp 13 = (3, 2) by decide +kernel) (by decide) (by omega) rfl dX11_init_114 ?_
  refine g_icmp_ge C (pc := 115) 137 dX11_init_115 (by decide) (fun c9 => absurd c9 (by decide)) (fun c9 => ?_)
  refine g_aload_n C (pc := 118) dX11_init_118 1 rfl ?_
  refine g_getR C (pc := 119) fl_RX11_16 (by decide) w0 (by omega) i90 dX11_init_119 ?_
  refine g_iload_n C (pc := 122) dX11_init_122 0 rfl ?_
  refine g_new C (pc := 123) (n := 73) gCL_RX11_7 gIN_RX3 gz_RX3 (c := 2) (T := TX3) (ty := tyX3) rfl gin_3 tyX3_ok (by decide) (show shp 73 = (12, 8) by decide +kernel) (by omega) (by omega) (by omega) dX11_init_123 ?_
  refine g_dup C (pc := 126) dX11_init_126 rfl ?_
  refine g_callI C (pc := 127) mf_X3_init lk_RX11_9 (k := 11) (i := 73) (As := []) (c_X3_init 73 _ _ (by decide +kernel) (by omega) wrA_s) (by decide) (by omega) rfl (show shp 73 = (12, 8) by decide +kernel) rfl (by omega) (Nat.le_of_ble_eq_true rfl) dX11_init_127 ?_
  rintro _ ρA IA ⟨rfl, SA, paA, uA, -⟩
  replace uA : ∀ a, a < 73 → IA a = K a := fun a ha => (uA a ha).trans (wrA_lt ha)
  refine g_aast C (pc := 130) (i := 13) (v := 73) (N := 2) (Nv := 8) (show shp 13 = (3, 2) by decide +kernel) (by omega) (by omega) (show vp_in _ 2 from by unfold vp_in; decide) (show shp 73 = (12, 8) by decide +kernel) (by omega) dX11_init_130 ?_
  obtain ⟨ρAA, hA⟩ : ∃ r9, r9 = rwr ρA 13 ((0 : Int32).toNatClampNeg) (some 73) := ⟨_, rfl⟩
  rw [← hA]
  have pA : ∀ a, a < 73 → a ≠ 13 → ρAA a = ρ9 a := fun a h0 h1 => by rw [hA]; funext b9; rw [rwr_n (fun h9 => h1 h9.1), paA a h0]; unfold rclr; rw [if_neg (by omega)]
  have qA : ρAA 13 0 = some 73 := by rw [hA]; exact rwr_s
  have gA : ∀ a, 73 ≤ a → a < 85 → ρAA a = ρA a := fun a h0 h1 => by rw [hA]; funext b9; exact rwr_n (fun h9 => by omega)
  refine g_iinc C (pc := 131) (1) dX11_init_131 0 rfl (by decide) (by decide) (fun v9 => [(1, .int v9), (0, .ref 0)]) (fun _ => rfl) (fun v9 ev9 => ?_)
  subst ev9
  refine g_goto C (pc := 134) 109 dX11_init_134 (by decide) ?_
  have i91 : ρAA 0 1 = some 13 := (congrFun (pA 0 (by omega) (by omega)) 1).trans i90
  show G κ 85 ρAA 109 [(1, .int (0 + 1)), (0, .ref 0)] [] IA
  refine g_iload_n C (pc := 109) dX11_init_109 0 rfl ?_
  refine g_aload_n C (pc := 110) dX11_init_110 1 rfl ?_
  refine g_getR C (pc := 111) fl_RX11_16 (by decide) w0 (by omega) i91 dX11_init_111 ?_
  refine g_alen C (pc := 114) 2 (show shp 13 = (3, 2) by decide +kernel) (by decide) (by omega) rfl dX11_init_114 ?_
  refine g_icmp_ge C (pc := 115) 137 dX11_init_115 (by decide) (fun c9 => absurd c9 (by decide)) (fun c9 => ?_)
  refine g_aload_n C (pc := 118) dX11_init_118 1 rfl ?_
  refine g_getR C (pc := 119) fl_RX11_16 (by decide) w0 (by omega) i91 dX11_init_119 ?_
  refine g_iload_n C (pc := 122) dX11_init_122 0 rfl ?_
  refine g_new C (pc := 123) (n := 85) gCL_RX11_7 gIN_RX3 gz_RX3 (c := 2) (T := TX3) (ty := tyX3) rfl gin_3 tyX3_ok (by decide) (show shp 85 = (12, 8) by decide +kernel) (by omega) (by omega) (by omega) dX11_init_123 ?_
  refine g_dup C (pc := 126) dX11_init_126 rfl ?_
  refine g_callI C (pc := 127) mf_X3_init lk_RX11_9 (k := 11) (i := 85) (As := []) (c_X3_init 85 _ _ (by decide +kernel) (by omega) wrA_s) (by decide) (by omega) rfl (show shp 85 = (12, 8) by decide +kernel) rfl (by omega) (Nat.le_of_ble_eq_true rfl) dX11_init_127 ?_
  rintro _ ρB IB ⟨rfl, SB, paB, uB, -⟩
  replace uB : ∀ a, a < 85 → IB a = IA a := fun a ha => (uB a ha).trans (wrA_lt ha)
  refine g_aast C (pc := 130) (i := 13) (v := 85) (N := 2) (Nv := 8) (show shp 13 = (3, 2) by decide +kernel) (by omega) (by omega) (show vp_in _ 2 from by unfold vp_in; decide) (show shp 85 = (12, 8) by decide +kernel) (by omega) dX11_init_130 ?_
  obtain ⟨ρBB, hB⟩ : ∃ r9, r9 = rwr ρB 13 ((0 + 1 : Int32).toNatClampNeg) (some 85) := ⟨_, rfl⟩
  rw [← hB]
  have pB : ∀ a, a < 85 → a ≠ 13 → ρBB a = ρAA a := fun a h0 h1 => by rw [hB]; funext b9; rw [rwr_n (fun h9 => h1 h9.1), paB a h0]; unfold rclr; rw [if_neg (by omega)]
  have qB : ρBB 13 1 = some 85 := by rw [hB]; exact rwr_s
  have qC : ρBB 13 0 = some 73 := by rw [hB, rwr_n (fun h9 => by have := h9.2; revert this; decide), paB 13 (by omega)]; unfold rclr; rw [if_neg (by omega)]; exact qA
  have gB : ∀ a, 85 ≤ a → a < 97 → ρBB a = ρB a := fun a h0 h1 => by rw [hB]; funext b9; exact rwr_n (fun h9 => by omega)
  refine g_iinc C (pc := 131) (1) dX11_init_131 0 rfl (by decide) (by decide) (fun v9 => [(1, .int v9), (0, .ref 0)]) (fun _ => rfl) (fun v9 ev9 => ?_)
  subst ev9
  refine g_goto C (pc := 134) 109 dX11_init_134 (by decide) ?_
  have i92 : ρBB 0 1 = some 13 := (congrFun (pB 0 (by omega) (by omega)) 1).trans i91
  show G κ 97 ρBB 109 [(1, .int (0 + 1 + 1)), (0, .ref 0)] [] IB
  refine g_iload_n C (pc := 109) dX11_init_109 0 rfl ?_
  refine g_aload_n C (pc := 110) dX11_init_110 1 rfl ?_
  refine g_getR C (pc := 111) fl_RX11_16 (by decide) w0 (by omega) i92 dX11_init_111 ?_
  refine g_alen C (pc := 114) 2 (show shp 13 = (3, 2) by decide +kernel) (by decide) (by omega) rfl dX11_init_114 ?_
  refine g_icmp_ge C (pc := 115) 137 dX11_init_115 (by decide) (fun c9 => ?_) (fun c9 => absurd c9 (by decide))
  refine g_vret C hR (pc := 137) (by omega) dX11_init_137 ?_
  have pp : ∀ a, a < 73 → a ≠ 13 → ρBB a = ρ9 a := fun a h0 h1 => (pB a (by omega) h1).trans (pA a h0 h1)
  have uu : ∀ a, a < 73 → IB a = K a := fun a h0 => (uB a (by omega)).trans (uA a h0)
  have e0 := pp 0 (by omega) (by omega)
  have GA : GaS 97 ρBB 73 := SA.ag (fun a h0 h1 => by rw [pB a (by omega) (by omega), gA a h0 h1]) (by omega)
  have GB : GaS 97 ρBB 85 := SB.ag (fun a h0 h1 => gB a h0 h1) (by omega)
  have G1 : GaS 97 ρBB 1 := ga1.ag (fun a h0 h1 => pp a (by omega) (by omega)) (by omega)
  have G17 : GaS 97 ρBB 17 := S4.2.2.ag (fun a h0 h1 => by rw [pp a (by omega) (by omega), c15 a (by omega) (by omega)]) (by omega)
  have CH : Ch 97 ρBB 3 47 := S5.ag (fun a h0 h1 => by rw [pp a (by omega) (by omega), c29 a (by omega) (by omega)]) (by omega)
  have SS : SsS 97 ρBB 61 := S8.ag (fun a h0 h1 => by rw [pp a (by omega) (by omega), c61 a (by omega) (by omega)]) (by omega)
  have ST : St 97 ρBB 69 := S9.ag (fun a h0 h1 => by rw [pp a (by omega) (by omega), c69 a (by omega) (by omega)]) (by omega)
  have k15 := (pp 15 (by omega) (by omega)).trans (c15 15 (by omega) (by omega))
  have k53 := (pp 53 (by omega) (by omega)).trans (c53 53 (by omega) (by omega))
  have k55 := (pp 55 (by omega) (by omega)).trans (c53 55 (by omega) (by omega))
  have k58 := (pp 58 (by omega) (by omega)).trans (c58 58 (by omega) (by omega))
  refine ⟨rfl, ⟨⟨w0, by omega, by rw [e0]; exact R0, G1, by rw [e0]; exact R7, SS⟩, ⟨by rw [e0]; exact R1, by rw [e0]; exact R2, by rw [e0]; exact R3, by rw [e0]; exact R4, by rw [e0]; exact R5, by rw [e0]; exact R6, by rw [e0]; exact R8⟩, ⟨qC, qB, GA, GB⟩, ⟨by rw [k15]; exact S4.1, by rw [k15]; exact S4.2.1, G17⟩, CH, ⟨by rw [k53]; exact S6.1, by rw [k53]; exact S6.2.1, by rw [k53]; exact S6.2.2.1⟩, by rw [k55]; exact S6.2.2.2, ⟨by rw [k58]; exact S7.1, by rw [k58]; exact S7.2⟩, ST⟩, RR.cong (r := 2) T1 (fun i hi => uu (2 + i) (by omega)), T2, BR.cong (s := 6) T3 (fun i hi => uu (6 + i) (by omega)), T4, by rw [uu 1 (by omega)]; exact t5, by rw [uu 1 (by omega)]; exact t6, by rw [uu 1 (by omega)]; exact t7, fun k hk => by rw [uu 62 (by omega), hKo 62 (by omega)]; exact h62 k hk, fun a h0 h1 h2 => by rw [uu a h0, hKo a h1]; exact hz9 a h0 h2⟩
