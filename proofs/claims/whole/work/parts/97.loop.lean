theorem le5 {L i : Nat} (hL : L ≤ 320) (hi : i ≤ 330) (h : nI i ≤ nI L - 5) : i + 5 ≤ L := by
  rcases Nat.lt_or_ge L 5 with h5 | h5
  · exfalso
    have h0 : (0 : Int32) ≤ nI L - 5 := Int32.le_trans (nI_pos' (by omega)) h
    have hc : L = 0 ∨ L = 1 ∨ L = 2 ∨ L = 3 ∨ L = 4 := by omega
    rcases hc with rfl | rfl | rfl | rfl | rfl <;> exact absurd h0 (by decide)
  · obtain ⟨k, rfl⟩ : ∃ k, L = k + 5 := ⟨L - 5, by omega⟩
    have e : nI (k + 5) - 5 = nI k := by
      rw [← nI_add, show nI 5 = 5 by decide, Int32.add_sub_cancel]
    rw [e] at h
    have := (nI_leI (by omega) (by omega)).mp h
    omega
section LL
variable {κ : Kap} {nm : String} {L : Nat} {xs : Nat → Int32}
theorem law_step9 (C : Cx κ (yl nm) cL_law 4 30 119) (S : Scr κ L xs) {i : Nat} (hi : i + 5 ≤ L) (hL : L ≤ 320) {ρ : Rho} {I : Mem} (hx : XS 119 ρ) (hm : MS 119 ρ) (hj : JJ I) (K : ∀ ρ' I', XS 119 ρ' → MS 119 ρ' → JJ I' → G κ 119 ρ' 1288 (LV i) [] I') : G κ 119 ρ 26 (LV i) [] I := by
  refine g_aload_n C (pc := 26) dL_law_26 3 rfl ?_
  refine g_iload_n C (pc := 27) dL_law_27 0 rfl ?_
  refine g_sld C S (pc := 28) ?_ dL_law_28 ?_
  · unfold vp_in
    rintro (h | h)
    · exact nI_pos (by omega) h
    · rw [nI_clamp (by omega)] at h; omega
  refine g_bipush C (pc := 29) 63 dL_law_29 (by decide) ?_
  refine g_iand C (pc := 31) dL_law_31 ?_
  refine g_tsw C (pc := 32) dL_law_32 (by decide) (by decide) (by decide) (by decide) (swK_cons (fun _ => law_feed C S hi hL hx hm hj K) (swK_cons (fun _ => law_end C S hi hL hx hm hj K) (swK_cons (fun _ => law_text C S hi hL hx hm hj K) (swK_cons (fun _ => law_fault C S hi hL hx hm hj K) (swK_cons (fun _ => law_rule C S hi hL hx hm hj K) (swK_cons (fun _ => law_square C S hi hL hx hm hj K) (swK_cons (fun _ => law_piece C S hi hL hx hm hj K) (swK_cons (fun _ => law_odd C S hi hL hx hm hj K) (swK_cons (fun _ => law_oil C S hi hL hx hm hj K) (swK_cons (fun _ => law_put C S hi hL hx hm hj K) (swK_cons (fun _ => law_steeple C S hi hL hx hm hj K) (swK_cons (fun _ => law_weigh C S hi hL hx hm hj K) (swK_cons (fun _ => law_turn C S hi hL hx hm hj K) (swK_cons (fun _ => law_moves C S hi hL hx hm hj K) (swK_cons (fun _ => law_move C S hi hL hx hm hj K) (swK_cons (fun _ => law_go C S hi hL hx hm hj K) (swK_cons (fun _ => law_chance C S hi hL hx hm hj K) (swK_cons (fun _ => law_byWind C S hi hL hx hm hj K) (swK_cons (fun _ => law_best C S hi hL hx hm hj K) (swK_cons (fun _ => law_hope C S hi hL hx hm hj K) (swK_cons (fun _ => law_since C S hi hL hx hm hj K) (swK_cons (fun _ => law_see C S hi hL hx hm hj K) (swK_cons (fun _ => law_forget C S hi hL hx hm hj K) (swK_cons (fun _ => law_fits C S hi hL hx hm hj K) (swK_cons (fun _ => law_where C S hi hL hx hm hj K) (swK_cons (fun _ => law_tell C S hi hL hx hm hj K) (swK_cons (fun _ => law_drop C S hi hL hx hm hj K) (swK_cons (fun _ => law_blow C S hi hL hx hm hj K) (swK_cons (fun _ => law_gale C S hi hL hx hm hj K) (swK_cons (fun _ => law_keep C S hi hL hx hm hj K) (swK_cons (fun _ => law_back C S hi hL hx hm hj K) (swK_cons (fun _ => law_sheet C S hi hL hx hm hj K) (swK_cons (fun _ => law_lay C S hi hL hx hm hj K) (swK_cons (fun _ => law_read C S hi hL hx hm hj K) (swK_cons (fun _ => law_torn C S hi hL hx hm hj K) (swK_cons (fun _ => law_count C S hi hL hx hm hj K) swK_nil)))))))))))))))))))))))))))))))))))) (fun _ => K ρ I hx hm hj)
theorem law_loop (C : Cx κ (yl nm) cL_law 4 30 119) (S : Scr κ L xs) (hL : L ≤ 320) (KE : ∀ (i : Nat) (ρ : Rho) (I : Mem), G κ 119 ρ 1294 (LV i) [] I) : ∀ (f i : Nat) (ρ : Rho) (I : Mem), XS 119 ρ → MS 119 ρ → JJ I → i ≤ 330 → L + 6 - i < f → G κ 119 ρ 18 (LV i) [] I
  | 0, i, ρ, I, hx, hm, hj, hi, hf => absurd hf (Nat.not_lt_zero _)
  | f + 1, i, ρ, I, hx, hm, hj, hi, hf => by
    refine g_iload_n C (pc := 18) dL_law_18 0 rfl ?_
    refine g_aload_n C (pc := 19) dL_law_19 3 rfl ?_
    refine g_slen C S (pc := 20) dL_law_20 ?_
    refine g_iconst C (pc := 21) 5 dL_law_21 (by decide) ?_
    refine g_isub C (pc := 22) dL_law_22 ?_
    refine g_icmp_gt C (pc := 23) 1294 dL_law_23 (by decide) (fun _ => KE i ρ I) (fun c9 => ?_)
    have h5 := le5 hL hi c9
    refine law_step9 C S h5 hL hx hm hj fun ρ' I' hx' hm' hj' => ?_
    refine g_iinc C (pc := 1288) 5 dL_law_1288 0 rfl (by decide) (by decide) (fun v => [(3, .int v), (2, .ref 97), (1, .ref 0), (0, .ref 2000)]) (fun _ => rfl) (fun v ev => ?_)
    refine g_goto C (pc := 1291) 18 dL_law_1291 (by decide) ?_
    have e : v = nI (i + 5) := by rw [ev, ← nI_add]; exact congrArg (nI i + ·) (show (5 : Int32) = nI 5 by decide)
    rw [e]
    exact law_loop C S hL KE f (i + 5) ρ' I' hx' hm' hj' (by omega) (by omega)
theorem XS.ag {n m : Nat} {ρ ρ' : Rho} (h : XS n ρ) (e : ∀ a, a < 97 → ρ' a = ρ a) (hm : 97 ≤ m) : XS m ρ' := by
  obtain ⟨⟨a1, a2, a3, a4, a5, a6⟩, b, ⟨c1, c2, c3, c4⟩, ⟨d1, d2, d3⟩, e1, f1, g1, k1, l1⟩ := h
  refine ⟨⟨a1, hm, by rw [e 0 (by omega)]; exact a3, a4.ag (fun a _ _ => e a (by omega)) (by omega), by rw [e 0 (by omega)]; exact a5, a6.ag (fun a _ _ => e a (by omega)) (by omega)⟩, by rw [e 0 (by omega)]; exact b, ⟨by rw [e 13 (by omega)]; exact c1, by rw [e 13 (by omega)]; exact c2, c3.ag (fun a _ _ => e a (by omega)) (by omega), c4.ag (fun a _ _ => e a (by omega)) (by omega)⟩, ⟨by rw [e 15 (by omega)]; exact d1, by rw [e 15 (by omega)]; exact d2, d3.ag (fun a _ _ => e a (by omega)) (by omega)⟩, e1.ag (fun a _ _ => e a (by omega)) (by omega), by rw [e 53 (by omega)]; exact f1, by rw [e 55 (by omega)]; exact g1, by rw [e 58 (by omega)]; exact k1, l1.ag (fun a _ _ => e a (by omega)) (by omega)⟩
set_option maxHeartbeats 1000000 in
theorem law_start (C : Cx κ (yl nm) cL_law 4 30 119) (S : Scr κ L xs) (hL : L ≤ 320) (KE : ∀ (i : Nat) (ρ : Rho) (I : Mem), G κ 119 ρ 1294 (LV i) [] I) (ρ : Rho) (I : Mem) : G κ 0 ρ 0 [(0, .ref 2000)] [] I := by
  have hl9 := SH_len
  refine g_new C (pc := 0) (n := 0) gCL_RL_7 gIN_RX11 gz_RX11 (c := 10) (T := TX11) (ty := tyX11) rfl gin_11 tyX11_ok (by decide) (show shp 0 = (20, 11) by decide +kernel) (by omega) (by omega) (by omega) dL_law_0 ?_
  refine g_dup C (pc := 3) dL_law_3 rfl ?_
  refine g_callI C (pc := 4) mf_X11_init lk_RL_9 (k := 96) (i := 0) (As := []) (c_X11_init _ _ wrA_s) (by decide) (by omega) rfl (show shp 0 = (20, 11) by decide +kernel) rfl (by omega) (Nat.le_of_ble_eq_true rfl) dL_law_4 ?_
  rintro _ ρ1 I1 ⟨rfl, hx1, t1, t2, t3, t4, t5, t6, t7, h62, hz1⟩
  refine g_astore_n C (pc := 7) dL_law_7 (by decide) (lv' := [(1, .ref 0), (0, .ref 2000)]) rfl ?_
  refine g_new C (pc := 8) (n := 97) gCL_RL_10 gIN_RX12 gz_RX12 (c := 11) (T := TX12) (ty := tyX12) rfl gin_12 tyX12_ok (by decide) (show shp 97 = (21, 43) by decide +kernel) (by omega) (by omega) (by omega) dL_law_8 ?_
  refine g_dup C (pc := 11) dL_law_11 rfl ?_
  refine g_callI C (pc := 12) mf_X12_init lk_RL_12 (k := 21) (i := 97) (As := []) (c_X12_init _ _ wrA_s) (by decide) (by omega) rfl (show shp 97 = (21, 43) by decide +kernel) rfl (by omega) (Nat.le_of_ble_eq_true rfl) dL_law_12 ?_
  rintro _ ρ2 I2 ⟨rfl, hm2, ⟨q1, q2, q3⟩, ⟨q4, q5, q6⟩, q7, q8, q9, q10, pp, uu⟩
  replace pp : ∀ a, a < 97 → ρ2 a = ρ1 a := fun a ha => by rw [pp a ha]; unfold rclr; rw [if_neg (by omega)]
  replace uu : ∀ a, a < 97 → I2 a = I1 a := fun a ha => (uu a ha).trans (wrA_lt ha)
  refine g_astore_n C (pc := 15) dL_law_15 (by decide) (lv' := [(2, .ref 97), (1, .ref 0), (0, .ref 2000)]) rfl ?_
  refine g_iconst C (pc := 16) 0 dL_law_16 (by decide) ?_
  refine g_istore_n C (pc := 17) dL_law_17 (by decide) (fun v => [(3, .int v), (2, .ref 97), (1, .ref 0), (0, .ref 2000)]) (fun _ => rfl) (fun v ev => ?_)
  subst ev
  have hx2 : XS 119 ρ2 := hx1.ag pp (by decide)
  have hk : gK (twoK (dF dr0) (dB dr0)).1 (twoK (dF dr0) (dB dr0)).2 := twoK_K rfl dr0_rw (by decide)
  have hb0 : bI (false = true) = 0 := rfl
  have hj : JJ I2 := by
    refine ⟨g0 (twoK (dF dr0) (dB dr0)).1 (twoK (dF dr0) (dB dr0)).2, fun _ => false, fun _ => g0 (dF dr0) (dB dr0), 0, fun _ => 0, fun _ => none, fun _ => 0, fun _ _ => 0, 0, 0, ⟨g0_W t2 t4 hk, fun k _ hp => by cases hp⟩, ?_, ?_⟩
    · refine ⟨(g0_X t1 t3 t5 t6 t7).cong (fun a h1 h2 => uu a (by omega)), fun k hk => ⟨?_, fun hp => by cases hp⟩, ⟨?_, Nat.zero_le _, fun i hi => absurd hi (Nat.not_lt_zero i)⟩, fun k hk => ⟨?_, ?_, Nat.zero_le _, (fun l hl => by cases hl), fun i hi => absurd hi (Nat.not_lt_zero i)⟩, ?_, ?_⟩
      · rw [uu 14 (by omega), hz1 14 (by omega) (by omega) (by omega)]; exact hb0.symm
      · rw [uu 15 (by omega), hz1 15 (by omega) (by omega) (by omega)]; rfl
      · rw [uu (61 + 1) (by omega)]; exact h62 k hk
      · rw [uu (61 + 2) (by omega), hz1 (61 + 2) (by omega) (by omega) (by omega)]; rfl
      · rw [uu 0 (by omega), hz1 0 (by omega) (by omega) (by omega)]
      · rw [uu 0 (by omega), hz1 0 (by omega) (by omega) (by omega)]
    · refine ⟨q1.1, g0_M q1 q4 q5 q6, fun k hk => ⟨?_, fun hp => by cases hp⟩, ⟨?_, Nat.zero_le _, fun i hi => absurd hi (Nat.not_lt_zero i)⟩, fun k hk => ⟨?_, ?_, Nat.zero_le _, (fun l hl => by cases hl), fun i hi => absurd hi (Nat.not_lt_zero i)⟩, ?_, ?_⟩
      · rw [q7 k hk]; exact hb0.symm
      · rw [q8 16 (by omega)]; rfl
      · exact q9 k hk
      · rw [q10 116 (by omega) (by omega) (by omega)]; rfl
      · exact q8 21 (by omega)
      · exact q8 41 (by omega)
  exact law_loop C S hL KE (L + 7) 0 ρ2 I2 hx2 hm2 hj (by omega) (by omega)
end LL
