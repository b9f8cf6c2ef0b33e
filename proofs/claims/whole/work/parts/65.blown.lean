set_option maxHeartbeats 400000 in
theorem c_X12_blownOf (n : Nat) (ρ : Rho) (I : Mem) (c9 m : Nat) (tl : Nat → Nat) (x z : Int32) (hn9 : n ≤ 999) (hms : MS n ρ) (hm : m ≤ 3) (htl : ∀ q, q < m → I 98 (38 + q) = nI (tl q) ∧ tl q < 5) (hc : c9 < 100000) (hx : x = nI c9) (hz : z = nI m) : MI yX12_blownOf cX12_blownOf 6 (some .int) 1 [.ref 97, .int x, .int z] n ρ I (fun v I1 => v = nI (othN m tl c9) ∧ (∀ x, x < m → I1 113 x = nI (dig5 m c9 x)) ∧ (∀ x, m ≤ x → I1 113 x = I 113 x) ∧ ∀ i, i ≠ 113 → I1 i = I i) := by
  refine MG.of (by decide +kernel) (Nat.le_of_ble_eq_true rfl) hn9 ?_
  intro κ C hR
  show G κ n ρ 0 [(0, .ref 97), (1, .int x), (2, .int z)] [] I
  obtain ⟨mn, ⟨m0, m1, m5, m6, m7, m11, m12, m15⟩, ⟨m23, m24, m26, m27, m28, m30, m31, m32, m33⟩, ⟨m38, m39, m40, m42⟩⟩ := id hms
  refine g_iload_n C (pc := 0) dX12_blownOf_0 1 rfl ?_
  refine g_istore_n C (pc := 1) dX12_blownOf_1 (by decide) (fun v1 => [(3, .int v1), (0, .ref 97), (1, .int x), (2, .int z)]) (fun _ => rfl) (fun v1 ev1 => ?_)
  refine g_iconst C (pc := 2) 0 dX12_blownOf_2 (by decide) ?_
  refine g_istore C (pc := 3) dX12_blownOf_3 (by decide) (fun v3 => [(4, .int v3), (3, .int v1), (0, .ref 97), (1, .int x), (2, .int z)]) (fun _ => rfl) (fun v3 ev3 => ?_)
  refine g_iload_n C (pc := 5) dX12_blownOf_5 4 rfl ?_
  refine g_iconst C (pc := 6) 1 dX12_blownOf_6 (by decide) ?_
  refine g_isub C (pc := 7) dX12_blownOf_7 ?_
  refine g_istore C (pc := 8) dX12_blownOf_8 (by decide) (fun v8 => [(5, .int v8), (4, .int v3), (3, .int v1), (0, .ref 97), (1, .int x), (2, .int z)]) (fun _ => rfl) (fun v8 ev8 => ?_)
  have L10 : ∀ (k9 : Nat) (j : Nat) (wz5 : Int32) (wz4 : Int32) (wz3 : Int32) (J : Mem) (hw5 : wz5 = nI j - 1) (hj : j ≤ m) (hw3 : wz3 = nI (c9 / 5 ^ (m - j))) (hw4 : wz4 = nI (ctP (fun x => decide (dig5 m c9 (m - 1 - x) ≠ tl (m - 1 - x))) (m - j))) (hJ : ∀ i, i ≠ 113 → J i = I i) (hD : ∀ x, x < m → j ≤ x → J 113 x = nI (dig5 m c9 x)) (hK : ∀ x, m ≤ x → J 113 x = I 113 x), j < k9 → G κ n ρ 10 [(5, .int wz5), (4, .int wz4), (3, .int wz3), (0, .ref 97), (1, .int x), (2, .int z)] [] J := by
    intro k9
    induction k9 with
    | zero => intro j wz5 wz4 wz3 J hw5 hj hw3 hw4 hJ hD hK hm10; exact absurd hm10 (Nat.not_lt_zero _)
    | succ k9 ih10 =>
      intro j wz5 wz4 wz3 J hw5 hj hw3 hw4 hJ hD hK hm10
      have hcc : c9 / 5 ^ (m - j) ≤ c9 := Nat.div_le_self _ _
      refine g_iload C (pc := 10) dX12_blownOf_10 0 rfl ?_
      refine g_if_lt C (pc := 12) 68 dX12_blownOf_12 (by decide) (fun c12 => ?_) (fun c12 => ?_)
      · have hj0 : j = 0 := by
          rcases Nat.eq_zero_or_pos j with h9 | h9
          · exact h9
          · rw [hw5, show nI j - 1 = nI (j - 1) from pk_sub (b := 1) h9] at c12; exact absurd c12 (nI_pos (by omega))
        refine g_iload C (pc := 68) dX12_blownOf_68 1 rfl ?_
        refine g_iret C hR (pc := 70) rfl dX12_blownOf_70 ?_
        refine ⟨rfl, _, rfl, ?_⟩
        subst hj0
        exact ⟨hw4, fun x h1 => hD x h1 (Nat.zero_le x), hK, hJ⟩
      · have hjp : 0 < j := by
          rcases Nat.eq_zero_or_pos j with h9 | h9
          · rw [hw5, h9] at c12; exact absurd c12 (by decide)
          · exact h9
        obtain ⟨j1, rfl⟩ : ∃ j1, j = j1 + 1 := ⟨j - 1, by omega⟩
        replace hw5 := hw5.trans (nI_pred j1)
        have hclm : wz5.toNatClampNeg = j1 := by rw [hw5]; exact nI_clamp (by omega)
        have hin : vp_in wz5 3 := by rw [hw5]; exact vp_in_nI (by omega) (by decide)
        have hdg : wz3 - wz3 / 5 * 5 = nI (dig5 m c9 j1) := by
          rw [hw3]; unfold dig5
          rw [show m - 1 - j1 = m - (j1 + 1) by omega]
          exact pk_rem (d := 5) (by omega) (by decide) (by decide)
        have hdx : m - 1 - (m - (j1 + 1)) = j1 := by omega
        have hi38 : (38 + wz5).toNatClampNeg = 38 + j1 := by rw [hw5, show (38 : Int32) = nI 38 from rfl, nI_add]; exact nI_clamp (by omega)
        refine g_aload_n C (pc := 15) dX12_blownOf_15 3 rfl ?_
        refine g_getR C (pc := 16) fl_RX12_56 (by decide) (by first | assumption | rfl | omega) (by first | assumption | rfl | omega) (by first | assumption | rfl | omega) dX12_blownOf_16 ?_
        refine g_iload C (pc := 19) dX12_blownOf_19 0 rfl ?_
        refine g_iload_n C (pc := 21) dX12_blownOf_21 2 rfl ?_
        refine g_iconst C (pc := 22) 5 dX12_blownOf_22 (by decide) ?_
        refine g_irem C (pc := 23) dX12_blownOf_23 (by decide) ?_
        refine g_iast C (pc := 24) (by first | assumption | rfl | omega) (by first | assumption | rfl | omega) hn9 hin dX12_blownOf_24 ?_
        refine g_iload_n C (pc := 25) dX12_blownOf_25 2 rfl ?_
        refine g_iconst C (pc := 26) 5 dX12_blownOf_26 (by decide) ?_
        refine g_idiv C (pc := 27) dX12_blownOf_27 (by decide) ?_
        refine g_istore_n C (pc := 28) dX12_blownOf_28 (by decide) (fun v28 => [(3, .int v28), (5, .int wz5), (4, .int wz4), (0, .ref 97), (1, .int x), (2, .int z)]) (fun _ => rfl) (fun v28 ev28 => ?_)
        refine g_iload C (pc := 29) dX12_blownOf_29 2 rfl ?_
        refine g_aload_n C (pc := 31) dX12_blownOf_31 3 rfl ?_
        refine g_getR C (pc := 32) fl_RX12_56 (by decide) (by first | assumption | rfl | omega) (by first | assumption | rfl | omega) (by first | assumption | rfl | omega) dX12_blownOf_32 ?_
        refine g_iload C (pc := 35) dX12_blownOf_35 1 rfl ?_
        refine g_iald C (pc := 37) (by first | assumption | rfl | omega) (by first | assumption | rfl | omega) hin dX12_blownOf_37 ?_
        refine g_aload_n C (pc := 38) dX12_blownOf_38 3 rfl ?_
        refine g_getR C (pc := 39) fl_RX12_7 (by decide) (by first | assumption | rfl | omega) (by first | assumption | rfl | omega) (by first | assumption | rfl | omega) dX12_blownOf_39 ?_
        refine g_bipush C (pc := 42) 38 dX12_blownOf_42 (by decide) ?_
        refine g_iload C (pc := 44) dX12_blownOf_44 1 rfl ?_
        refine g_iadd C (pc := 46) dX12_blownOf_46 ?_
        refine g_iald C (pc := 47) (by first | assumption | rfl | omega) (by first | assumption | rfl | omega) (by rw [hw5, show (38 : Int32) = nI 38 from rfl, nI_add]; exact vp_in_nI (by omega) (by decide)) dX12_blownOf_47 ?_
        refine g_icmp_eq C (pc := 48) 55 dX12_blownOf_48 (by decide) (fun c48 => ?_) (fun c48 => ?_)
        · have hsame : dig5 m c9 j1 = tl j1 := by
            rw [hclm, hi38, wr_ss, wr_n (by decide), hJ 98 (by decide), (htl j1 (by omega)).1, hdg] at c48
            exact (nI_eq (by unfold dig5; have := Nat.mod_lt (c9 / 5 ^ (m - 1 - j1)) (show 0 < 5 by decide); omega) (by have := (htl j1 (by omega)).2; omega)).mp c48
          refine g_iconst C (pc := 55) 0 dX12_blownOf_55 (by decide) ?_
          refine g_callSI C (pc := 56) mf_X12_flag lk_RX12_189 (c_X12_flag n ρ _ _ hn9) (by decide) (Nat.le_refl _) rfl (Nat.le_of_ble_eq_true rfl) dX12_blownOf_56 (fun v56 I56 h56 => ?_)
          obtain ⟨e56, rfl⟩ := h56
          refine g_iadd C (pc := 59) dX12_blownOf_59 ?_
          refine g_istore C (pc := 60) dX12_blownOf_60 (by decide) (fun v60 => [(4, .int v60), (3, .int v28), (5, .int wz5), (0, .ref 97), (1, .int x), (2, .int z)]) (fun _ => rfl) (fun v60 ev60 => ?_)
          refine g_iinc C (pc := 62) (-1) dX12_blownOf_62 2 rfl (by decide) (by decide) (fun v62 => [(5, .int v62), (4, .int v60), (3, .int v28), (0, .ref 97), (1, .int x), (2, .int z)]) (fun _ => rfl) (fun v62 ev62 => ?_)
          refine g_goto C (pc := 65) 10 dX12_blownOf_65 (by decide) ?_
          refine g_lv C [0, 1, 2, 3, 4, 5] rfl (ih10 j1 _ _ _ _ ?_ ?_ ?_ ?_ ?_ ?_ ?_ (by omega))
          · subst ev62; rw [hw5]; exact (Int32.sub_eq_add_neg _ _).symm
          · omega
          · rw [ev28, hw3, show m - j1 = (m - (j1 + 1)) + 1 by omega, Nat.pow_succ, ← Nat.div_div_eq_div_mul]; exact pk_div (d := 5) (by omega) (by decide) (by decide)
          · rw [ev60, e56, show m - j1 = (m - (j1 + 1)) + 1 by omega, ctP, hdx]
            first
            | (rw [if_neg (by simpa using hsame), bI_f (by decide), hw4]; exact Int32.add_zero _)
            | (rw [if_pos (by simpa using hdiff), bI_t (by decide), hw4]; exact nI_1 _)
          · intro i hi; rw [wr_n hi]; exact hJ i hi
          · intro x h1 h2
            rw [hclm]
            by_cases e9 : x = j1
            · subst e9; rw [wr_ss]; exact hdg
            · rw [wr_sn e9]; exact hD x h1 (by omega)
          · intro x h1; rw [hclm, wr_sn (by omega)]; exact hK x h1
        · have hdiff : dig5 m c9 j1 ≠ tl j1 := by
            intro h9
            apply c48
            rw [hclm, hi38, wr_ss, wr_n (by decide), hJ 98 (by decide), (htl j1 (by omega)).1, hdg, h9]
          refine g_iconst C (pc := 51) 1 dX12_blownOf_51 (by decide) ?_
          refine g_goto C (pc := 52) 56 dX12_blownOf_52 (by decide) ?_
          refine g_callSI C (pc := 56) mf_X12_flag lk_RX12_189 (c_X12_flag n ρ _ _ hn9) (by decide) (Nat.le_refl _) rfl (Nat.le_of_ble_eq_true rfl) dX12_blownOf_56 (fun v56 I56 h56 => ?_)
          obtain ⟨e56, rfl⟩ := h56
          refine g_iadd C (pc := 59) dX12_blownOf_59 ?_
          refine g_istore C (pc := 60) dX12_blownOf_60 (by decide) (fun v60 => [(4, .int v60), (3, .int v28), (5, .int wz5), (0, .ref 97), (1, .int x), (2, .int z)]) (fun _ => rfl) (fun v60 ev60 => ?_)
          refine g_iinc C (pc := 62) (-1) dX12_blownOf_62 2 rfl (by decide) (by decide) (fun v62 => [(5, .int v62), (4, .int v60), (3, .int v28), (0, .ref 97), (1, .int x), (2, .int z)]) (fun _ => rfl) (fun v62 ev62 => ?_)
          refine g_goto C (pc := 65) 10 dX12_blownOf_65 (by decide) ?_
          refine g_lv C [0, 1, 2, 3, 4, 5] rfl (ih10 j1 _ _ _ _ ?_ ?_ ?_ ?_ ?_ ?_ ?_ (by omega))
          · subst ev62; rw [hw5]; exact (Int32.sub_eq_add_neg _ _).symm
          · omega
          · rw [ev28, hw3, show m - j1 = (m - (j1 + 1)) + 1 by omega, Nat.pow_succ, ← Nat.div_div_eq_div_mul]; exact pk_div (d := 5) (by omega) (by decide) (by decide)
          · rw [ev60, e56, show m - j1 = (m - (j1 + 1)) + 1 by omega, ctP, hdx]
            first
            | (rw [if_neg (by simpa using hsame), bI_f (by decide), hw4]; exact Int32.add_zero _)
            | (rw [if_pos (by simpa using hdiff), bI_t (by decide), hw4]; exact nI_1 _)
          · intro i hi; rw [wr_n hi]; exact hJ i hi
          · intro x h1 h2
            rw [hclm]
            by_cases e9 : x = j1
            · subst e9; rw [wr_ss]; exact hdg
            · rw [wr_sn e9]; exact hD x h1 (by omega)
          · intro x h1; rw [hclm, wr_sn (by omega)]; exact hK x h1
  refine g_lv C [0, 1, 2, 3, 4, 5] rfl (L10 (_ + 1) m _ _ _ _ ?_ ?_ ?_ ?_ ?_ ?_ ?_ (by first | omega | exact Nat.lt_succ_self _))
  · rw [ev8, hz]
  · omega
  · rw [ev1, Nat.sub_self, hx]; simp
  · rw [ev3, Nat.sub_self]; rfl
  · intro i _; rfl
  · intro x h1 h2; omega
  · intro x _; rfl
