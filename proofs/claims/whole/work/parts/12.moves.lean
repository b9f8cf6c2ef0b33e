/-! ===== the squares that a piece can go to ===== -/
def stpB (F : RT) (b : BT) (a : Nat) : Bool := rS F a || helB F b 0 a || helB F b 1 a
def rayL (F : RT) (b : BT) (wd : Nat) : Nat → Nat → List Nat
  | 0, _ => []
  | k + 1, q => match nxtO F (some q) wd with
    | none => []
    | some a => a :: (if stpB F b a = true then [] else rayL F b wd k a)
theorem rayL_none {F : RT} {b : BT} {wd k q : Nat} (h : nxtO F (some q) wd = none) : rayL F b wd (k + 1) q = [] := by rw [rayL, h]
theorem rayL_stop {F : RT} {b : BT} {wd k q a : Nat} (h : nxtO F (some q) wd = some a) (hs : stpB F b a = true) : rayL F b wd (k + 1) q = [a] := by rw [rayL, h]; simp [hs]
theorem rayL_go {F : RT} {b : BT} {wd k q a : Nat} (h : nxtO F (some q) wd = some a) (hs : stpB F b a = false) : rayL F b wd (k + 1) q = a :: rayL F b wd k a := by rw [rayL, h]; simp [hs]
theorem rayL_len {F : RT} {b : BT} {wd : Nat} : ∀ {k q : Nat}, (rayL F b wd k q).length ≤ k
  | 0, _ => Nat.le_refl _
  | k + 1, q => by
    rw [rayL]
    cases nxtO F (some q) wd with
    | none => exact Nat.zero_le _
    | some a =>
      show (a :: (if stpB F b a = true then [] else rayL F b wd k a)).length ≤ k + 1
      split
      · simp
      · rw [List.length_cons]; exact Nat.succ_le_succ rayL_len
def hopL (F : RT) (wd q : Nat) : List Nat :=
  (nxtO F (nxtO F (nxtO F (some q) wd) wd) ((wd + 3) % 4)).toList ++ (nxtO F (nxtO F (nxtO F (some q) wd) wd) ((wd + 1) % 4)).toList
def kinL (F : RT) (b : BT) (wd kd q : Nat) : List Nat := if kd = 2 then rayL F b wd 4 q else if kd = 3 then hopL F wd q else (nxtO F (some q) wd).toList
theorem toList_len {α : Type} (a : Option α) : a.toList.length ≤ 1 := by cases a <;> simp
theorem kinL_len {F : RT} {b : BT} {wd kd q : Nat} : (kinL F b wd kd q).length ≤ 4 := by
  unfold kinL hopL
  split
  · exact rayL_len
  · split
    · rw [List.length_append]
      have h1 := toList_len (nxtO F (nxtO F (nxtO F (some q) wd) wd) ((wd + 3) % 4))
      have h2 := toList_len (nxtO F (nxtO F (nxtO F (some q) wd) wd) ((wd + 1) % 4))
      omega
    · have h1 := toList_len (nxtO F (some q) wd)
      omega
def tgt (F : RT) (b : BT) (wd p i : Nat) : Bool := match bP b p with
  | none => false
  | some q => decide (1 ≤ bO b p) && (rSd F p == bM b) && decide (i ∈ kinL F b wd (rKd F p) q) && !rS F i && !helB F b (bM b) i
theorem or_bitO {x : Int32} {a : Option Nat} (h : ∀ q, a = some q → q < 25) {i : Nat} (hi : i < 32) : bt (x ||| bitO (oI a)) i = (bt x i || (a == some i)) := by rw [b_or, bitO_at h hi]
theorem and_bitO {x : Int32} {a : Nat} (h : a < 25) : (x &&& bitO (nI a)) = 0 ↔ bt x a = false := by
  have hb : ∀ i, i < 32 → bt (bitO (nI a)) i = (some a == some i) := fun i hi => bitO_at (a := some a) (by intro q hq; cases hq; exact h) hi
  rw [bt_zero]
  constructor
  · intro h1
    have := h1 a (by omega)
    rw [b_and, hb a (by omega)] at this
    simpa using this
  · intro h1 i hi
    rw [b_and, hb i hi]
    by_cases e : a = i
    · subst e; simp [h1]
    · simp [e]
theorem wd3 : ∀ w, w < 4 → (nI w + 3) &&& 3 = nI ((w + 3) % 4) := by decide +kernel
theorem wd1 : ∀ w, w < 4 → (nI w + 1) &&& 3 = nI ((w + 1) % 4) := by decide +kernel
theorem hel_at {I : Mem} {s : Nat} {F : RT} {b : BT} (hb : BR I s F b) {sd : Nat} (hs : sd < 2) {i : Nat} (hi : i < 32) {z : Int32} (hz : z = nI sd) : bt (if 0 ≤ z ∧ z < 2 then I (s + 3) z.toNatClampNeg else 0) i = helB F b sd i := by
  rw [hz, at6 (N := 2) 2 rfl (by decide) hs]
  exact hb.2.2 sd hs i hi
theorem c_X5_nextSquareE (n : Nat) (ρ : Rho) (I : Mem) (r wd : Nat) (F : RT) (a : Option Nat) (x z : Int32) (hn9 : n ≤ 999) (hrf : Rf n ρ r) (hrr : RR I r F) (hrw : RW F) (ha : ∀ q, a = some q → q < 25) (hwd : wd < 5) (hx : x = oI a) (hz : z = nI wd) : MI yX5_nextSquare cX5_nextSquare 4 (some .int) 0 [.ref r, .int x, .int z] n ρ I (fun v I1 => v = oI (nxtO F a wd) ∧ I = I1) := by
  subst hx hz
  exact c_X5_nextSquare n ρ I r wd F a hn9 hrf hrr hrw ha hwd
set_option maxHeartbeats 400000 in
theorem c_X8_run (n : Nat) (ρ : Rho) (I : Mem) (s r wd q0 : Nat) (F : RT) (b : BT) (x : Int32) (hn9 : n ≤ 999) (hst : St n ρ s) (hrf : Rf n ρ r) (hrr : RR I r F) (hrw : RW F) (hbr : BR I s F b) (hbw : BW F b) (hq0 : q0 < 25) (hwd : wd < 4) (hx : x = nI q0) : MI yX8_run cX8_run 8 (some .int) 1 [.ref s, .ref r, .int x, .int (nI wd)] n ρ I (fun v I1 => (∀ i, i < 32 → bt v i = decide (i ∈ rayL F b wd 4 q0)) ∧ I = I1) := by
  refine MG.of (by decide +kernel) (Nat.le_of_ble_eq_true rfl) hn9 ?_
  intro κ C hR
  show G κ n ρ 0 [(0, .ref s), (1, .ref r), (2, .int x), (3, .int (nI wd))] [] I
  obtain ⟨hs0, hs1, hs2, hs3, hsn, hr0, hr1, hr2⟩ := id hst
  obtain ⟨hq0, hq1, hq2, hq3, hqn, ht0, ht1, ht2⟩ := id hrf
  subst hx
  refine g_aload_n C (pc := 0) dX8_run_0 1 rfl ?_
  refine g_getI C (pc := 1) fl_RX8_64 (by decide) (by first | assumption | rfl | omega) (by first | assumption | rfl | omega) dX8_run_1 ?_
  refine g_aload_n C (pc := 4) dX8_run_4 0 rfl ?_
  refine g_iconst C (pc := 5) 0 dX8_run_5 (by decide) ?_
  refine g_callVI C (pc := 6) mf_X8_heldBy lk_RX8_67 (c_X8_heldBy n ρ _ _ _ hn9 (by first | assumption | rfl)) (by decide) (Nat.le_refl _) rfl (by first | assumption | rfl | omega) rfl (by first | assumption | rfl | omega) (Nat.le_of_ble_eq_true rfl) dX8_run_6 (fun v6 I6 h6 => ?_)
  obtain ⟨e6, rfl⟩ := h6
  refine g_ior C (pc := 9) dX8_run_9 ?_
  refine g_aload_n C (pc := 10) dX8_run_10 0 rfl ?_
  refine g_iconst C (pc := 11) 1 dX8_run_11 (by decide) ?_
  refine g_callVI C (pc := 12) mf_X8_heldBy lk_RX8_67 (c_X8_heldBy n ρ _ _ _ hn9 (by first | assumption | rfl)) (by decide) (Nat.le_refl _) rfl (by first | assumption | rfl | omega) rfl (by first | assumption | rfl | omega) (Nat.le_of_ble_eq_true rfl) dX8_run_12 (fun v12 I12 h12 => ?_)
  obtain ⟨e12, rfl⟩ := h12
  refine g_ior C (pc := 15) dX8_run_15 ?_
  refine g_istore C (pc := 16) dX8_run_16 (by decide) (fun v16 => [(4, .int v16), (0, .ref s), (1, .ref r), (2, .int (nI q0)), (3, .int (nI wd))]) (fun _ => rfl) (fun v16 ev16 => ?_)
  refine g_iconst C (pc := 18) 0 dX8_run_18 (by decide) ?_
  refine g_istore C (pc := 19) dX8_run_19 (by decide) (fun v19 => [(5, .int v19), (4, .int v16), (0, .ref s), (1, .ref r), (2, .int (nI q0)), (3, .int (nI wd))]) (fun _ => rfl) (fun v19 ev19 => ?_)
  refine g_iload_n C (pc := 21) dX8_run_21 4 rfl ?_
  refine g_istore C (pc := 22) dX8_run_22 (by decide) (fun v22 => [(6, .int v22), (5, .int v19), (4, .int v16), (0, .ref s), (1, .ref r), (2, .int (nI q0)), (3, .int (nI wd))]) (fun _ => rfl) (fun v22 ev22 => ?_)
  refine g_iconst C (pc := 24) 1 dX8_run_24 (by decide) ?_
  refine g_istore C (pc := 25) dX8_run_25 (by decide) (fun v25 => [(7, .int v25), (6, .int v22), (5, .int v19), (4, .int v16), (0, .ref s), (1, .ref r), (2, .int (nI q0)), (3, .int (nI wd))]) (fun _ => rfl) (fun v25 ev25 => ?_)
  have L27 : ∀ (k9 : Nat) (j q : Nat) (V : List Nat) (wz7 : Int32) (wz6 : Int32) (wz5 : Int32) (wz4 : Int32) (hw7 : wz7 = nI (j + 1)) (hw6 : wz6 = nI q) (hq : q < 25) (hj : j ≤ 4) (hb5 : ∀ i, i < 32 → bt wz5 i = decide (i ∈ V)) (hb4 : ∀ i, i < 32 → bt wz4 i = stpB F b i) (hV : rayL F b wd 4 q0 = V ++ rayL F b wd (4 - j) q), 4 - j < k9 → G κ n ρ 27 [(7, .int wz7), (6, .int wz6), (5, .int wz5), (4, .int wz4), (0, .ref s), (1, .ref r), (3, .int (nI wd))] [] I := by
    intro k9
    induction k9 with
    | zero => intro j q V wz7 wz6 wz5 wz4 hw7 hw6 hq hj hb5 hb4 hV hm27; exact absurd hm27 (Nat.not_lt_zero _)
    | succ k9 ih27 =>
      intro j q V wz7 wz6 wz5 wz4 hw7 hw6 hq hj hb5 hb4 hV hm27
      subst hw7 hw6
      refine g_iload C (pc := 27) dX8_run_27 0 rfl ?_
      refine g_iconst C (pc := 29) 5 dX8_run_29 (by decide) ?_
      refine g_icmp_ge C (pc := 30) 79 dX8_run_30 (by decide) (fun c30 => ?_) (fun c30 => ?_)
      · rw [show (5 : Int32) = nI 5 from rfl, nI_leI (by decide) (by omega)] at c30
        refine g_iload C (pc := 79) dX8_run_79 2 rfl ?_
        refine g_iret C hR (pc := 81) rfl dX8_run_81 ?_
        refine ⟨rfl, _, rfl, ?_⟩
        refine ⟨fun i hi => ?_, rfl⟩
        have : j = 4 := by omega
        subst this
        rw [hb5 i hi, hV]; simp [rayL]
      · rw [show (5 : Int32) = nI 5 from rfl, nI_ltI (by omega) (by decide)] at c30
        refine g_aload_n C (pc := 33) dX8_run_33 5 rfl ?_
        refine g_iload C (pc := 34) dX8_run_34 1 rfl ?_
        refine g_iload_n C (pc := 36) dX8_run_36 6 rfl ?_
        refine g_callVI C (pc := 37) mf_X5_nextSquare lk_RX8_76 (c_X5_nextSquare n ρ I r wd F (some q) hn9 hrf hrr hrw (by intro z hz; cases hz; omega) (by omega)) (by decide) (Nat.le_refl _) rfl (by first | assumption | rfl | omega) rfl (by first | assumption | rfl | omega) (Nat.le_of_ble_eq_true rfl) dX8_run_37 (fun v37 I37 h37 => ?_)
        obtain ⟨e37, rfl⟩ := h37
        refine g_istore C (pc := 40) dX8_run_40 (by decide) (fun v40 => [(6, .int v40), (7, .int (nI (j + 1))), (5, .int wz5), (4, .int wz4), (0, .ref s), (1, .ref r), (3, .int (nI wd))]) (fun _ => rfl) (fun v40 ev40 => ?_)
        refine g_iload C (pc := 42) dX8_run_42 2 rfl ?_
        refine g_iload C (pc := 44) dX8_run_44 0 rfl ?_
        refine g_callSI C (pc := 46) mf_X5_bitOf lk_RX8_41 (c_X5_bitOf n ρ _ _ hn9) (by decide) (Nat.le_refl _) rfl (Nat.le_of_ble_eq_true rfl) dX8_run_46 (fun v46 I46 h46 => ?_)
        obtain ⟨e46, rfl⟩ := h46
        refine g_ior C (pc := 49) dX8_run_49 ?_
        refine g_istore C (pc := 50) dX8_run_50 (by decide) (fun v50 => [(5, .int v50), (6, .int v40), (7, .int (nI (j + 1))), (4, .int wz4), (0, .ref s), (1, .ref r), (3, .int (nI wd))]) (fun _ => rfl) (fun v50 ev50 => ?_)
        refine g_iload C (pc := 52) dX8_run_52 1 rfl ?_
        refine g_bipush C (pc := 54) (-4) dX8_run_54 (by decide) ?_
        refine g_icmp_eq C (pc := 56) 70 dX8_run_56 (by decide) (fun c56 => ?_) (fun c56 => ?_)
        · have ha : nxtO F (some q) wd = none := by
            rw [ev40, e37] at c56
            exact (oI_none (fun z hz => by have := nxtO_lt hrw hz; omega)).mp c56
          refine g_iload C (pc := 70) dX8_run_70 0 rfl ?_
          refine g_iret C hR (pc := 72) rfl dX8_run_72 ?_
          refine ⟨rfl, _, rfl, ?_⟩
          refine ⟨fun i hi => ?_, rfl⟩
          subst ev50
          rw [e46, ev40, e37, or_bitO (fun z hz => nxtO_lt hrw hz) hi, hb5 i hi, hV, show 4 - j = (3 - j) + 1 by omega]
          first | (rw [rayL_none ha, ha]; simp) | (rw [rayL_stop ha hst2, ha]; rw [Bool.eq_iff_iff]; simp; constructor <;> (rintro (h | h) <;> simp [h]))
        · obtain ⟨a, ha⟩ : ∃ a, nxtO F (some q) wd = some a := by
            cases h : nxtO F (some q) wd with
            | none => exact absurd (by rw [ev40, e37, h]; rfl) c56
            | some a => exact ⟨a, rfl⟩
          refine g_iload C (pc := 59) dX8_run_59 3 rfl ?_
          refine g_iload C (pc := 61) dX8_run_61 1 rfl ?_
          refine g_callSI C (pc := 63) mf_X5_bitOf lk_RX8_41 (c_X5_bitOf n ρ _ _ hn9) (by decide) (Nat.le_refl _) rfl (Nat.le_of_ble_eq_true rfl) dX8_run_63 (fun v63 I63 h63 => ?_)
          obtain ⟨e63, rfl⟩ := h63
          refine g_iand C (pc := 66) dX8_run_66 ?_
          refine g_if_eq C (pc := 67) 73 dX8_run_67 (by decide) (fun c67 => ?_) (fun c67 => ?_)
          · have hst2 : stpB F b a = false := by
              rw [e63, ev40, e37, ha] at c67
              rw [← hb4 a (by have := nxtO_lt hrw ha; omega)]
              exact (and_bitO (nxtO_lt hrw ha)).mp c67
            refine g_iinc C (pc := 73) (1) dX8_run_73 2 rfl (by decide) (by decide) (fun v73 => [(7, .int v73), (5, .int v50), (6, .int v40), (4, .int wz4), (0, .ref s), (1, .ref r), (3, .int (nI wd))]) (fun _ => rfl) (fun v73 ev73 => ?_)
            refine g_goto C (pc := 76) 27 dX8_run_76 (by decide) ?_
            refine g_lv C [0, 2, 1, 3, 4, 5, 6] rfl (ih27 (j + 1) a (V ++ [a]) _ _ _ _ ?_ ?_ ?_ ?_ ?_ ?_ ?_ (by omega))
            · subst ev73; exact nI_1 _
            · subst ev40; rw [e37, ha]; rfl
            · exact nxtO_lt hrw ha
            · omega
            · intro i hi; subst ev50; rw [e46, ev40, e37, or_bitO (fun z hz => nxtO_lt hrw hz) hi, hb5 i hi, ha]; simp; rw [Bool.eq_iff_iff]; simp; constructor <;> (rintro (h | h) <;> simp [h])
            · assumption
            · rw [hV, show 4 - j = (4 - (j + 1)) + 1 by omega, rayL_go ha hst2]; simp
          · have hst2 : stpB F b a = true := by
              rw [e63, ev40, e37, ha] at c67
              rw [← hb4 a (by have := nxtO_lt hrw ha; omega)]
              exact Bool.not_eq_false _ ▸ fun h => c67 ((and_bitO (nxtO_lt hrw ha)).mpr h)
            refine g_iload C (pc := 70) dX8_run_70 0 rfl ?_
            refine g_iret C hR (pc := 72) rfl dX8_run_72 ?_
            refine ⟨rfl, _, rfl, ?_⟩
            refine ⟨fun i hi => ?_, rfl⟩
            subst ev50
            rw [e46, ev40, e37, or_bitO (fun z hz => nxtO_lt hrw hz) hi, hb5 i hi, hV, show 4 - j = (3 - j) + 1 by omega]
            first | (rw [rayL_none ha, ha]; simp) | (rw [rayL_stop ha hst2, ha]; rw [Bool.eq_iff_iff]; simp; constructor <;> (rintro (h | h) <;> simp [h]))
  refine g_lv C [0, 1, 2, 3, 4, 5, 7] rfl (L27 (_ + 1) 0 q0 [] _ _ _ _ ?_ ?_ ?_ ?_ ?_ ?_ ?_ (by first | omega | exact Nat.lt_succ_self _))
  · subst ev25; rfl
  · subst ev22; rfl
  · omega
  · omega
  · intro i hi; subst ev19; rw [b_0]; rfl
  · intro i hi; subst ev16; simp only [b_or]; rw [e6, e12, hel_at (sd := 0) (z := 0) hbr (by decide) hi rfl, hel_at (sd := 1) (z := 1) hbr (by decide) hi rfl, hrr.2.2.2.1 i hi]; rfl
  · rfl
set_option maxHeartbeats 400000 in
theorem c_X8_hop (n : Nat) (ρ : Rho) (I : Mem) (s r wd q0 : Nat) (F : RT) (x : Int32) (hn9 : n ≤ 999) (hst : St n ρ s) (hrf : Rf n ρ r) (hrr : RR I r F) (hrw : RW F) (hq0 : q0 < 25) (hwd : wd < 4) (hx : x = nI q0) : MI yX8_hop cX8_hop 7 (some .int) 1 [.ref s, .ref r, .int x, .int (nI wd)] n ρ I (fun v I1 => (∀ i, i < 32 → bt v i = decide (i ∈ hopL F wd q0)) ∧ I = I1) := by
  refine MG.of (by decide +kernel) (Nat.le_of_ble_eq_true rfl) hn9 ?_
  intro κ C hR
  show G κ n ρ 0 [(0, .ref s), (1, .ref r), (2, .int x), (3, .int (nI wd))] [] I
  obtain ⟨hs0, hs1, hs2, hs3, hsn, hr0, hr1, hr2⟩ := id hst
  obtain ⟨hq0, hq1, hq2, hq3, hqn, ht0, ht1, ht2⟩ := id hrf
  subst hx
  refine g_aload_n C (pc := 0) dX8_hop_0 1 rfl ?_
  refine g_aload_n C (pc := 1) dX8_hop_1 1 rfl ?_
  refine g_iload_n C (pc := 2) dX8_hop_2 2 rfl ?_
  refine g_iload_n C (pc := 3) dX8_hop_3 3 rfl ?_
  refine g_callVI C (pc := 4) mf_X5_nextSquare lk_RX8_76 (c_X5_nextSquare n ρ I r wd F (some q0) hn9 hrf hrr hrw (by intro z hz; cases hz; omega) (by omega)) (by decide) (Nat.le_refl _) rfl (by first | assumption | rfl | omega) rfl (by first | assumption | rfl | omega) (Nat.le_of_ble_eq_true rfl) dX8_hop_4 (fun v4 I4 h4 => ?_)
  obtain ⟨rfl, rfl⟩ := h4
  refine g_iload_n C (pc := 7) dX8_hop_7 3 rfl ?_
  refine g_callVI C (pc := 8) mf_X5_nextSquare lk_RX8_76 (c_X5_nextSquare n ρ I r wd F (nxtO F (some q0) wd) hn9 hrf hrr hrw (fun z hz => nxtO_lt hrw hz) (by omega)) (by decide) (Nat.le_refl _) rfl (by first | assumption | rfl | omega) rfl (by first | assumption | rfl | omega) (Nat.le_of_ble_eq_true rfl) dX8_hop_8 (fun v8 I8 h8 => ?_)
  obtain ⟨rfl, rfl⟩ := h8
  refine g_istore C (pc := 11) dX8_hop_11 (by decide) (fun v11 => [(4, .int v11), (0, .ref s), (1, .ref r), (2, .int (nI q0)), (3, .int (nI wd))]) (fun _ => rfl) (fun v11 ev11 => ?_)
  refine g_aload_n C (pc := 13) dX8_hop_13 2 rfl ?_
  refine g_iload C (pc := 14) dX8_hop_14 0 rfl ?_
  refine g_iload_n C (pc := 16) dX8_hop_16 4 rfl ?_
  refine g_iconst C (pc := 17) 3 dX8_hop_17 (by decide) ?_
  refine g_iadd C (pc := 18) dX8_hop_18 ?_
  refine g_iconst C (pc := 19) 3 dX8_hop_19 (by decide) ?_
  refine g_iand C (pc := 20) dX8_hop_20 ?_
  refine g_callVI C (pc := 21) mf_X5_nextSquare lk_RX8_76 (c_X5_nextSquareE n ρ I r ((wd + 3) % 4) F (nxtO F (nxtO F (some q0) wd) wd) _ _ hn9 hrf hrr hrw (fun z hz => nxtO_lt hrw hz) (by omega) ev11 (wd3 wd hwd)) (by decide) (Nat.le_refl _) rfl (by first | assumption | rfl | omega) rfl (by first | assumption | rfl | omega) (Nat.le_of_ble_eq_true rfl) dX8_hop_21 (fun v21 I21 h21 => ?_)
  obtain ⟨e21, rfl⟩ := h21
  refine g_istore C (pc := 24) dX8_hop_24 (by decide) (fun v24 => [(5, .int v24), (4, .int v11), (0, .ref s), (1, .ref r), (2, .int (nI q0)), (3, .int (nI wd))]) (fun _ => rfl) (fun v24 ev24 => ?_)
  refine g_aload_n C (pc := 26) dX8_hop_26 3 rfl ?_
  refine g_iload C (pc := 27) dX8_hop_27 1 rfl ?_
  refine g_iload_n C (pc := 29) dX8_hop_29 5 rfl ?_
  refine g_iconst C (pc := 30) 1 dX8_hop_30 (by decide) ?_
  refine g_iadd C (pc := 31) dX8_hop_31 ?_
  refine g_iconst C (pc := 32) 3 dX8_hop_32 (by decide) ?_
  refine g_iand C (pc := 33) dX8_hop_33 ?_
  refine g_callVI C (pc := 34) mf_X5_nextSquare lk_RX8_76 (c_X5_nextSquareE n ρ I r ((wd + 1) % 4) F (nxtO F (nxtO F (some q0) wd) wd) _ _ hn9 hrf hrr hrw (fun z hz => nxtO_lt hrw hz) (by omega) ev11 (wd1 wd hwd)) (by decide) (Nat.le_refl _) rfl (by first | assumption | rfl | omega) rfl (by first | assumption | rfl | omega) (Nat.le_of_ble_eq_true rfl) dX8_hop_34 (fun v34 I34 h34 => ?_)
  obtain ⟨e34, rfl⟩ := h34
  refine g_istore C (pc := 37) dX8_hop_37 (by decide) (fun v37 => [(6, .int v37), (5, .int v24), (4, .int v11), (0, .ref s), (1, .ref r), (2, .int (nI q0)), (3, .int (nI wd))]) (fun _ => rfl) (fun v37 ev37 => ?_)
  refine g_iload C (pc := 39) dX8_hop_39 1 rfl ?_
  refine g_callSI C (pc := 41) mf_X5_bitOf lk_RX8_41 (c_X5_bitOf n ρ _ _ hn9) (by decide) (Nat.le_refl _) rfl (Nat.le_of_ble_eq_true rfl) dX8_hop_41 (fun v41 I41 h41 => ?_)
  obtain ⟨e41, rfl⟩ := h41
  refine g_iload C (pc := 44) dX8_hop_44 0 rfl ?_
  refine g_callSI C (pc := 46) mf_X5_bitOf lk_RX8_41 (c_X5_bitOf n ρ _ _ hn9) (by decide) (Nat.le_refl _) rfl (Nat.le_of_ble_eq_true rfl) dX8_hop_46 (fun v46 I46 h46 => ?_)
  obtain ⟨e46, rfl⟩ := h46
  refine g_ior C (pc := 49) dX8_hop_49 ?_
  refine g_iret C hR (pc := 50) rfl dX8_hop_50 ?_
  refine ⟨rfl, _, rfl, ?_⟩
  refine ⟨fun i hi => ?_, rfl⟩
  rw [e41, e46, ev24, ev37, e21, e34, or_bitO (fun z hz => nxtO_lt hrw hz) hi, bitO_at (fun z hz => nxtO_lt hrw hz) hi, hopL]
  simp only [List.mem_append, Option.mem_toList, Bool.decide_or]
  congr 1 <;> (rw [Bool.eq_iff_iff]; simp)
set_option maxHeartbeats 400000 in
theorem c_X8_targets (n : Nat) (ρ : Rho) (I : Mem) (s r wd p : Nat) (F : RT) (b : BT) (hn9 : n ≤ 999) (hst : St n ρ s) (hrf : Rf n ρ r) (hrr : RR I r F) (hrw : RW F) (hbr : BR I s F b) (hbw : BW F b) (hp : p < rN F) (hwd : wd < 4) : MI yX8_targets cX8_targets 6 (some .int) 2 [.ref s, .ref r, .int (nI p), .int (nI wd)] n ρ I (fun v I1 => (∀ i, i < 32 → bt v i = tgt F b wd p i) ∧ I = I1) := by
  refine MG.of (by decide +kernel) (Nat.le_of_ble_eq_true rfl) hn9 ?_
  intro κ C hR
  show G κ n ρ 0 [(0, .ref s), (1, .ref r), (2, .int (nI p)), (3, .int (nI wd))] [] I
  obtain ⟨hs0, hs1, hs2, hs3, hsn, hr0, hr1, hr2⟩ := id hst
  obtain ⟨hq0, hq1, hq2, hq3, hqn, ht0, ht1, ht2⟩ := id hrf
  have hnp : rN F ≤ 6 := hrw.2.2.2.2.1
  have hN := hrr.2.2.1
  have hp6 : p < 6 := by omega
  have hpl := (hbr.2.1 p hp).1
  have hoi := (hbr.2.1 p hp).2
  have hsd := (hrr.2.2.2.2.1 p hp).1
  have hkd := (hrr.2.2.2.2.1 p hp).2
  have hsd2 := (hrw.2.2.2.2.2.1 p hp).1
  have hkd4 := (hrw.2.2.2.2.2.1 p hp).2
  have hmv := hbr.1
  have hmv2 := hbw.1
  have hoi9 := (hbw.2.1 p hp).2
  refine g_aload_n C (pc := 0) dX8_targets_0 0 rfl ?_
  refine g_iload_n C (pc := 1) dX8_targets_1 2 rfl ?_
  refine g_callVI C (pc := 2) mf_X8_placeOf lk_RX8_47 (c_X8_placeOf n ρ _ _ _ hn9 (by first | assumption | rfl)) (by decide) (Nat.le_refl _) rfl (by first | assumption | rfl | omega) rfl (by first | assumption | rfl | omega) (Nat.le_of_ble_eq_true rfl) dX8_targets_2 (fun v2 I2 h2 => ?_)
  obtain ⟨e2, rfl⟩ := h2
  rw [e2, at6 (N := 6) 6 rfl (by decide) hp6, hpl]
  refine g_istore C (pc := 5) dX8_targets_5 (by decide) (fun v5 => [(4, .int v5), (0, .ref s), (1, .ref r), (2, .int (nI p)), (3, .int (nI wd))]) (fun _ => rfl) (fun v5 ev5 => ?_)
  refine g_iload C (pc := 7) dX8_targets_7 0 rfl ?_
  refine g_bipush C (pc := 9) (-4) dX8_targets_9 (by decide) ?_
  refine g_icmp_eq C (pc := 11) 35 dX8_targets_11 (by decide) (fun c11 => ?_) (fun c11 => ?_)
  · have hz : ∀ i, tgt F b wd p i = false := by
      intro i
      have h := (oI_none (pl_lt hbw hp)).mp (by rw [ev5] at c11; exact c11)
      unfold tgt; rw [h]
    refine g_iconst C (pc := 35) 0 dX8_targets_35 (by decide) ?_
    refine g_iret C hR (pc := 36) rfl dX8_targets_36 ?_
    refine ⟨rfl, _, rfl, ?_⟩
    exact ⟨fun i hi => by rw [b_0, hz], rfl⟩
  · obtain ⟨q, hq⟩ : ∃ q, bP b p = some q := by
      cases h : bP b p with
      | none => exact absurd (by rw [ev5, h]; rfl) c11
      | some q => exact ⟨q, rfl⟩
    refine g_aload_n C (pc := 14) dX8_targets_14 1 rfl ?_
    refine g_iload_n C (pc := 15) dX8_targets_15 3 rfl ?_
    refine g_callVI C (pc := 16) mf_X8_oilOf lk_RX8_53 (c_X8_oilOf n ρ _ _ _ hn9 (by first | assumption | rfl)) (by decide) (Nat.le_refl _) rfl (by first | assumption | rfl | omega) rfl (by first | assumption | rfl | omega) (Nat.le_of_ble_eq_true rfl) dX8_targets_16 (fun v16 I16 h16 => ?_)
    obtain ⟨e16, rfl⟩ := h16
    refine g_iconst C (pc := 19) 1 dX8_targets_19 (by decide) ?_
    refine g_icmp_lt C (pc := 20) 35 dX8_targets_20 (by decide) (fun c20 => ?_) (fun c20 => ?_)
    · have hz : ∀ i, tgt F b wd p i = false := by
        intro i
        rw [e16, at6 (N := 6) 6 rfl (by decide) hp6, hoi, show (1 : Int32) = nI 1 from rfl, nI_ltI (by omega) (by decide)] at c20
        unfold tgt; rw [hq]; simp [show ¬ 1 ≤ bO b p by omega]
      refine g_iconst C (pc := 35) 0 dX8_targets_35 (by decide) ?_
      refine g_iret C hR (pc := 36) rfl dX8_targets_36 ?_
      refine ⟨rfl, _, rfl, ?_⟩
      exact ⟨fun i hi => by rw [b_0, hz], rfl⟩
    · have ho1 : 1 ≤ bO b p := by
        rw [e16, at6 (N := 6) 6 rfl (by decide) hp6, hoi, show (1 : Int32) = nI 1 from rfl, nI_leI (by decide) (by omega)] at c20
        exact c20
      refine g_aload_n C (pc := 23) dX8_targets_23 2 rfl ?_
      refine g_iload_n C (pc := 24) dX8_targets_24 3 rfl ?_
      refine g_callVI C (pc := 25) mf_X5_sideOf lk_RX8_31 (c_X5_sideOf n ρ _ _ _ hn9 (by first | assumption | rfl)) (by decide) (Nat.le_refl _) rfl (by first | assumption | rfl | omega) rfl (by first | assumption | rfl | omega) (Nat.le_of_ble_eq_true rfl) dX8_targets_25 (fun v25 I25 h25 => ?_)
      obtain ⟨e25, rfl⟩ := h25
      refine g_aload_n C (pc := 28) dX8_targets_28 1 rfl ?_
      refine g_getI C (pc := 29) fl_RX8_21 (by decide) (by first | assumption | rfl | omega) (by first | assumption | rfl | omega) dX8_targets_29 ?_
      refine g_icmp_eq C (pc := 32) 37 dX8_targets_32 (by decide) (fun c32 => ?_) (fun c32 => ?_)
      · have hsm : rSd F p = bM b := by
          rw [e25, hN, at66 hnp hp, hsd, hmv] at c32
          exact (nI_eq (by omega) (by omega)).mp c32
        refine g_aload_n C (pc := 37) dX8_targets_37 2 rfl ?_
        refine g_getI C (pc := 38) fl_RX8_64 (by decide) (by first | assumption | rfl | omega) (by first | assumption | rfl | omega) dX8_targets_38 ?_
        refine g_aload_n C (pc := 41) dX8_targets_41 1 rfl ?_
        refine g_aload_n C (pc := 42) dX8_targets_42 1 rfl ?_
        refine g_getI C (pc := 43) fl_RX8_21 (by decide) (by first | assumption | rfl | omega) (by first | assumption | rfl | omega) dX8_targets_43 ?_
        refine g_callVI C (pc := 46) mf_X8_heldBy lk_RX8_67 (c_X8_heldBy n ρ _ _ _ hn9 (by first | assumption | rfl)) (by decide) (Nat.le_refl _) rfl (by first | assumption | rfl | omega) rfl (by first | assumption | rfl | omega) (Nat.le_of_ble_eq_true rfl) dX8_targets_46 (fun v46 I46 h46 => ?_)
        obtain ⟨e46, rfl⟩ := h46
        refine g_ior C (pc := 49) dX8_targets_49 ?_
        refine g_iconst C (pc := 50) (-1) dX8_targets_50 (by decide) ?_
        refine g_ixor C (pc := 51) dX8_targets_51 ?_
        refine g_istore C (pc := 52) dX8_targets_52 (by decide) (fun v52 => [(5, .int v52), (4, .int v5), (0, .ref s), (1, .ref r), (2, .int (nI p)), (3, .int (nI wd))]) (fun _ => rfl) (fun v52 ev52 => ?_)
        have hopen : ∀ i, i < 32 → bt v52 i = (!rS F i && !helB F b (bM b) i) := by
          intro i hi
          rw [ev52, b_xor, b_or, b_m1 i hi, hrr.2.2.2.1 i hi, e46, hel_at hbr hmv2 hi hmv]
          simp
        refine g_aload_n C (pc := 54) dX8_targets_54 3 rfl ?_
        refine g_iload_n C (pc := 55) dX8_targets_55 4 rfl ?_
        refine g_callVI C (pc := 56) mf_X5_kindOf lk_RX8_50 (c_X5_kindOf n ρ _ _ _ hn9 (by first | assumption | rfl)) (by decide) (Nat.le_refl _) rfl (by first | assumption | rfl | omega) rfl (by first | assumption | rfl | omega) (Nat.le_of_ble_eq_true rfl) dX8_targets_56 (fun v56 I56 h56 => ?_)
        obtain ⟨e56, rfl⟩ := h56
        refine g_lsw2 C (pc := 59) (a := 2) (b := 3) dX8_targets_59 (by decide) (by decide) (by decide) (by decide) (by decide) (by decide) (fun c59_2 => ?_) (fun c59_3 => ?_) (fun c59_d c59_e => ?_)
        · show G κ n ρ 84 _ _ _
          have hk2 : rKd F p = 2 := by
            rw [e56, hN, at66 hnp hp, hkd] at c59_2
            exact (nI_eq (by omega) (by decide)).mp c59_2
          refine g_iload C (pc := 84) dX8_targets_84 0 rfl ?_
          refine g_aload_n C (pc := 86) dX8_targets_86 2 rfl ?_
          refine g_aload_n C (pc := 87) dX8_targets_87 3 rfl ?_
          refine g_iload C (pc := 88) dX8_targets_88 1 rfl ?_
          refine g_iload_n C (pc := 90) dX8_targets_90 5 rfl ?_
          refine g_callVI C (pc := 91) mf_X8_run lk_RX8_70 (c_X8_run n ρ I s r wd q F b _ hn9 hst hrf hrr hrw hbr hbw ((hbw.2.1 p hp).1 q hq) hwd (by rw [ev5, hq]; rfl)) (by decide) (Nat.le_refl _) rfl (by first | assumption | rfl | omega) rfl (by first | assumption | rfl | omega) (Nat.le_of_ble_eq_true rfl) dX8_targets_91 (fun v91 I91 h91 => ?_)
          obtain ⟨e91, rfl⟩ := h91
          refine g_iand C (pc := 94) dX8_targets_94 ?_
          refine g_iret C hR (pc := 95) rfl dX8_targets_95 ?_
          refine ⟨rfl, _, rfl, ?_⟩
          refine ⟨fun i hi => ?_, rfl⟩
          rw [b_and, hopen i hi, e91 i hi]
          unfold tgt
          rw [hq]
          simp only [kinL, hk2, if_pos]
          rw [decide_eq_true ho1, hsm]
          simp only [beq_self_eq_true, Bool.true_and]
          rw [Bool.and_comm, Bool.and_assoc]
        · show G κ n ρ 96 _ _ _
          have hk2 : rKd F p = 3 := by
            rw [e56, hN, at66 hnp hp, hkd] at c59_3
            exact (nI_eq (by omega) (by decide)).mp c59_3
          refine g_iload C (pc := 96) dX8_targets_96 0 rfl ?_
          refine g_aload_n C (pc := 98) dX8_targets_98 2 rfl ?_
          refine g_aload_n C (pc := 99) dX8_targets_99 3 rfl ?_
          refine g_iload C (pc := 100) dX8_targets_100 1 rfl ?_
          refine g_iload_n C (pc := 102) dX8_targets_102 5 rfl ?_
          refine g_callVI C (pc := 103) mf_X8_hop lk_RX8_73 (c_X8_hop n ρ I s r wd q F _ hn9 hst hrf hrr hrw ((hbw.2.1 p hp).1 q hq) hwd (by rw [ev5, hq]; rfl)) (by decide) (Nat.le_refl _) rfl (by first | assumption | rfl | omega) rfl (by first | assumption | rfl | omega) (Nat.le_of_ble_eq_true rfl) dX8_targets_103 (fun v103 I103 h103 => ?_)
          obtain ⟨e103, rfl⟩ := h103
          refine g_iand C (pc := 106) dX8_targets_106 ?_
          refine g_iret C hR (pc := 107) rfl dX8_targets_107 ?_
          refine ⟨rfl, _, rfl, ?_⟩
          refine ⟨fun i hi => ?_, rfl⟩
          rw [b_and, hopen i hi, e103 i hi]
          unfold tgt
          rw [hq]
          simp only [kinL, hk2, if_pos, if_neg (show ¬ (3 = 2) by decide)]
          rw [decide_eq_true ho1, hsm]
          simp only [beq_self_eq_true, Bool.true_and]
          rw [Bool.and_comm, Bool.and_assoc]
        · show G κ n ρ 108 _ _ _
          have hk2 : rKd F p ≠ 2 := by
            intro h
            exact c59_d (by rw [e56, hN, at66 hnp hp, hkd, h]; rfl)
          have hk3 : rKd F p ≠ 3 := by
            intro h
            exact c59_e (by rw [e56, hN, at66 hnp hp, hkd, h]; rfl)
          refine g_iload C (pc := 108) dX8_targets_108 0 rfl ?_
          refine g_aload_n C (pc := 110) dX8_targets_110 3 rfl ?_
          refine g_iload C (pc := 111) dX8_targets_111 1 rfl ?_
          refine g_iload_n C (pc := 113) dX8_targets_113 5 rfl ?_
          refine g_callVI C (pc := 114) mf_X5_nextSquare lk_RX8_76 (c_X5_nextSquareE n ρ I r wd F (some q) _ _ hn9 hrf hrr hrw (by intro z hz; cases hz; exact (hbw.2.1 p hp).1 q hq) (by omega) (by rw [ev5, hq]) rfl) (by decide) (Nat.le_refl _) rfl (by first | assumption | rfl | omega) rfl (by first | assumption | rfl | omega) (Nat.le_of_ble_eq_true rfl) dX8_targets_114 (fun v114 I114 h114 => ?_)
          obtain ⟨e114, rfl⟩ := h114
          refine g_callSI C (pc := 117) mf_X5_bitOf lk_RX8_41 (c_X5_bitOf n ρ _ _ hn9) (by decide) (Nat.le_refl _) rfl (Nat.le_of_ble_eq_true rfl) dX8_targets_117 (fun v117 I117 h117 => ?_)
          obtain ⟨e117, rfl⟩ := h117
          refine g_iand C (pc := 120) dX8_targets_120 ?_
          refine g_iret C hR (pc := 121) rfl dX8_targets_121 ?_
          refine ⟨rfl, _, rfl, ?_⟩
          refine ⟨fun i hi => ?_, rfl⟩
          rw [b_and, hopen i hi, e117, e114, bitO_at (fun z hz => nxtO_lt hrw hz) hi]
          unfold tgt
          rw [hq]
          simp only [kinL, if_neg hk2, if_neg hk3]
          rw [decide_eq_true ho1, hsm]
          simp only [beq_self_eq_true, Bool.true_and]
          rw [Bool.and_comm, Bool.and_assoc]
          congr 2; rw [Bool.eq_iff_iff]; simp
      · have hz : ∀ i, tgt F b wd p i = false := by
          intro i
          rw [e25, hN, at66 hnp hp, hsd, hmv] at c32
          unfold tgt; rw [hq]; simp [show ¬ rSd F p = bM b from fun h => c32 (by rw [h])]
        refine g_iconst C (pc := 35) 0 dX8_targets_35 (by decide) ?_
        refine g_iret C hR (pc := 36) rfl dX8_targets_36 ?_
        refine ⟨rfl, _, rfl, ?_⟩
        exact ⟨fun i hi => by rw [b_0, hz], rfl⟩
