theorem flen1 (a : Nat) : ∀ k, ((List.range k).filter (fun i => decide (i = a))).length ≤ if a < k then 1 else 0
  | 0 => by simp
  | k + 1 => by
    have h := flen1 a k
    rw [List.range_succ, List.filter_append, List.length_append]
    by_cases e : k = a
    · subst e
      rw [if_neg (Nat.lt_irrefl _)] at h
      rw [if_pos (Nat.lt_succ_self k)]
      have : ([k].filter (fun i => decide (i = k))).length = 1 := by simp
      omega
    · have : ([k].filter (fun i => decide (i = a))).length = 0 := by simp [e]
      rw [this]
      by_cases e2 : a < k
      · rw [if_pos e2] at h; rw [if_pos (by omega)]; omega
      · rw [if_neg e2] at h; rw [if_neg (by omega)]; omega
theorem flenA (P Q R : Nat → Bool) (h : ∀ i, P i = true → Q i = true ∨ R i = true) : ∀ l : List Nat, (l.filter P).length ≤ (l.filter Q).length + (l.filter R).length
  | [] => by simp
  | x :: l => by
    have ih := flenA P Q R h l
    have hx := h x
    simp only [List.filter_cons]
    cases hp : P x <;> cases hq : Q x <;> cases hr : R x <;> simp_all <;> omega
theorem flen : ∀ (L : List Nat) (k : Nat), ((List.range k).filter (fun i => decide (i ∈ L))).length ≤ L.length
  | [], k => by simp
  | a :: L, k => by
    have h1 := flenA (fun i => decide (i ∈ a :: L)) (fun i => decide (i = a)) (fun i => decide (i ∈ L)) (fun i h => by simpa using h) (List.range k)
    have h2 := flen1 a k
    have h3 := flen L k
    have h4 : (if a < k then 1 else 0) ≤ 1 := by split <;> omega
    rw [List.length_cons]
    omega
theorem flenP {P : Nat → Bool} {L : List Nat} (h : ∀ i, P i = true → i ∈ L) (k : Nat) : ((List.range k).filter P).length ≤ L.length := by
  have h1 := flenA P (fun i => decide (i ∈ L)) (fun _ => false) (fun i hi => Or.inl (by simpa using h i hi)) (List.range k)
  have h2 := flen L k
  have h0 : ((List.range k).filter (fun _ => false)).length = 0 := by simp
  omega
def mvsP (F : RT) (b : BT) (wd p k : Nat) : List Nat := ((List.range k).filter (tgt F b wd p)).map (fun i => 100 * p + i)
def mvsJ (F : RT) (b : BT) (wd : Nat) : Nat → List Nat
  | 0 => []
  | j + 1 => mvsJ F b wd j ++ mvsP F b wd j 25
/-- the MOVES by a wind -/
def mvs (F : RT) (b : BT) (wd : Nat) : List Nat := if wd = 4 ∨ lostP F b ≠ none then [] else mvsJ F b wd (rN F)
theorem mvsP_succ {F : RT} {b : BT} {wd p k : Nat} : mvsP F b wd p (k + 1) = mvsP F b wd p k ++ (if tgt F b wd p k = true then [100 * p + k] else []) := by
  unfold mvsP
  rw [List.range_succ, List.filter_append, List.map_append]
  congr 1
  by_cases h : tgt F b wd p k = true
  · simp [h]
  · simp [h]
theorem mvsP_len {F : RT} {b : BT} {wd p k : Nat} : (mvsP F b wd p k).length ≤ 4 := by
  unfold mvsP
  rw [List.length_map]
  cases h : bP b p with
  | none =>
    have : ∀ i, tgt F b wd p i = false := fun i => by unfold tgt; rw [h]
    rw [List.filter_eq_nil_iff.mpr (fun i _ => by rw [this i]; decide)]
    exact Nat.zero_le _
  | some q =>
    refine Nat.le_trans (flenP (L := kinL F b wd (rKd F p) q) (fun i hi => ?_) k) kinL_len
    unfold tgt at hi
    rw [h] at hi
    simp only [Bool.and_eq_true, decide_eq_true_eq] at hi
    exact hi.1.1.2
theorem mvsJ_len {F : RT} {b : BT} {wd : Nat} : ∀ {j : Nat}, (mvsJ F b wd j).length ≤ 4 * j
  | 0 => Nat.le_refl _
  | j + 1 => by
    rw [mvsJ, List.length_append]
    have h1 := mvsJ_len (F := F) (b := b) (wd := wd) (j := j)
    have h2 := mvsP_len (F := F) (b := b) (wd := wd) (p := j) (k := 25)
    omega
theorem mvsP_end {F : RT} {b : BT} {wd p k : Nat} (hk : k ≤ 25) (h : ∀ i, k ≤ i → i < 25 → tgt F b wd p i = false) : mvsP F b wd p k = mvsP F b wd p 25 := by
  have : ∀ m, k + m ≤ 25 → mvsP F b wd p (k + m) = mvsP F b wd p k := by
    intro m
    induction m with
    | zero => intro _; rfl
    | succ m ih =>
      intro hm
      rw [← Nat.add_assoc, mvsP_succ, h (k + m) (by omega) (by omega), ih (by omega)]
      simp
  have h2 := this (25 - k) (by omega)
  rw [← h2, show k + (25 - k) = 25 by omega]
theorem get_push {α : Type} {L : List α} {x m : α} {k : Nat} (h : (L ++ [x])[k]? = some m) : (k < L.length ∧ L[k]? = some m) ∨ (k = L.length ∧ m = x) := by
  by_cases hk : k < L.length
  · rw [List.getElem?_append_left hk] at h; exact Or.inl ⟨hk, h⟩
  · rw [List.getElem?_append_right (by omega)] at h
    right
    have hz : k - L.length < 1 := by
      have := (List.getElem?_eq_some_iff.mp h).1
      simpa using this
    have e : k = L.length := by omega
    subst e
    simp at h
    exact ⟨rfl, h.symm⟩
theorem and_1 {x : Int32} : (x &&& 1) = 0 ↔ bt x 0 = false := by
  have h1 : ∀ k, k < 32 → bt 1 k = decide (k = 0) := by decide +kernel
  rw [bt_zero]
  constructor
  · intro h
    have := h 0 (by decide)
    rw [b_and, h1 0 (by decide)] at this
    simpa using this
  · intro h i hi
    rw [b_and, h1 i hi]
    by_cases e : i = 0
    · subst e; simp [h]
    · simp [e]
theorem RR.cong {I I' : Mem} {r : Nat} {F : RT} (h : RR I r F) (e : ∀ i, i ≤ 3 → I' (r + i) = I (r + i)) : RR I' r F := by
  have e0 : I' r = I r := e 0 (by decide)
  unfold RR
  rw [e0, e 1 (by decide), e 2 (by decide), e 3 (by decide)]
  exact h
theorem BR.cong {I I' : Mem} {s : Nat} {F : RT} {b : BT} (h : BR I s F b) (e : ∀ i, i ≤ 3 → I' (s + i) = I (s + i)) : BR I' s F b := by
  have e0 : I' s = I s := e 0 (by decide)
  unfold BR
  rw [e0, e 1 (by decide), e 2 (by decide), e 3 (by decide)]
  exact h
theorem push_at {J : Mem} {t x : Nat} {A B : List Nat} {v j : Int32} (hC : ∀ k m, (A ++ B)[k]? = some m → J t k = nI m) (hv : v = nI x) (hj : j.toNatClampNeg = A.length + B.length) {k m : Nat} (h : (A ++ (B ++ (if true = true then [x] else [])))[k]? = some m) : wr J t j.toNatClampNeg v t k = nI m := by
  rw [if_pos rfl, ← List.append_assoc] at h
  rw [hj]
  rcases get_push h with ⟨h1, h2⟩ | ⟨h1, h2⟩
  · rw [List.length_append] at h1
    rw [wr_sn (by omega)]
    exact hC k m h2
  · rw [List.length_append] at h1
    subst h1; subst h2
    rw [wr_ss, hv]
set_option maxHeartbeats 400000 in
theorem c_X8_listMoves (n : Nat) (ρ : Rho) (I : Mem) (s r wd t : Nat) (F : RT) (b : BT) (hn9 : n ≤ 999) (hst : St n ρ s) (hrf : Rf n ρ r) (hrr : RR I r F) (hrw : RW F) (hbr : BR I s F b) (hbw : BW F b) (hwd : wd < 5) (hts : shp t = (0, 24)) (htn : t < n) (htd : ∀ i, i ≤ 3 → t ≠ s + i ∧ t ≠ r + i) : MI yX8_listMoves cX8_listMoves 8 (some .int) 3 [.ref s, .ref r, .int (nI wd), .ref t] n ρ I (fun v I1 => v = nI (mvs F b wd).length ∧ (∀ k m, (mvs F b wd)[k]? = some m → I1 t k = nI m) ∧ ∀ i, i ≠ t → I1 i = I i) := by
  refine MG.of (by decide +kernel) (Nat.le_of_ble_eq_true rfl) hn9 ?_
  intro κ C hR
  show G κ n ρ 0 [(0, .ref s), (1, .ref r), (2, .int (nI wd)), (3, .ref t)] [] I
  obtain ⟨hs0, hs1, hs2, hs3, hsn, hr0, hr1, hr2⟩ := id hst
  obtain ⟨hq0, hq1, hq2, hq3, hqn, ht0, ht1, ht2⟩ := id hrf
  have hnp : rN F ≤ 6 := hrw.2.2.2.2.1
  refine g_iload_n C (pc := 0) dX8_listMoves_0 2 rfl ?_
  refine g_iconst C (pc := 1) 4 dX8_listMoves_1 (by decide) ?_
  refine g_icmp_eq C (pc := 2) 15 dX8_listMoves_2 (by decide) (fun c2 => ?_) (fun c2 => ?_)
  · have hmv : mvs F b wd = [] := by
      unfold mvs
      rw [if_pos (Or.inl ((nI_eq (by omega) (by decide)).mp c2))]
    refine g_iconst C (pc := 15) 0 dX8_listMoves_15 (by decide) ?_
    refine g_iret C hR (pc := 16) rfl dX8_listMoves_16 ?_
    refine ⟨rfl, _, rfl, ?_⟩
    rw [hmv]; exact ⟨rfl, fun k m h => by simp at h, fun i _ => rfl⟩
  · have hwd4 : wd < 4 := by
      have : wd ≠ 4 := fun h => c2 (by rw [h]; rfl)
      omega
    refine g_aload_n C (pc := 5) dX8_listMoves_5 0 rfl ?_
    refine g_aload_n C (pc := 6) dX8_listMoves_6 1 rfl ?_
    have hlr := lost_raw hrr hrw hbr hbw
    refine g_callVI C (pc := 7) mf_X8_lostSide lk_RX8_56 (c_X8_lostSide n ρ I s r (rN F) hn9 hst hrf hrr.2.2.1 hrw.2.2.2.2.1) (by decide) (Nat.le_refl _) rfl (by first | assumption | rfl | omega) rfl (by first | assumption | rfl | omega) (Nat.le_of_ble_eq_true rfl) dX8_listMoves_7 (fun v7 I7 h7 => ?_)
    obtain ⟨e7, rfl⟩ := h7
    refine g_bipush C (pc := 10) (-4) dX8_listMoves_10 (by decide) ?_
    refine g_icmp_eq C (pc := 12) 17 dX8_listMoves_12 (by decide) (fun c12 => ?_) (fun c12 => ?_)
    · have hno : lostP F b = none := by
        rw [e7, hlr] at c12
        cases h : lostP F b with
        | none => rfl
        | some p =>
          rw [h] at c12
          have hp := (findP_spec h).1
          exact absurd (show I (r + 1) p = -4 from c12) (by rw [(hrr.2.2.2.2.1 p hp).1]; exact nI_ne4 (by have := (hrw.2.2.2.2.2.1 p hp).1; omega))
      refine g_iconst C (pc := 17) 0 dX8_listMoves_17 (by decide) ?_
      refine g_istore C (pc := 18) dX8_listMoves_18 (by decide) (fun v18 => [(4, .int v18), (0, .ref s), (1, .ref r), (2, .int (nI wd)), (3, .ref t)]) (fun _ => rfl) (fun v18 ev18 => ?_)
      refine g_iconst C (pc := 20) 0 dX8_listMoves_20 (by decide) ?_
      refine g_istore C (pc := 21) dX8_listMoves_21 (by decide) (fun v21 => [(5, .int v21), (4, .int v18), (0, .ref s), (1, .ref r), (2, .int (nI wd)), (3, .ref t)]) (fun _ => rfl) (fun v21 ev21 => ?_)
      have L23 : ∀ (k9 : Nat) (j : Nat) (wz5 : Int32) (wz4 : Int32) (J : Mem) (hw5 : wz5 = nI j) (hw4 : wz4 = nI (mvsJ F b wd j).length) (hj : j ≤ rN F) (hJ : ∀ i, i ≠ t → J i = I i) (hC : ∀ k m, (mvsJ F b wd j)[k]? = some m → J t k = nI m), rN F - j < k9 → G κ n ρ 23 [(5, .int wz5), (4, .int wz4), (0, .ref s), (1, .ref r), (2, .int (nI wd)), (3, .ref t)] [] J := by
        intro k9
        induction k9 with
        | zero => intro j wz5 wz4 J hw5 hw4 hj hJ hC hm23; exact absurd hm23 (Nat.not_lt_zero _)
        | succ k9 ih23 =>
          intro j wz5 wz4 J hw5 hw4 hj hJ hC hm23
          subst hw5 hw4
          have hrrJ : RR J r F := (hrr.cong (fun i hi => by rw [hJ _ (fun h => (htd i hi).2 h.symm)]))
          have hbrJ : BR J s F b := (hbr.cong (fun i hi => by rw [hJ _ (fun h => (htd i hi).1 h.symm)]))
          have hNJ := hrrJ.2.2.1
          have hlen := mvsJ_len (F := F) (b := b) (wd := wd) (j := j)
          refine g_iload C (pc := 23) dX8_listMoves_23 0 rfl ?_
          refine g_aload_n C (pc := 25) dX8_listMoves_25 3 rfl ?_
          refine g_getI C (pc := 26) fl_RX8_44 (by decide) (by first | assumption | rfl | omega) (by first | assumption | rfl | omega) dX8_listMoves_26 ?_
          refine g_icmp_ge C (pc := 29) 104 dX8_listMoves_29 (by decide) (fun c29 => ?_) (fun c29 => ?_)
          · rw [hNJ, nI_leI (by omega) (by omega)] at c29
            refine g_iload C (pc := 104) dX8_listMoves_104 1 rfl ?_
            refine g_iret C hR (pc := 106) rfl dX8_listMoves_106 ?_
            refine ⟨rfl, _, rfl, ?_⟩
            have hjn : j = rN F := by omega
            subst hjn
            have hmv : mvs F b wd = mvsJ F b wd (rN F) := by
              unfold mvs
              rw [if_neg (by rintro (h | h); omega; exact h hno)]
            rw [hmv]; exact ⟨rfl, hC, hJ⟩
          · rw [hNJ, nI_ltI (by omega) (by omega)] at c29
            refine g_aload_n C (pc := 32) dX8_listMoves_32 2 rfl ?_
            refine g_aload_n C (pc := 33) dX8_listMoves_33 3 rfl ?_
            refine g_iload C (pc := 34) dX8_listMoves_34 0 rfl ?_
            refine g_iload_n C (pc := 36) dX8_listMoves_36 4 rfl ?_
            refine g_callVI C (pc := 37) mf_X8_targets lk_RX8_60 (c_X8_targets n ρ J s r wd j F b hn9 hst hrf hrrJ hrw hbrJ hbw (by omega) hwd4) (by decide) (Nat.le_refl _) rfl (by first | assumption | rfl | omega) rfl (by first | assumption | rfl | omega) (Nat.le_of_ble_eq_true rfl) dX8_listMoves_37 (fun v37 I37 h37 => ?_)
            obtain ⟨e37, rfl⟩ := h37
            refine g_istore C (pc := 40) dX8_listMoves_40 (by decide) (fun v40 => [(6, .int v40), (5, .int (nI j)), (4, .int (nI (mvsJ F b wd j).length)), (0, .ref s), (1, .ref r), (2, .int (nI wd)), (3, .ref t)]) (fun _ => rfl) (fun v40 ev40 => ?_)
            refine g_iconst C (pc := 42) 0 dX8_listMoves_42 (by decide) ?_
            refine g_istore C (pc := 43) dX8_listMoves_43 (by decide) (fun v43 => [(7, .int v43), (6, .int v40), (5, .int (nI j)), (4, .int (nI (mvsJ F b wd j).length)), (0, .ref s), (1, .ref r), (2, .int (nI wd)), (3, .ref t)]) (fun _ => rfl) (fun v43 ev43 => ?_)
            have L45 : ∀ (k9 : Nat) (i0 : Nat) (wz7 : Int32) (wz6 : Int32) (wz4 : Int32) (J2 : Mem) (hw7 : wz7 = nI i0) (hb6 : ∀ q, q < 32 → bt wz6 q = (decide (i0 + q < 32) && tgt F b wd j (i0 + q))) (hw4 : wz4 = nI ((mvsJ F b wd j).length + (mvsP F b wd j i0).length)) (hi0 : i0 ≤ 25) (hJ2 : ∀ i, i ≠ t → J2 i = I i) (hC2 : ∀ k m, (mvsJ F b wd j ++ mvsP F b wd j i0)[k]? = some m → J2 t k = nI m), 25 - i0 < k9 → G κ n ρ 45 [(7, .int wz7), (6, .int wz6), (4, .int wz4), (5, .int (nI j)), (0, .ref s), (1, .ref r), (2, .int (nI wd)), (3, .ref t)] [] J2 := by
              intro k9
              induction k9 with
              | zero => intro i0 wz7 wz6 wz4 J2 hw7 hb6 hw4 hi0 hJ2 hC2 hm45; exact absurd hm45 (Nat.not_lt_zero _)
              | succ k9 ih45 =>
                intro i0 wz7 wz6 wz4 J2 hw7 hb6 hw4 hi0 hJ2 hC2 hm45
                subst hw7 hw4
                have hlen2 := mvsP_len (F := F) (b := b) (wd := wd) (p := j) (k := i0)
                refine g_iload C (pc := 45) dX8_listMoves_45 0 rfl ?_
                refine g_bipush C (pc := 47) 25 dX8_listMoves_47 (by decide) ?_
                refine g_icmp_ge C (pc := 49) 98 dX8_listMoves_49 (by decide) (fun c49 => ?_) (fun c49 => ?_)
                · rw [show (25 : Int32) = nI 25 from rfl, nI_leI (by decide) (by omega)] at c49
                  have hE : mvsP F b wd j i0 = mvsP F b wd j 25 := by rw [show i0 = 25 by omega]
                  refine g_iinc C (pc := 98) (1) dX8_listMoves_98 3 rfl (by decide) (by decide) (fun v98 => [(5, .int v98), (7, .int (nI i0)), (6, .int wz6), (4, .int (nI ((mvsJ F b wd j).length + (mvsP F b wd j i0).length))), (0, .ref s), (1, .ref r), (2, .int (nI wd)), (3, .ref t)]) (fun _ => rfl) (fun v98 ev98 => ?_)
                  refine g_goto C (pc := 101) 23 dX8_listMoves_101 (by decide) ?_
                  refine g_lv C [0, 3, 4, 5, 6, 7] rfl (ih23 (j + 1) _ _ _ ?_ ?_ ?_ ?_ ?_ (by omega))
                  · subst ev98; exact nI_1 _
                  · rw [mvsJ, List.length_append, ← hE]
                  · omega
                  · exact hJ2
                  · intro k m h; rw [mvsJ, ← hE] at h; exact hC2 k m h
                · rw [show (25 : Int32) = nI 25 from rfl, nI_ltI (by omega) (by decide)] at c49
                  refine g_iload C (pc := 52) dX8_listMoves_52 1 rfl ?_
                  refine g_if_eq C (pc := 54) 98 dX8_listMoves_54 (by decide) (fun c54 => ?_) (fun c54 => ?_)
                  · have hE : mvsP F b wd j i0 = mvsP F b wd j 25 := by
                      refine mvsP_end (by omega) (fun i h1 h2 => ?_)
                      have := bt_zero.mp c54 (i - i0) (by omega)
                      rw [hb6 _ (by omega), show i0 + (i - i0) = i by omega] at this
                      simpa [show i < 32 by omega] using this
                    refine g_iinc C (pc := 98) (1) dX8_listMoves_98 3 rfl (by decide) (by decide) (fun v98 => [(5, .int v98), (7, .int (nI i0)), (6, .int wz6), (4, .int (nI ((mvsJ F b wd j).length + (mvsP F b wd j i0).length))), (0, .ref s), (1, .ref r), (2, .int (nI wd)), (3, .ref t)]) (fun _ => rfl) (fun v98 ev98 => ?_)
                    refine g_goto C (pc := 101) 23 dX8_listMoves_101 (by decide) ?_
                    refine g_lv C [0, 3, 4, 5, 6, 7] rfl (ih23 (j + 1) _ _ _ ?_ ?_ ?_ ?_ ?_ (by omega))
                    · subst ev98; exact nI_1 _
                    · rw [mvsJ, List.length_append, ← hE]
                    · omega
                    · exact hJ2
                    · intro k m h; rw [mvsJ, ← hE] at h; exact hC2 k m h
                  · refine g_iload C (pc := 57) dX8_listMoves_57 1 rfl ?_
                    refine g_iconst C (pc := 59) 1 dX8_listMoves_59 (by decide) ?_
                    refine g_iand C (pc := 60) dX8_listMoves_60 ?_
                    refine g_if_eq C (pc := 61) 86 dX8_listMoves_61 (by decide) (fun c61 => ?_) (fun c61 => ?_)
                    · have htg : tgt F b wd j i0 = false := by
                        have := and_1.mp c61
                        rw [hb6 0 (by decide)] at this
                        simpa [show i0 < 32 by omega] using this
                      refine g_iload C (pc := 86) dX8_listMoves_86 1 rfl ?_
                      refine g_iconst C (pc := 88) 1 dX8_listMoves_88 (by decide) ?_
                      refine g_iushr C (pc := 89) dX8_listMoves_89 ?_
                      refine g_istore C (pc := 90) dX8_listMoves_90 (by decide) (fun v90 => [(6, .int v90), (7, .int (nI i0)), (4, .int (nI ((mvsJ F b wd j).length + (mvsP F b wd j i0).length))), (5, .int (nI j)), (0, .ref s), (1, .ref r), (2, .int (nI wd)), (3, .ref t)]) (fun _ => rfl) (fun v90 ev90 => ?_)
                      refine g_iinc C (pc := 92) (1) dX8_listMoves_92 1 rfl (by decide) (by decide) (fun v92 => [(7, .int v92), (6, .int v90), (4, .int (nI ((mvsJ F b wd j).length + (mvsP F b wd j i0).length))), (5, .int (nI j)), (0, .ref s), (1, .ref r), (2, .int (nI wd)), (3, .ref t)]) (fun _ => rfl) (fun v92 ev92 => ?_)
                      refine g_goto C (pc := 95) 45 dX8_listMoves_95 (by decide) ?_
                      refine g_lv C [0, 1, 2, 3, 4, 5, 6, 7] rfl (ih45 (i0 + 1) _ _ _ _ ?_ ?_ ?_ ?_ ?_ ?_ (by omega))
                      · subst ev92; exact nI_1 _
                      · intro q hq; rw [ev90]; refine (b_ushr 1 (by decide) wz6 q).trans ?_
                        by_cases h31 : q = 31
                        · subst h31; rw [b_big (by decide), decide_eq_false (by omega)]; rfl
                        · rw [hb6 _ (by omega), show i0 + (1 + q) = i0 + 1 + q by omega]
                      · first | (subst ev74; rw [mvsP_succ, htg, List.length_append]; exact (nI_add _ 1).trans rfl) | (rw [mvsP_succ, htg]; simp)
                      · omega
                      · first | exact hJ2 | (intro i hi; rw [wr_n hi]; exact hJ2 i hi)
                      · intro k m h
                        rw [mvsP_succ, htg] at h
                        first | exact push_at hC2 (by rw [show (100 : Int32) = nI 100 from rfl, pk_mul, nI_add]) (nI_clamp (by omega)) h | exact hC2 k m (by simpa using h)
                    · have htg : tgt F b wd j i0 = true := by
                        have : bt wz6 0 = true := by
                          cases h : bt wz6 0 with
                          | true => rfl
                          | false => exact absurd (and_1.mpr h) c61
                        rw [hb6 0 (by decide)] at this
                        simpa [show i0 < 32 by omega] using this
                      have hlen3 : (mvsP F b wd j i0).length + 1 ≤ 4 := by
                        have := mvsP_len (F := F) (b := b) (wd := wd) (p := j) (k := i0 + 1)
                        rw [mvsP_succ, htg, List.length_append] at this
                        exact this
                      refine g_iload C (pc := 64) dX8_listMoves_64 2 rfl ?_
                      refine g_aload_n C (pc := 66) dX8_listMoves_66 7 rfl ?_
                      refine g_alen C (pc := 67) 24 (by first | assumption | rfl | omega) (by decide) (by first | assumption | rfl | omega) rfl dX8_listMoves_67 ?_
                      refine g_icmp_ge C (pc := 68) 86 dX8_listMoves_68 (by decide) (fun c68 => ?_) (fun c68 => ?_)
                      · rw [show (24 : Int32) = nI 24 from rfl, nI_leI (by decide) (by omega)] at c68; omega
                      · refine g_aload_n C (pc := 71) dX8_listMoves_71 7 rfl ?_
                        refine g_iload C (pc := 72) dX8_listMoves_72 2 rfl ?_
                        refine g_iinc C (pc := 74) (1) dX8_listMoves_74 2 rfl (by decide) (by decide) (fun v74 => [(4, .int v74), (7, .int (nI i0)), (6, .int wz6), (5, .int (nI j)), (0, .ref s), (1, .ref r), (2, .int (nI wd)), (3, .ref t)]) (fun _ => rfl) (fun v74 ev74 => ?_)
                        refine g_bipush C (pc := 77) 100 dX8_listMoves_77 (by decide) ?_
                        refine g_iload C (pc := 79) dX8_listMoves_79 3 rfl ?_
                        refine g_imul C (pc := 81) dX8_listMoves_81 ?_
                        refine g_iload C (pc := 82) dX8_listMoves_82 1 rfl ?_
                        refine g_iadd C (pc := 84) dX8_listMoves_84 ?_
                        refine g_iast C (pc := 85) (by first | assumption | rfl | omega) (by first | assumption | rfl | omega) hn9 (vp_in_nI (by omega) (by decide)) dX8_listMoves_85 ?_
                        refine g_iload C (pc := 86) dX8_listMoves_86 2 rfl ?_
                        refine g_iconst C (pc := 88) 1 dX8_listMoves_88 (by decide) ?_
                        refine g_iushr C (pc := 89) dX8_listMoves_89 ?_
                        refine g_istore C (pc := 90) dX8_listMoves_90 (by decide) (fun v90 => [(6, .int v90), (4, .int v74), (7, .int (nI i0)), (5, .int (nI j)), (0, .ref s), (1, .ref r), (2, .int (nI wd)), (3, .ref t)]) (fun _ => rfl) (fun v90 ev90 => ?_)
                        refine g_iinc C (pc := 92) (1) dX8_listMoves_92 2 rfl (by decide) (by decide) (fun v92 => [(7, .int v92), (6, .int v90), (4, .int v74), (5, .int (nI j)), (0, .ref s), (1, .ref r), (2, .int (nI wd)), (3, .ref t)]) (fun _ => rfl) (fun v92 ev92 => ?_)
                        refine g_goto C (pc := 95) 45 dX8_listMoves_95 (by decide) ?_
                        refine g_lv C [0, 1, 2, 3, 4, 5, 6, 7] rfl (ih45 (i0 + 1) _ _ _ _ ?_ ?_ ?_ ?_ ?_ ?_ (by omega))
                        · subst ev92; exact nI_1 _
                        · intro q hq; rw [ev90]; refine (b_ushr 1 (by decide) wz6 q).trans ?_
                          by_cases h31 : q = 31
                          · subst h31; rw [b_big (by decide), decide_eq_false (by omega)]; rfl
                          · rw [hb6 _ (by omega), show i0 + (1 + q) = i0 + 1 + q by omega]
                        · first | (subst ev74; rw [mvsP_succ, htg, List.length_append]; exact (nI_add _ 1).trans rfl) | (rw [mvsP_succ, htg]; simp)
                        · omega
                        · first | exact hJ2 | (intro i hi; rw [wr_n hi]; exact hJ2 i hi)
                        · intro k m h
                          rw [mvsP_succ, htg] at h
                          first | exact push_at hC2 (by rw [show (100 : Int32) = nI 100 from rfl, pk_mul, nI_add]) (nI_clamp (by omega)) h | exact hC2 k m (by simpa using h)
            refine g_lv C [0, 1, 3, 2, 4, 5, 6, 7] rfl (L45 (_ + 1) 0 _ _ _ _ ?_ ?_ ?_ ?_ ?_ ?_ (by first | omega | exact Nat.lt_succ_self _))
            · subst ev43; rfl
            · intro q hq; rw [ev40, e37 q hq]; simp [hq]
            · rfl
            · omega
            · exact hJ
            · intro k m h; exact hC k m (by simpa [mvsP] using h)
      refine g_lv C [0, 1, 2, 3, 4, 5] rfl (L23 (_ + 1) 0 _ _ _ ?_ ?_ ?_ ?_ ?_ (by first | omega | exact Nat.lt_succ_self _))
      · subst ev21; rfl
      · subst ev18; rfl
      · omega
      · intro i _; rfl
      · intro k m h; simp [mvsJ] at h
    · have hmv : mvs F b wd = [] := by
        unfold mvs
        rw [if_pos (Or.inr (fun h => c12 (by rw [e7, hlr, h])))]
      refine g_iconst C (pc := 15) 0 dX8_listMoves_15 (by decide) ?_
      refine g_iret C hR (pc := 16) rfl dX8_listMoves_16 ?_
      refine ⟨rfl, _, rfl, ?_⟩
      rw [hmv]; exact ⟨rfl, fun k m h => by simp at h, fun i _ => rfl⟩
