theorem rayL_lt {F : RT} {b : BT} {w i : Nat} (hf : RW F) : ∀ {k q : Nat}, i ∈ rayL F b w k q → i < rW F * rH F
  | 0, q, h => by simp [rayL] at h
  | k + 1, q, h => by
    cases e : nxtO F (some q) w with
    | none => rw [rayL_none e] at h; simp at h
    | some a =>
      have ha := nxtO_lt2 hf e
      cases hs : stpB F b a with
      | true =>
        rw [rayL_stop e hs] at h
        have : i = a := by simpa using h
        omega
      | false =>
        rw [rayL_go e hs] at h
        rcases List.mem_cons.mp h with h | h
        · omega
        · exact rayL_lt hf h
theorem kinL_lt {F : RT} {b : BT} {w kd q i : Nat} (hf : RW F) (h : i ∈ kinL F b w kd q) : i < rW F * rH F := by
  unfold kinL hopL at h
  split at h
  · exact rayL_lt hf h
  · split at h
    · rcases List.mem_append.mp h with h | h
      · exact nxtO_lt2 hf (Option.mem_toList.mp h)
      · exact nxtO_lt2 hf (Option.mem_toList.mp h)
    · exact nxtO_lt2 hf (Option.mem_toList.mp h)
theorem tgt_lt {F : RT} {b : BT} {w p i : Nat} (hf : RW F) (h : tgt F b w p i = true) : i < rW F * rH F := by
  unfold tgt at h
  split at h
  · cases h
  · simp only [Bool.and_eq_true, decide_eq_true_eq] at h
    exact kinL_lt hf h.1.1.2
theorem push_off {J : Mem} {t o x p : Nat} {L : List Nat} {v : Int32} (hC : ∀ k m, L[k]? = some m → J t (o + k) = nI m) (hp : p = o + L.length) (hv : v = nI x) {k m : Nat} (h : (L ++ [x])[k]? = some m) : wr J t p v t (o + k) = nI m := by
  rcases get_push h with ⟨h1, h2⟩ | ⟨h1, h2⟩
  · rw [hp, wr_sn (by omega)]; exact hC k m h2
  · subst h1; subst h2; rw [hp, wr_ss, hv]
/-- the moves of the first j pieces; none when the game is over or the wind is calm -/
def mvsX (F : RT) (b : BT) (w j : Nat) : List Nat := if w = 4 ∨ lostP F b ≠ none then [] else mvsJ F b w j
def mvX (F : RT) (b : BT) (w j k : Nat) : List Nat := if w = 4 ∨ lostP F b ≠ none then [] else mvsP F b w j k
def tgX (F : RT) (b : BT) (w j i : Nat) : Bool := if w = 4 ∨ lostP F b ≠ none then false else tgt F b w j i
theorem mvsX_0 {F : RT} {b : BT} {w : Nat} : mvsX F b w 0 = [] := by unfold mvsX; split <;> rfl
theorem mvX_0 {F : RT} {b : BT} {w j : Nat} : mvX F b w j 0 = [] := by unfold mvX; split <;> rfl
theorem mvX_s {F : RT} {b : BT} {w j k : Nat} : mvX F b w j (k + 1) = mvX F b w j k ++ (if tgX F b w j k = true then [100 * j + k] else []) := by
  unfold mvX tgX
  split
  · rfl
  · exact mvsP_succ
theorem mvsX_s {F : RT} {b : BT} {w j : Nat} (hf : RW F) : mvsX F b w (j + 1) = mvsX F b w j ++ mvX F b w j (rW F * rH F) := by
  unfold mvsX mvX
  split
  · rfl
  · rw [mvsP_end (by have := Nat.mul_le_mul hf.2.1 hf.2.2.2.1; omega) (fun i h1 h2 => by
      cases h : tgt F b w j i with
      | false => rfl
      | true => have := tgt_lt hf h; omega)]
    rfl
theorem mvsX_all {F : RT} {b : BT} {w : Nat} : mvsX F b w (rN F) = mvs F b w := by unfold mvsX mvs; rfl
theorem mvsX_len {F : RT} {b : BT} {w j : Nat} : (mvsX F b w j).length ≤ 4 * j := by
  unfold mvsX
  split
  · exact Nat.zero_le _
  · exact mvsJ_len
theorem mvX_len {F : RT} {b : BT} {w j k : Nat} : (mvX F b w j k).length ≤ 4 := by
  unfold mvX
  split
  · exact Nat.zero_le _
  · exact mvsP_len
def SvB (I : Mem) (F : RT) (d : Nat) (b : BT) : Prop := (∀ p, p < rN F → I 110 (13 * d + p) = oI (bP b p) ∧ I 110 (13 * d + 6 + p) = nI (bO b p)) ∧ I 110 (13 * d + 12) = nI (bM b)
theorem SvB.cong {I I1 : Mem} {F : RT} {d : Nat} {b : BT} (h : SvB I F d b) (e : ∀ k, 13 * d ≤ k → k < 13 * d + 13 → I1 110 k = I 110 k) (hn : rN F ≤ 6) : SvB I1 F d b := ⟨fun p hp => by rw [e _ (by omega) (by omega), e _ (by omega) (by omega)]; exact h.1 p hp, by rw [e _ (by omega) (by omega)]; exact h.2⟩
/-- the moves that stand found at a depth -/
def FMv (I : Mem) (F : RT) (b : BT) (w d : Nat) : Prop := I 109 d = nI (mvs F b w).length ∧ ∀ k m, (mvs F b w)[k]? = some m → I 108 (64 * d + k) = nI m
theorem FMv.cong {I I1 : Mem} {F : RT} {b : BT} {w d : Nat} (h : FMv I F b w d) (e9 : I1 109 d = I 109 d) (e8 : ∀ z, 64 * d ≤ z → z < 64 * d + 24 → I1 108 z = I 108 z) (hn : rN F ≤ 6) : FMv I1 F b w d := ⟨e9.trans h.1, fun k m hk => by
  have h1 := (List.getElem?_eq_some_iff.mp hk).1
  have h2 : (mvs F b w).length ≤ 24 := by
    rw [← mvsX_all]; have := mvsX_len (F := F) (b := b) (w := w) (j := rN F); omega
  rw [e8 _ (by omega) (by omega)]; exact h.2 k m hk⟩
theorem lostB_lt2 {F : RT} {b : BT} (hf : RW F) : ∀ z, lostB F b = some z → z < 2 ^ 31 := fun z hz => by have := lostB_lt hf z hz; omega
theorem b_one : ∀ i, i < 32 → bt 1 i = decide (i = 0) := by decide
theorem and_1b {x : Int32} : (x &&& 1) = 1 ↔ bt x 0 = true := by
  constructor
  · intro h
    cases e : bt x 0 with
    | true => rfl
    | false => rw [and_1.mpr e] at h; exact absurd h (by decide)
  · intro h
    refine b_ext fun i hi => ?_
    rw [b_and, b_one i hi]
    by_cases h0 : i = 0
    · subst h0; rw [h]; rfl
    · simp [h0]
set_option maxHeartbeats 3200000 in
theorem c_X12_findMoves (n : Nat) (ρ : Rho) (I : Mem) (F : RT) (b : BT) (w d : Nat) (hn9 : n ≤ 999) (hms : MS n ρ) (hqf : QF I F) (hrw : RW F) (hqe : QE I F) (hqb : QB I F b) (hbw : BW F b) (hl1 : L1 F b) (hpw : PW F b) (hw : w < 5) (hd : d < 3) : MV yX12_findMoves cX12_findMoves 9 none 3 [.ref 97, .int (nI w), .int (nI d)] n ρ I (fun I1 => FMv I1 F b w d ∧ (∀ z, z < 64 * d ∨ 64 * d + 24 ≤ z → I1 108 z = I 108 z) ∧ (∀ z, z ≠ d → I1 109 z = I 109 z) ∧ ∀ i, i ≠ 108 → i ≠ 109 → I1 i = I i) := by
  refine MG.of (by decide +kernel) (Nat.le_of_ble_eq_true rfl) hn9 ?_
  intro κ C hR
  show G κ n ρ 0 [(0, .ref 97), (1, .int (nI w)), (2, .int (nI d))] [] I
  obtain ⟨mn, ⟨m0, m1, m5, m6, m7, m11, m12, m15⟩, ⟨m23, m24, m26, m27, m28, m30, m31, m32, m33⟩, ⟨m38, m39, m40, m42⟩⟩ := id hms
  obtain ⟨qw, qh, qn, qk⟩ := id hqf
  have hn6 : rN F ≤ 6 := hrw.2.2.2.2.1
  have hm25 := Nat.mul_le_mul hrw.2.1 hrw.2.2.2.1
  have hm4 := Nat.mul_le_mul hrw.1 hrw.2.2.1
  refine g_iconst C (pc := 0) 0 dX12_findMoves_0 (by decide) ?_
  refine g_istore_n C (pc := 1) dX12_findMoves_1 (by decide) (fun v1 => [(3, .int v1), (0, .ref 97), (1, .int (nI w)), (2, .int (nI d))]) (fun _ => rfl) (fun v1 ev1 => ?_)
  refine g_aload_n C (pc := 2) dX12_findMoves_2 1 rfl ?_
  refine g_callVI C (pc := 3) mf_X12_lost lk_RX12_221 (c_X12_lost n ρ I F b hn9 hms hqf hrw hqb hbw hl1) (by decide) (Nat.le_refl _) rfl (by first | assumption | rfl | omega) rfl (by first | assumption | rfl | omega) (Nat.le_of_ble_eq_true rfl) dX12_findMoves_3 (fun v3 I3 h3 => ?_)
  obtain ⟨e3, rfl⟩ := h3
  refine g_bipush C (pc := 6) (-4) dX12_findMoves_6 (by decide) ?_
  refine g_icmp_eq C (pc := 8) 15 dX12_findMoves_8 (by decide) (fun c8 => ?_) (fun c8 => ?_)
  · have hno : lostP F b = none := lostB_none.mp ((oI_none (lostB_lt2 hrw)).mp (e3.symm.trans c8))
    refine g_iconst C (pc := 15) 0 dX12_findMoves_15 (by decide) ?_
    refine g_istore C (pc := 16) dX12_findMoves_16 (by decide) (fun v16 => [(4, .int v16), (3, .int v1), (0, .ref 97), (1, .int (nI w)), (2, .int (nI d))]) (fun _ => rfl) (fun v16 ev16 => ?_)
    refine g_iconst C (pc := 18) 0 dX12_findMoves_18 (by decide) ?_
    refine g_istore C (pc := 19) dX12_findMoves_19 (by decide) (fun v19 => [(5, .int v19), (4, .int v16), (3, .int v1), (0, .ref 97), (1, .int (nI w)), (2, .int (nI d))]) (fun _ => rfl) (fun v19 ev19 => ?_)
    have L21 : ∀ (k9 : Nat) (j : Nat) (wz5 : Int32) (wz3 : Int32) (J : Mem) (hw5 : wz5 = nI j) (hw3 : wz3 = nI (mvsX F b w j).length) (hj : j ≤ rN F) (hJ : ∀ i, i ≠ 108 → J i = I i) (hJ8 : ∀ z, z < 64 * d ∨ 64 * d + 24 ≤ z → J 108 z = I 108 z) (hCo : ∀ k m, (mvsX F b w j)[k]? = some m → J 108 (64 * d + k) = nI m), rN F - j < k9 → G κ n ρ 21 [(5, .int wz5), (3, .int wz3), (4, .int v16), (0, .ref 97), (1, .int (nI w)), (2, .int (nI d))] [] J := by
      intro k9
      induction k9 with
      | zero => intro j wz5 wz3 J hw5 hw3 hj hJ hJ8 hCo hm21; exact absurd hm21 (Nat.not_lt_zero _)
      | succ k9 ih21 =>
        intro j wz5 wz3 J hw5 hw3 hj hJ hJ8 hCo hm21
        subst hw5 hw3
        have hln := mvsX_len (F := F) (b := b) (w := w) (j := j)
        have hqfJ : QF J F := hqf.cong (by rw [hJ 97 (by decide)]) (by rw [hJ 97 (by decide)]) (by rw [hJ 97 (by decide)]) (hJ 100 (by decide)) (hJ 101 (by decide))
        have hqeJ : QE J F := hqe.cong (fun k _ => by rw [hJ 98 (by decide)])
        have hqbJ : QB J F b := hqb.cong (fun k _ => by rw [hJ 106 (by decide)]) (fun k _ => by rw [hJ 107 (by decide)]) (by rw [hJ 97 (by decide)]) hn6
        refine g_iload C (pc := 21) dX12_findMoves_21 0 rfl ?_
        refine g_aload_n C (pc := 23) dX12_findMoves_23 3 rfl ?_
        refine g_getI C (pc := 24) fl_RX12_105 (by decide) (by first | assumption | rfl | omega) (by first | assumption | rfl | omega) dX12_findMoves_24 ?_
        refine g_icmp_ge C (pc := 27) 163 dX12_findMoves_27 (by decide) (fun c27 => ?_) (fun c27 => ?_)
        · rw [hqfJ.2.2.1, nI_leI (by omega) (by omega)] at c27
          refine g_aload_n C (pc := 163) dX12_findMoves_163 3 rfl ?_
          refine g_getR C (pc := 164) fl_RX12_44 (by decide) (by first | assumption | rfl | omega) (by first | assumption | rfl | omega) (by first | assumption | rfl | omega) dX12_findMoves_164 ?_
          refine g_iload_n C (pc := 167) dX12_findMoves_167 5 rfl ?_
          refine g_iload_n C (pc := 168) dX12_findMoves_168 1 rfl ?_
          refine g_iast C (pc := 169) (by first | assumption | rfl | omega) (by first | assumption | rfl | omega) hn9 (vp_in_nI (by omega) (by decide)) dX12_findMoves_169 ?_
          refine g_vret C hR (pc := 170) rfl dX12_findMoves_170 ?_
          refine ⟨rfl, rfl, ?_⟩
          have hjn : j = rN F := by omega
          subst hjn
          have hcd : (nI d).toNatClampNeg = d := nI_clamp (by omega)
          rw [hcd]
          refine ⟨⟨by rw [wr_ss, mvsX_all], fun k m h => ?_⟩, fun z hz => ?_, fun z hz => ?_, fun i h1 h2 => ?_⟩
          · rw [wr_n (by decide)]; rw [← mvsX_all] at h; exact hCo k m h
          · rw [wr_n (by decide)]; exact hJ8 z hz
          · rw [wr_sn hz, hJ 109 (by decide)]
          · rw [wr_n h2]; exact hJ i h1
        · have hjn : j < rN F := by
            rw [hqfJ.2.2.1, nI_ltI (by omega) (by omega)] at c27
            exact c27
          have hcj : (nI j).toNatClampNeg = j := nI_clamp (by omega)
          have hs2 := (hrw.2.2.2.2.2.1 j hjn).1
          have hM2 := hbw.1
          have ho9 := (hbw.2.1 j hjn).2
          refine g_iload C (pc := 30) dX12_findMoves_30 2 rfl ?_
          refine g_if_ne C (pc := 32) 80 dX12_findMoves_32 (by decide) (fun c32 => absurd c32 (by first | decide | (subst_vars; decide))) (fun c32 => ?_)
          refine g_iload_n C (pc := 35) dX12_findMoves_35 4 rfl ?_
          refine g_iconst C (pc := 36) 4 dX12_findMoves_36 (by decide) ?_
          refine g_icmp_eq C (pc := 37) 80 dX12_findMoves_37 (by decide) (fun c37 => ?_) (fun c37 => ?_)
          · have hw4 : w = 4 := (nI_eq (by omega) (by decide)).mp c37
            have hz : ∀ i, tgX F b w j i = false := fun i => if_pos (Or.inl hw4)
            refine g_iconst C (pc := 80) 0 dX12_findMoves_80 (by decide) ?_
            refine g_istore C (pc := 81) dX12_findMoves_81 (by decide) (fun v81 => [(6, .int v81), (5, .int (nI j)), (3, .int (nI (mvsX F b w j).length)), (4, .int v16), (0, .ref 97), (1, .int (nI w)), (2, .int (nI d))]) (fun _ => rfl) (fun v81 ev81 => ?_)
            first
            | have hz : ∀ i, tgX F b w j i = false := fun i => if_pos hP
            | skip
            refine g_iload C (pc := 83) dX12_findMoves_83 0 rfl ?_
            refine g_if_eq C (pc := 85) 98 dX12_findMoves_85 (by decide) (fun c85 => ?_) (fun c85 => absurd c85 (by first | decide | (subst_vars; decide)))
            refine g_iconst C (pc := 98) 0 dX12_findMoves_98 (by decide) ?_
            refine g_istore C (pc := 99) dX12_findMoves_99 (by decide) (fun v99 => [(7, .int v99), (6, .int v81), (5, .int (nI j)), (3, .int (nI (mvsX F b w j).length)), (4, .int v16), (0, .ref 97), (1, .int (nI w)), (2, .int (nI d))]) (fun _ => rfl) (fun v99 ev99 => ?_)
            have hb7 : ∀ i, i < 32 → bt v99 i = tgX F b w j i := fun i hi => by
              rw [ev99]
              first
              | (rw [hz i, b_0]; done)
              | (rw [e92 i hi]; unfold tgX; rw [if_neg hnP]; done)
            refine g_iconst C (pc := 101) 0 dX12_findMoves_101 (by decide) ?_
            refine g_istore C (pc := 102) dX12_findMoves_102 (by decide) (fun v102 => [(8, .int v102), (7, .int v99), (6, .int v81), (5, .int (nI j)), (3, .int (nI (mvsX F b w j).length)), (4, .int v16), (0, .ref 97), (1, .int (nI w)), (2, .int (nI d))]) (fun _ => rfl) (fun v102 ev102 => ?_)
            have L104 : ∀ (k9 : Nat) (i0 : Nat) (wz8 : Int32) (wz3 : Int32) (J2 : Mem) (hw8 : wz8 = nI i0) (hw3 : wz3 = nI ((mvsX F b w j).length + (mvX F b w j i0).length)) (hi0 : i0 ≤ rW F * rH F) (hJ2 : ∀ i, i ≠ 108 → J2 i = I i) (hK8 : ∀ z, z < 64 * d ∨ 64 * d + 24 ≤ z → J2 108 z = I 108 z) (hC2 : ∀ k m, (mvsX F b w j ++ mvX F b w j i0)[k]? = some m → J2 108 (64 * d + k) = nI m), rW F * rH F - i0 < k9 → G κ n ρ 104 [(8, .int wz8), (3, .int wz3), (7, .int v99), (4, .int v16), (5, .int (nI j)), (0, .ref 97), (1, .int (nI w)), (2, .int (nI d))] [] J2 := by
              intro k9
              induction k9 with
              | zero => intro i0 wz8 wz3 J2 hw8 hw3 hi0 hJ2 hK8 hC2 hm104; exact absurd hm104 (Nat.not_lt_zero _)
              | succ k9 ih104 =>
                intro i0 wz8 wz3 J2 hw8 hw3 hi0 hJ2 hK8 hC2 hm104
                subst hw8 hw3
                have hlen2 := mvX_len (F := F) (b := b) (w := w) (j := j) (k := i0)
                have qw2 : J2 97 2 = nI (rW F) := by rw [hJ2 97 (by decide)]; exact qw
                have qh2 : J2 97 3 = nI (rH F) := by rw [hJ2 97 (by decide)]; exact qh
                have hb0 : bt (v99 >>> (nI i0 &&& 31)) 0 = tgX F b w j i0 ∨ rW F * rH F ≤ i0 := by
                  rcases Nat.lt_or_ge i0 (rW F * rH F) with h | h
                  · left
                    refine (b_sshr i0 (by omega) _ (by decide)).trans ?_
                    rw [if_pos (by omega)]; exact hb7 i0 (by omega)
                  · exact Or.inr h
                refine g_iload C (pc := 104) dX12_findMoves_104 0 rfl ?_
                refine g_aload_n C (pc := 106) dX12_findMoves_106 5 rfl ?_
                refine g_getI C (pc := 107) fl_RX12_99 (by decide) (by first | assumption | rfl | omega) (by first | assumption | rfl | omega) dX12_findMoves_107 ?_
                refine g_aload_n C (pc := 110) dX12_findMoves_110 5 rfl ?_
                refine g_getI C (pc := 111) fl_RX12_102 (by decide) (by first | assumption | rfl | omega) (by first | assumption | rfl | omega) dX12_findMoves_111 ?_
                refine g_imul C (pc := 114) dX12_findMoves_114 ?_
                refine g_icmp_ge C (pc := 115) 157 dX12_findMoves_115 (by decide) (fun c115 => ?_) (fun c115 => ?_)
                · have hE : mvX F b w j i0 = mvX F b w j (rW F * rH F) := by
                    rw [qw2, qh2, pk_mul, nI_leI (by omega) (by omega)] at c115
                    rw [show i0 = rW F * rH F by omega]
                  refine g_iinc C (pc := 157) (1) dX12_findMoves_157 4 rfl (by decide) (by decide) (fun v157 => [(5, .int v157), (8, .int (nI i0)), (3, .int (nI ((mvsX F b w j).length + (mvX F b w j i0).length))), (7, .int v99), (4, .int v16), (0, .ref 97), (1, .int (nI w)), (2, .int (nI d))]) (fun _ => rfl) (fun v157 ev157 => ?_)
                  refine g_goto C (pc := 160) 21 dX12_findMoves_160 (by decide) ?_
                  refine g_lv C [0, 2, 4, 5, 6, 7] rfl (ih21 (j + 1) _ _ _ ?_ ?_ ?_ ?_ ?_ ?_ (by omega))
                  · subst ev157; exact nI_1 _
                  · rw [mvsX_s hrw, List.length_append, ← hE]
                  · omega
                  · exact hJ2
                  · exact hK8
                  · intro k m h; rw [mvsX_s hrw, ← hE] at h; exact hC2 k m h
                · rw [qw2, qh2, pk_mul, nI_ltI (by omega) (by omega)] at c115
                  refine g_iload C (pc := 118) dX12_findMoves_118 2 rfl ?_
                  refine g_iload C (pc := 120) dX12_findMoves_120 0 rfl ?_
                  refine g_ishr C (pc := 122) dX12_findMoves_122 ?_
                  refine g_iconst C (pc := 123) 1 dX12_findMoves_123 (by decide) ?_
                  refine g_iand C (pc := 124) dX12_findMoves_124 ?_
                  refine g_iconst C (pc := 125) 1 dX12_findMoves_125 (by decide) ?_
                  refine g_icmp_ne C (pc := 126) 151 dX12_findMoves_126 (by decide) (fun c126 => ?_) (fun c126 => ?_)
                  · have htg : tgX F b w j i0 = false := by
                      have hb1 := hb0.resolve_right (by omega)
                      cases h : tgX F b w j i0 with
                      | false => rfl
                      | true => exact absurd (and_1b.mpr (hb1.trans h)) c126
                    refine g_iinc C (pc := 151) (1) dX12_findMoves_151 0 rfl (by decide) (by decide) (fun v151 => [(8, .int v151), (3, .int (nI ((mvsX F b w j).length + (mvX F b w j i0).length))), (7, .int v99), (4, .int v16), (5, .int (nI j)), (0, .ref 97), (1, .int (nI w)), (2, .int (nI d))]) (fun _ => rfl) (fun v151 ev151 => ?_)
                    refine g_goto C (pc := 154) 104 dX12_findMoves_154 (by decide) ?_
                    refine g_lv C [0, 1, 2, 3, 4, 5, 6, 7] rfl (ih104 (i0 + 1) _ _ _ ?_ ?_ ?_ ?_ ?_ ?_ (by omega))
                    · subst ev151; exact nI_1 _
                    · rw [mvX_s, htg]
                      first | (subst ev148; rw [if_pos rfl, List.length_append]; exact (nI_add _ 1).trans rfl) | (rw [if_neg (by decide), List.append_nil])
                    · omega
                    · first | exact hJ2 | (intro i hi; rw [wr_n hi]; exact hJ2 i hi)
                    · first | exact hK8 | (intro z hz; rw [wr_sn (by rw [hpx]; omega)]; exact hK8 z hz)
                    · intro k m h
                      rw [mvX_s, htg] at h
                      first
                      | (rw [if_neg (by decide), List.append_nil] at h; exact hC2 k m h)
                      | (rw [if_pos rfl, ← List.append_assoc] at h; exact push_off hC2 (by rw [hpx, List.length_append]) (by rw [show (100 : Int32) = nI 100 from rfl, pk_mul, nI_add]) h)
                  · have hix : 64 * nI d + nI ((mvsX F b w j).length + (mvX F b w j i0).length) = nI (64 * d + ((mvsX F b w j).length + (mvX F b w j i0).length)) := by rw [show (64 : Int32) = nI 64 from rfl, pk_mul, nI_add]
                    have htg : tgX F b w j i0 = true := (hb0.resolve_right (by omega)).symm.trans (and_1b.mp c126)
                    have hlen3 : (mvX F b w j i0).length + 1 ≤ 4 := by
                      have := mvX_len (F := F) (b := b) (w := w) (j := j) (k := i0 + 1)
                      rw [mvX_s, htg, List.length_append] at this
                      exact this
                    have hpx : (64 * nI d + nI ((mvsX F b w j).length + (mvX F b w j i0).length)).toNatClampNeg = 64 * d + ((mvsX F b w j).length + (mvX F b w j i0).length) := by rw [hix]; exact nI_clamp (by omega)
                    refine g_aload_n C (pc := 129) dX12_findMoves_129 5 rfl ?_
                    refine g_getR C (pc := 130) fl_RX12_41 (by decide) (by first | assumption | rfl | omega) (by first | assumption | rfl | omega) (by first | assumption | rfl | omega) dX12_findMoves_130 ?_
                    refine g_bipush C (pc := 133) 64 dX12_findMoves_133 (by decide) ?_
                    refine g_iload_n C (pc := 135) dX12_findMoves_135 7 rfl ?_
                    refine g_imul C (pc := 136) dX12_findMoves_136 ?_
                    refine g_iload_n C (pc := 137) dX12_findMoves_137 1 rfl ?_
                    refine g_iadd C (pc := 138) dX12_findMoves_138 ?_
                    refine g_bipush C (pc := 139) 100 dX12_findMoves_139 (by decide) ?_
                    refine g_iload C (pc := 141) dX12_findMoves_141 4 rfl ?_
                    refine g_imul C (pc := 143) dX12_findMoves_143 ?_
                    refine g_iload C (pc := 144) dX12_findMoves_144 0 rfl ?_
                    refine g_iadd C (pc := 146) dX12_findMoves_146 ?_
                    refine g_iast C (pc := 147) (by first | assumption | rfl | omega) (by first | assumption | rfl | omega) hn9 (by rw [hix]; exact vp_in_nI (by omega) (by decide)) dX12_findMoves_147 ?_
                    refine g_iinc C (pc := 148) (1) dX12_findMoves_148 1 rfl (by decide) (by decide) (fun v148 => [(3, .int v148), (8, .int (nI i0)), (7, .int v99), (4, .int v16), (5, .int (nI j)), (0, .ref 97), (1, .int (nI w)), (2, .int (nI d))]) (fun _ => rfl) (fun v148 ev148 => ?_)
                    refine g_iinc C (pc := 151) (1) dX12_findMoves_151 1 rfl (by decide) (by decide) (fun v151 => [(8, .int v151), (3, .int v148), (7, .int v99), (4, .int v16), (5, .int (nI j)), (0, .ref 97), (1, .int (nI w)), (2, .int (nI d))]) (fun _ => rfl) (fun v151 ev151 => ?_)
                    refine g_goto C (pc := 154) 104 dX12_findMoves_154 (by decide) ?_
                    refine g_lv C [0, 1, 2, 3, 4, 5, 6, 7] rfl (ih104 (i0 + 1) _ _ _ ?_ ?_ ?_ ?_ ?_ ?_ (by omega))
                    · subst ev151; exact nI_1 _
                    · rw [mvX_s, htg]
                      first | (subst ev148; rw [if_pos rfl, List.length_append]; exact (nI_add _ 1).trans rfl) | (rw [if_neg (by decide), List.append_nil])
                    · omega
                    · first | exact hJ2 | (intro i hi; rw [wr_n hi]; exact hJ2 i hi)
                    · first | exact hK8 | (intro z hz; rw [wr_sn (by rw [hpx]; omega)]; exact hK8 z hz)
                    · intro k m h
                      rw [mvX_s, htg] at h
                      first
                      | (rw [if_neg (by decide), List.append_nil] at h; exact hC2 k m h)
                      | (rw [if_pos rfl, ← List.append_assoc] at h; exact push_off hC2 (by rw [hpx, List.length_append]) (by rw [show (100 : Int32) = nI 100 from rfl, pk_mul, nI_add]) h)
            refine g_lv C [0, 4, 1, 5, 3, 6, 7, 8] rfl (L104 (_ + 1) 0 _ _ _ ?_ ?_ ?_ ?_ ?_ ?_ (by first | omega | exact Nat.lt_succ_self _))
            · subst ev102; rfl
            · rw [mvX_0]; rfl
            · omega
            · exact hJ
            · exact hJ8
            · intro k m h; rw [mvX_0, List.append_nil] at h; exact hCo k m h
          · have hw4 : w ≠ 4 := fun h => c37 (by rw [h]; rfl)
            have hnP : ¬ (w = 4 ∨ lostP F b ≠ none) := by rintro (h | h); exact hw4 h; exact h hno
            refine g_aload_n C (pc := 40) dX12_findMoves_40 3 rfl ?_
            refine g_getR C (pc := 41) fl_RX12_17 (by decide) (by first | assumption | rfl | omega) (by first | assumption | rfl | omega) (by first | assumption | rfl | omega) dX12_findMoves_41 ?_
            refine g_iload C (pc := 44) dX12_findMoves_44 0 rfl ?_
            refine g_iald C (pc := 46) (by first | assumption | rfl | omega) (by first | assumption | rfl | omega) (vp_in_nI (by omega) (by decide)) dX12_findMoves_46 ?_
            refine g_aload_n C (pc := 47) dX12_findMoves_47 3 rfl ?_
            refine g_getI C (pc := 48) fl_RX12_204 (by decide) (by first | assumption | rfl | omega) (by first | assumption | rfl | omega) dX12_findMoves_48 ?_
            refine g_icmp_ne C (pc := 51) 80 dX12_findMoves_51 (by decide) (fun c51 => ?_) (fun c51 => ?_)
            · rw [hcj, (hqfJ.2.2.2 j hjn).1, hqbJ.2] at c51
              have hz : ∀ i, tgX F b w j i = false := fun i => by
                unfold tgX
                split
                · rfl
                · unfold tgt
                  split
                  · rfl
                  · rename_i q9 hq9
                    have : ¬ rSd F j = bM b := fun h => c51 (by rw [h])
                    simp [this]
              refine g_iconst C (pc := 80) 0 dX12_findMoves_80 (by decide) ?_
              refine g_istore C (pc := 81) dX12_findMoves_81 (by decide) (fun v81 => [(6, .int v81), (5, .int (nI j)), (3, .int (nI (mvsX F b w j).length)), (4, .int v16), (0, .ref 97), (1, .int (nI w)), (2, .int (nI d))]) (fun _ => rfl) (fun v81 ev81 => ?_)
              first
              | have hz : ∀ i, tgX F b w j i = false := fun i => if_pos hP
              | skip
              refine g_iload C (pc := 83) dX12_findMoves_83 0 rfl ?_
              refine g_if_eq C (pc := 85) 98 dX12_findMoves_85 (by decide) (fun c85 => ?_) (fun c85 => absurd c85 (by first | decide | (subst_vars; decide)))
              refine g_iconst C (pc := 98) 0 dX12_findMoves_98 (by decide) ?_
              refine g_istore C (pc := 99) dX12_findMoves_99 (by decide) (fun v99 => [(7, .int v99), (6, .int v81), (5, .int (nI j)), (3, .int (nI (mvsX F b w j).length)), (4, .int v16), (0, .ref 97), (1, .int (nI w)), (2, .int (nI d))]) (fun _ => rfl) (fun v99 ev99 => ?_)
              have hb7 : ∀ i, i < 32 → bt v99 i = tgX F b w j i := fun i hi => by
                rw [ev99]
                first
                | (rw [hz i, b_0]; done)
                | (rw [e92 i hi]; unfold tgX; rw [if_neg hnP]; done)
              refine g_iconst C (pc := 101) 0 dX12_findMoves_101 (by decide) ?_
              refine g_istore C (pc := 102) dX12_findMoves_102 (by decide) (fun v102 => [(8, .int v102), (7, .int v99), (6, .int v81), (5, .int (nI j)), (3, .int (nI (mvsX F b w j).length)), (4, .int v16), (0, .ref 97), (1, .int (nI w)), (2, .int (nI d))]) (fun _ => rfl) (fun v102 ev102 => ?_)
              have L104 : ∀ (k9 : Nat) (i0 : Nat) (wz8 : Int32) (wz3 : Int32) (J2 : Mem) (hw8 : wz8 = nI i0) (hw3 : wz3 = nI ((mvsX F b w j).length + (mvX F b w j i0).length)) (hi0 : i0 ≤ rW F * rH F) (hJ2 : ∀ i, i ≠ 108 → J2 i = I i) (hK8 : ∀ z, z < 64 * d ∨ 64 * d + 24 ≤ z → J2 108 z = I 108 z) (hC2 : ∀ k m, (mvsX F b w j ++ mvX F b w j i0)[k]? = some m → J2 108 (64 * d + k) = nI m), rW F * rH F - i0 < k9 → G κ n ρ 104 [(8, .int wz8), (3, .int wz3), (7, .int v99), (4, .int v16), (5, .int (nI j)), (0, .ref 97), (1, .int (nI w)), (2, .int (nI d))] [] J2 := by
                intro k9
                induction k9 with
                | zero => intro i0 wz8 wz3 J2 hw8 hw3 hi0 hJ2 hK8 hC2 hm104; exact absurd hm104 (Nat.not_lt_zero _)
                | succ k9 ih104 =>
                  intro i0 wz8 wz3 J2 hw8 hw3 hi0 hJ2 hK8 hC2 hm104
                  subst hw8 hw3
                  have hlen2 := mvX_len (F := F) (b := b) (w := w) (j := j) (k := i0)
                  have qw2 : J2 97 2 = nI (rW F) := by rw [hJ2 97 (by decide)]; exact qw
                  have qh2 : J2 97 3 = nI (rH F) := by rw [hJ2 97 (by decide)]; exact qh
                  have hb0 : bt (v99 >>> (nI i0 &&& 31)) 0 = tgX F b w j i0 ∨ rW F * rH F ≤ i0 := by
                    rcases Nat.lt_or_ge i0 (rW F * rH F) with h | h
                    · left
                      refine (b_sshr i0 (by omega) _ (by decide)).trans ?_
                      rw [if_pos (by omega)]; exact hb7 i0 (by omega)
                    · exact Or.inr h
                  refine g_iload C (pc := 104) dX12_findMoves_104 0 rfl ?_
                  refine g_aload_n C (pc := 106) dX12_findMoves_106 5 rfl ?_
                  refine g_getI C (pc := 107) fl_RX12_99 (by decide) (by first | assumption | rfl | omega) (by first | assumption | rfl | omega) dX12_findMoves_107 ?_
                  refine g_aload_n C (pc := 110) dX12_findMoves_110 5 rfl ?_
                  refine g_getI C (pc := 111) fl_RX12_102 (by decide) (by first | assumption | rfl | omega) (by first | assumption | rfl | omega) dX12_findMoves_111 ?_
                  refine g_imul C (pc := 114) dX12_findMoves_114 ?_
                  refine g_icmp_ge C (pc := 115) 157 dX12_findMoves_115 (by decide) (fun c115 => ?_) (fun c115 => ?_)
                  · have hE : mvX F b w j i0 = mvX F b w j (rW F * rH F) := by
                      rw [qw2, qh2, pk_mul, nI_leI (by omega) (by omega)] at c115
                      rw [show i0 = rW F * rH F by omega]
                    refine g_iinc C (pc := 157) (1) dX12_findMoves_157 4 rfl (by decide) (by decide) (fun v157 => [(5, .int v157), (8, .int (nI i0)), (3, .int (nI ((mvsX F b w j).length + (mvX F b w j i0).length))), (7, .int v99), (4, .int v16), (0, .ref 97), (1, .int (nI w)), (2, .int (nI d))]) (fun _ => rfl) (fun v157 ev157 => ?_)
                    refine g_goto C (pc := 160) 21 dX12_findMoves_160 (by decide) ?_
                    refine g_lv C [0, 2, 4, 5, 6, 7] rfl (ih21 (j + 1) _ _ _ ?_ ?_ ?_ ?_ ?_ ?_ (by omega))
                    · subst ev157; exact nI_1 _
                    · rw [mvsX_s hrw, List.length_append, ← hE]
                    · omega
                    · exact hJ2
                    · exact hK8
                    · intro k m h; rw [mvsX_s hrw, ← hE] at h; exact hC2 k m h
                  · rw [qw2, qh2, pk_mul, nI_ltI (by omega) (by omega)] at c115
                    refine g_iload C (pc := 118) dX12_findMoves_118 2 rfl ?_
                    refine g_iload C (pc := 120) dX12_findMoves_120 0 rfl ?_
                    refine g_ishr C (pc := 122) dX12_findMoves_122 ?_
                    refine g_iconst C (pc := 123) 1 dX12_findMoves_123 (by decide) ?_
                    refine g_iand C (pc := 124) dX12_findMoves_124 ?_
                    refine g_iconst C (pc := 125) 1 dX12_findMoves_125 (by decide) ?_
                    refine g_icmp_ne C (pc := 126) 151 dX12_findMoves_126 (by decide) (fun c126 => ?_) (fun c126 => ?_)
                    · have htg : tgX F b w j i0 = false := by
                        have hb1 := hb0.resolve_right (by omega)
                        cases h : tgX F b w j i0 with
                        | false => rfl
                        | true => exact absurd (and_1b.mpr (hb1.trans h)) c126
                      refine g_iinc C (pc := 151) (1) dX12_findMoves_151 0 rfl (by decide) (by decide) (fun v151 => [(8, .int v151), (3, .int (nI ((mvsX F b w j).length + (mvX F b w j i0).length))), (7, .int v99), (4, .int v16), (5, .int (nI j)), (0, .ref 97), (1, .int (nI w)), (2, .int (nI d))]) (fun _ => rfl) (fun v151 ev151 => ?_)
                      refine g_goto C (pc := 154) 104 dX12_findMoves_154 (by decide) ?_
                      refine g_lv C [0, 1, 2, 3, 4, 5, 6, 7] rfl (ih104 (i0 + 1) _ _ _ ?_ ?_ ?_ ?_ ?_ ?_ (by omega))
                      · subst ev151; exact nI_1 _
                      · rw [mvX_s, htg]
                        first | (subst ev148; rw [if_pos rfl, List.length_append]; exact (nI_add _ 1).trans rfl) | (rw [if_neg (by decide), List.append_nil])
                      · omega
                      · first | exact hJ2 | (intro i hi; rw [wr_n hi]; exact hJ2 i hi)
                      · first | exact hK8 | (intro z hz; rw [wr_sn (by rw [hpx]; omega)]; exact hK8 z hz)
                      · intro k m h
                        rw [mvX_s, htg] at h
                        first
                        | (rw [if_neg (by decide), List.append_nil] at h; exact hC2 k m h)
                        | (rw [if_pos rfl, ← List.append_assoc] at h; exact push_off hC2 (by rw [hpx, List.length_append]) (by rw [show (100 : Int32) = nI 100 from rfl, pk_mul, nI_add]) h)
                    · have hix : 64 * nI d + nI ((mvsX F b w j).length + (mvX F b w j i0).length) = nI (64 * d + ((mvsX F b w j).length + (mvX F b w j i0).length)) := by rw [show (64 : Int32) = nI 64 from rfl, pk_mul, nI_add]
                      have htg : tgX F b w j i0 = true := (hb0.resolve_right (by omega)).symm.trans (and_1b.mp c126)
                      have hlen3 : (mvX F b w j i0).length + 1 ≤ 4 := by
                        have := mvX_len (F := F) (b := b) (w := w) (j := j) (k := i0 + 1)
                        rw [mvX_s, htg, List.length_append] at this
                        exact this
                      have hpx : (64 * nI d + nI ((mvsX F b w j).length + (mvX F b w j i0).length)).toNatClampNeg = 64 * d + ((mvsX F b w j).length + (mvX F b w j i0).length) := by rw [hix]; exact nI_clamp (by omega)
                      refine g_aload_n C (pc := 129) dX12_findMoves_129 5 rfl ?_
                      refine g_getR C (pc := 130) fl_RX12_41 (by decide) (by first | assumption | rfl | omega) (by first | assumption | rfl | omega) (by first | assumption | rfl | omega) dX12_findMoves_130 ?_
                      refine g_bipush C (pc := 133) 64 dX12_findMoves_133 (by decide) ?_
                      refine g_iload_n C (pc := 135) dX12_findMoves_135 7 rfl ?_
                      refine g_imul C (pc := 136) dX12_findMoves_136 ?_
                      refine g_iload_n C (pc := 137) dX12_findMoves_137 1 rfl ?_
                      refine g_iadd C (pc := 138) dX12_findMoves_138 ?_
                      refine g_bipush C (pc := 139) 100 dX12_findMoves_139 (by decide) ?_
                      refine g_iload C (pc := 141) dX12_findMoves_141 4 rfl ?_
                      refine g_imul C (pc := 143) dX12_findMoves_143 ?_
                      refine g_iload C (pc := 144) dX12_findMoves_144 0 rfl ?_
                      refine g_iadd C (pc := 146) dX12_findMoves_146 ?_
                      refine g_iast C (pc := 147) (by first | assumption | rfl | omega) (by first | assumption | rfl | omega) hn9 (by rw [hix]; exact vp_in_nI (by omega) (by decide)) dX12_findMoves_147 ?_
                      refine g_iinc C (pc := 148) (1) dX12_findMoves_148 1 rfl (by decide) (by decide) (fun v148 => [(3, .int v148), (8, .int (nI i0)), (7, .int v99), (4, .int v16), (5, .int (nI j)), (0, .ref 97), (1, .int (nI w)), (2, .int (nI d))]) (fun _ => rfl) (fun v148 ev148 => ?_)
                      refine g_iinc C (pc := 151) (1) dX12_findMoves_151 1 rfl (by decide) (by decide) (fun v151 => [(8, .int v151), (3, .int v148), (7, .int v99), (4, .int v16), (5, .int (nI j)), (0, .ref 97), (1, .int (nI w)), (2, .int (nI d))]) (fun _ => rfl) (fun v151 ev151 => ?_)
                      refine g_goto C (pc := 154) 104 dX12_findMoves_154 (by decide) ?_
                      refine g_lv C [0, 1, 2, 3, 4, 5, 6, 7] rfl (ih104 (i0 + 1) _ _ _ ?_ ?_ ?_ ?_ ?_ ?_ (by omega))
                      · subst ev151; exact nI_1 _
                      · rw [mvX_s, htg]
                        first | (subst ev148; rw [if_pos rfl, List.length_append]; exact (nI_add _ 1).trans rfl) | (rw [if_neg (by decide), List.append_nil])
                      · omega
                      · first | exact hJ2 | (intro i hi; rw [wr_n hi]; exact hJ2 i hi)
                      · first | exact hK8 | (intro z hz; rw [wr_sn (by rw [hpx]; omega)]; exact hK8 z hz)
                      · intro k m h
                        rw [mvX_s, htg] at h
                        first
                        | (rw [if_neg (by decide), List.append_nil] at h; exact hC2 k m h)
                        | (rw [if_pos rfl, ← List.append_assoc] at h; exact push_off hC2 (by rw [hpx, List.length_append]) (by rw [show (100 : Int32) = nI 100 from rfl, pk_mul, nI_add]) h)
              refine g_lv C [0, 4, 1, 5, 3, 6, 7, 8] rfl (L104 (_ + 1) 0 _ _ _ ?_ ?_ ?_ ?_ ?_ ?_ (by first | omega | exact Nat.lt_succ_self _))
              · subst ev102; rfl
              · rw [mvX_0]; rfl
              · omega
              · exact hJ
              · exact hJ8
              · intro k m h; rw [mvX_0, List.append_nil] at h; exact hCo k m h
            · rw [hcj, (hqfJ.2.2.2 j hjn).1, hqbJ.2] at c51
              have hsm : rSd F j = bM b := (nI_eq (by omega) (by omega)).mp c51
              refine g_aload_n C (pc := 54) dX12_findMoves_54 3 rfl ?_
              refine g_getR C (pc := 55) fl_RX12_35 (by decide) (by first | assumption | rfl | omega) (by first | assumption | rfl | omega) (by first | assumption | rfl | omega) dX12_findMoves_55 ?_
              refine g_iload C (pc := 58) dX12_findMoves_58 0 rfl ?_
              refine g_iald C (pc := 60) (by first | assumption | rfl | omega) (by first | assumption | rfl | omega) (vp_in_nI (by omega) (by decide)) dX12_findMoves_60 ?_
              refine g_bipush C (pc := 61) (-4) dX12_findMoves_61 (by decide) ?_
              refine g_icmp_eq C (pc := 63) 80 dX12_findMoves_63 (by decide) (fun c63 => ?_) (fun c63 => ?_)
              · rw [hcj, (hqbJ.1 j hjn).1] at c63
                have hpn := (oI_none (pl_lt hbw hjn)).mp c63
                have hz : ∀ i, tgX F b w j i = false := fun i => by
                  unfold tgX
                  split
                  · rfl
                  · unfold tgt
                    split
                    · rfl
                    · rename_i q9 hq9
                      rw [hpn] at hq9; cases hq9
                refine g_iconst C (pc := 80) 0 dX12_findMoves_80 (by decide) ?_
                refine g_istore C (pc := 81) dX12_findMoves_81 (by decide) (fun v81 => [(6, .int v81), (5, .int (nI j)), (3, .int (nI (mvsX F b w j).length)), (4, .int v16), (0, .ref 97), (1, .int (nI w)), (2, .int (nI d))]) (fun _ => rfl) (fun v81 ev81 => ?_)
                first
                | have hz : ∀ i, tgX F b w j i = false := fun i => if_pos hP
                | skip
                refine g_iload C (pc := 83) dX12_findMoves_83 0 rfl ?_
                refine g_if_eq C (pc := 85) 98 dX12_findMoves_85 (by decide) (fun c85 => ?_) (fun c85 => absurd c85 (by first | decide | (subst_vars; decide)))
                refine g_iconst C (pc := 98) 0 dX12_findMoves_98 (by decide) ?_
                refine g_istore C (pc := 99) dX12_findMoves_99 (by decide) (fun v99 => [(7, .int v99), (6, .int v81), (5, .int (nI j)), (3, .int (nI (mvsX F b w j).length)), (4, .int v16), (0, .ref 97), (1, .int (nI w)), (2, .int (nI d))]) (fun _ => rfl) (fun v99 ev99 => ?_)
                have hb7 : ∀ i, i < 32 → bt v99 i = tgX F b w j i := fun i hi => by
                  rw [ev99]
                  first
                  | (rw [hz i, b_0]; done)
                  | (rw [e92 i hi]; unfold tgX; rw [if_neg hnP]; done)
                refine g_iconst C (pc := 101) 0 dX12_findMoves_101 (by decide) ?_
                refine g_istore C (pc := 102) dX12_findMoves_102 (by decide) (fun v102 => [(8, .int v102), (7, .int v99), (6, .int v81), (5, .int (nI j)), (3, .int (nI (mvsX F b w j).length)), (4, .int v16), (0, .ref 97), (1, .int (nI w)), (2, .int (nI d))]) (fun _ => rfl) (fun v102 ev102 => ?_)
                have L104 : ∀ (k9 : Nat) (i0 : Nat) (wz8 : Int32) (wz3 : Int32) (J2 : Mem) (hw8 : wz8 = nI i0) (hw3 : wz3 = nI ((mvsX F b w j).length + (mvX F b w j i0).length)) (hi0 : i0 ≤ rW F * rH F) (hJ2 : ∀ i, i ≠ 108 → J2 i = I i) (hK8 : ∀ z, z < 64 * d ∨ 64 * d + 24 ≤ z → J2 108 z = I 108 z) (hC2 : ∀ k m, (mvsX F b w j ++ mvX F b w j i0)[k]? = some m → J2 108 (64 * d + k) = nI m), rW F * rH F - i0 < k9 → G κ n ρ 104 [(8, .int wz8), (3, .int wz3), (7, .int v99), (4, .int v16), (5, .int (nI j)), (0, .ref 97), (1, .int (nI w)), (2, .int (nI d))] [] J2 := by
                  intro k9
                  induction k9 with
                  | zero => intro i0 wz8 wz3 J2 hw8 hw3 hi0 hJ2 hK8 hC2 hm104; exact absurd hm104 (Nat.not_lt_zero _)
                  | succ k9 ih104 =>
                    intro i0 wz8 wz3 J2 hw8 hw3 hi0 hJ2 hK8 hC2 hm104
                    subst hw8 hw3
                    have hlen2 := mvX_len (F := F) (b := b) (w := w) (j := j) (k := i0)
                    have qw2 : J2 97 2 = nI (rW F) := by rw [hJ2 97 (by decide)]; exact qw
                    have qh2 : J2 97 3 = nI (rH F) := by rw [hJ2 97 (by decide)]; exact qh
                    have hb0 : bt (v99 >>> (nI i0 &&& 31)) 0 = tgX F b w j i0 ∨ rW F * rH F ≤ i0 := by
                      rcases Nat.lt_or_ge i0 (rW F * rH F) with h | h
                      · left
                        refine (b_sshr i0 (by omega) _ (by decide)).trans ?_
                        rw [if_pos (by omega)]; exact hb7 i0 (by omega)
                      · exact Or.inr h
                    refine g_iload C (pc := 104) dX12_findMoves_104 0 rfl ?_
                    refine g_aload_n C (pc := 106) dX12_findMoves_106 5 rfl ?_
                    refine g_getI C (pc := 107) fl_RX12_99 (by decide) (by first | assumption | rfl | omega) (by first | assumption | rfl | omega) dX12_findMoves_107 ?_
                    refine g_aload_n C (pc := 110) dX12_findMoves_110 5 rfl ?_
                    refine g_getI C (pc := 111) fl_RX12_102 (by decide) (by first | assumption | rfl | omega) (by first | assumption | rfl | omega) dX12_findMoves_111 ?_
                    refine g_imul C (pc := 114) dX12_findMoves_114 ?_
                    refine g_icmp_ge C (pc := 115) 157 dX12_findMoves_115 (by decide) (fun c115 => ?_) (fun c115 => ?_)
                    · have hE : mvX F b w j i0 = mvX F b w j (rW F * rH F) := by
                        rw [qw2, qh2, pk_mul, nI_leI (by omega) (by omega)] at c115
                        rw [show i0 = rW F * rH F by omega]
                      refine g_iinc C (pc := 157) (1) dX12_findMoves_157 4 rfl (by decide) (by decide) (fun v157 => [(5, .int v157), (8, .int (nI i0)), (3, .int (nI ((mvsX F b w j).length + (mvX F b w j i0).length))), (7, .int v99), (4, .int v16), (0, .ref 97), (1, .int (nI w)), (2, .int (nI d))]) (fun _ => rfl) (fun v157 ev157 => ?_)
                      refine g_goto C (pc := 160) 21 dX12_findMoves_160 (by decide) ?_
                      refine g_lv C [0, 2, 4, 5, 6, 7] rfl (ih21 (j + 1) _ _ _ ?_ ?_ ?_ ?_ ?_ ?_ (by omega))
                      · subst ev157; exact nI_1 _
                      · rw [mvsX_s hrw, List.length_append, ← hE]
                      · omega
                      · exact hJ2
                      · exact hK8
                      · intro k m h; rw [mvsX_s hrw, ← hE] at h; exact hC2 k m h
                    · rw [qw2, qh2, pk_mul, nI_ltI (by omega) (by omega)] at c115
                      refine g_iload C (pc := 118) dX12_findMoves_118 2 rfl ?_
                      refine g_iload C (pc := 120) dX12_findMoves_120 0 rfl ?_
                      refine g_ishr C (pc := 122) dX12_findMoves_122 ?_
                      refine g_iconst C (pc := 123) 1 dX12_findMoves_123 (by decide) ?_
                      refine g_iand C (pc := 124) dX12_findMoves_124 ?_
                      refine g_iconst C (pc := 125) 1 dX12_findMoves_125 (by decide) ?_
                      refine g_icmp_ne C (pc := 126) 151 dX12_findMoves_126 (by decide) (fun c126 => ?_) (fun c126 => ?_)
                      · have htg : tgX F b w j i0 = false := by
                          have hb1 := hb0.resolve_right (by omega)
                          cases h : tgX F b w j i0 with
                          | false => rfl
                          | true => exact absurd (and_1b.mpr (hb1.trans h)) c126
                        refine g_iinc C (pc := 151) (1) dX12_findMoves_151 0 rfl (by decide) (by decide) (fun v151 => [(8, .int v151), (3, .int (nI ((mvsX F b w j).length + (mvX F b w j i0).length))), (7, .int v99), (4, .int v16), (5, .int (nI j)), (0, .ref 97), (1, .int (nI w)), (2, .int (nI d))]) (fun _ => rfl) (fun v151 ev151 => ?_)
                        refine g_goto C (pc := 154) 104 dX12_findMoves_154 (by decide) ?_
                        refine g_lv C [0, 1, 2, 3, 4, 5, 6, 7] rfl (ih104 (i0 + 1) _ _ _ ?_ ?_ ?_ ?_ ?_ ?_ (by omega))
                        · subst ev151; exact nI_1 _
                        · rw [mvX_s, htg]
                          first | (subst ev148; rw [if_pos rfl, List.length_append]; exact (nI_add _ 1).trans rfl) | (rw [if_neg (by decide), List.append_nil])
                        · omega
                        · first | exact hJ2 | (intro i hi; rw [wr_n hi]; exact hJ2 i hi)
                        · first | exact hK8 | (intro z hz; rw [wr_sn (by rw [hpx]; omega)]; exact hK8 z hz)
                        · intro k m h
                          rw [mvX_s, htg] at h
                          first
                          | (rw [if_neg (by decide), List.append_nil] at h; exact hC2 k m h)
                          | (rw [if_pos rfl, ← List.append_assoc] at h; exact push_off hC2 (by rw [hpx, List.length_append]) (by rw [show (100 : Int32) = nI 100 from rfl, pk_mul, nI_add]) h)
                      · have hix : 64 * nI d + nI ((mvsX F b w j).length + (mvX F b w j i0).length) = nI (64 * d + ((mvsX F b w j).length + (mvX F b w j i0).length)) := by rw [show (64 : Int32) = nI 64 from rfl, pk_mul, nI_add]
                        have htg : tgX F b w j i0 = true := (hb0.resolve_right (by omega)).symm.trans (and_1b.mp c126)
                        have hlen3 : (mvX F b w j i0).length + 1 ≤ 4 := by
                          have := mvX_len (F := F) (b := b) (w := w) (j := j) (k := i0 + 1)
                          rw [mvX_s, htg, List.length_append] at this
                          exact this
                        have hpx : (64 * nI d + nI ((mvsX F b w j).length + (mvX F b w j i0).length)).toNatClampNeg = 64 * d + ((mvsX F b w j).length + (mvX F b w j i0).length) := by rw [hix]; exact nI_clamp (by omega)
                        refine g_aload_n C (pc := 129) dX12_findMoves_129 5 rfl ?_
                        refine g_getR C (pc := 130) fl_RX12_41 (by decide) (by first | assumption | rfl | omega) (by first | assumption | rfl | omega) (by first | assumption | rfl | omega) dX12_findMoves_130 ?_
                        refine g_bipush C (pc := 133) 64 dX12_findMoves_133 (by decide) ?_
                        refine g_iload_n C (pc := 135) dX12_findMoves_135 7 rfl ?_
                        refine g_imul C (pc := 136) dX12_findMoves_136 ?_
                        refine g_iload_n C (pc := 137) dX12_findMoves_137 1 rfl ?_
                        refine g_iadd C (pc := 138) dX12_findMoves_138 ?_
                        refine g_bipush C (pc := 139) 100 dX12_findMoves_139 (by decide) ?_
                        refine g_iload C (pc := 141) dX12_findMoves_141 4 rfl ?_
                        refine g_imul C (pc := 143) dX12_findMoves_143 ?_
                        refine g_iload C (pc := 144) dX12_findMoves_144 0 rfl ?_
                        refine g_iadd C (pc := 146) dX12_findMoves_146 ?_
                        refine g_iast C (pc := 147) (by first | assumption | rfl | omega) (by first | assumption | rfl | omega) hn9 (by rw [hix]; exact vp_in_nI (by omega) (by decide)) dX12_findMoves_147 ?_
                        refine g_iinc C (pc := 148) (1) dX12_findMoves_148 1 rfl (by decide) (by decide) (fun v148 => [(3, .int v148), (8, .int (nI i0)), (7, .int v99), (4, .int v16), (5, .int (nI j)), (0, .ref 97), (1, .int (nI w)), (2, .int (nI d))]) (fun _ => rfl) (fun v148 ev148 => ?_)
                        refine g_iinc C (pc := 151) (1) dX12_findMoves_151 1 rfl (by decide) (by decide) (fun v151 => [(8, .int v151), (3, .int v148), (7, .int v99), (4, .int v16), (5, .int (nI j)), (0, .ref 97), (1, .int (nI w)), (2, .int (nI d))]) (fun _ => rfl) (fun v151 ev151 => ?_)
                        refine g_goto C (pc := 154) 104 dX12_findMoves_154 (by decide) ?_
                        refine g_lv C [0, 1, 2, 3, 4, 5, 6, 7] rfl (ih104 (i0 + 1) _ _ _ ?_ ?_ ?_ ?_ ?_ ?_ (by omega))
                        · subst ev151; exact nI_1 _
                        · rw [mvX_s, htg]
                          first | (subst ev148; rw [if_pos rfl, List.length_append]; exact (nI_add _ 1).trans rfl) | (rw [if_neg (by decide), List.append_nil])
                        · omega
                        · first | exact hJ2 | (intro i hi; rw [wr_n hi]; exact hJ2 i hi)
                        · first | exact hK8 | (intro z hz; rw [wr_sn (by rw [hpx]; omega)]; exact hK8 z hz)
                        · intro k m h
                          rw [mvX_s, htg] at h
                          first
                          | (rw [if_neg (by decide), List.append_nil] at h; exact hC2 k m h)
                          | (rw [if_pos rfl, ← List.append_assoc] at h; exact push_off hC2 (by rw [hpx, List.length_append]) (by rw [show (100 : Int32) = nI 100 from rfl, pk_mul, nI_add]) h)
                refine g_lv C [0, 4, 1, 5, 3, 6, 7, 8] rfl (L104 (_ + 1) 0 _ _ _ ?_ ?_ ?_ ?_ ?_ ?_ (by first | omega | exact Nat.lt_succ_self _))
                · subst ev102; rfl
                · rw [mvX_0]; rfl
                · omega
                · exact hJ
                · exact hJ8
                · intro k m h; rw [mvX_0, List.append_nil] at h; exact hCo k m h
              · rw [hcj, (hqbJ.1 j hjn).1] at c63
                obtain ⟨q0, hq0⟩ : ∃ q0, bP b j = some q0 := by
                  cases h9 : bP b j with
                  | none => exact absurd (by rw [h9]; rfl) c63
                  | some a => exact ⟨a, rfl⟩
                refine g_aload_n C (pc := 66) dX12_findMoves_66 3 rfl ?_
                refine g_getR C (pc := 67) fl_RX12_38 (by decide) (by first | assumption | rfl | omega) (by first | assumption | rfl | omega) (by first | assumption | rfl | omega) dX12_findMoves_67 ?_
                refine g_iload C (pc := 70) dX12_findMoves_70 0 rfl ?_
                refine g_iald C (pc := 72) (by first | assumption | rfl | omega) (by first | assumption | rfl | omega) (vp_in_nI (by omega) (by decide)) dX12_findMoves_72 ?_
                refine g_if_le C (pc := 73) 80 dX12_findMoves_73 (by decide) (fun c73 => ?_) (fun c73 => ?_)
                · rw [hcj, (hqbJ.1 j hjn).2, show (0 : Int32) = nI 0 from rfl, nI_leI (by omega) (by decide)] at c73
                  have hz : ∀ i, tgX F b w j i = false := fun i => by
                    unfold tgX
                    split
                    · rfl
                    · unfold tgt
                      split
                      · rfl
                      · rename_i q9 hq9
                        simp [show ¬ 1 ≤ bO b j by omega]
                  refine g_iconst C (pc := 80) 0 dX12_findMoves_80 (by decide) ?_
                  refine g_istore C (pc := 81) dX12_findMoves_81 (by decide) (fun v81 => [(6, .int v81), (5, .int (nI j)), (3, .int (nI (mvsX F b w j).length)), (4, .int v16), (0, .ref 97), (1, .int (nI w)), (2, .int (nI d))]) (fun _ => rfl) (fun v81 ev81 => ?_)
                  first
                  | have hz : ∀ i, tgX F b w j i = false := fun i => if_pos hP
                  | skip
                  refine g_iload C (pc := 83) dX12_findMoves_83 0 rfl ?_
                  refine g_if_eq C (pc := 85) 98 dX12_findMoves_85 (by decide) (fun c85 => ?_) (fun c85 => absurd c85 (by first | decide | (subst_vars; decide)))
                  refine g_iconst C (pc := 98) 0 dX12_findMoves_98 (by decide) ?_
                  refine g_istore C (pc := 99) dX12_findMoves_99 (by decide) (fun v99 => [(7, .int v99), (6, .int v81), (5, .int (nI j)), (3, .int (nI (mvsX F b w j).length)), (4, .int v16), (0, .ref 97), (1, .int (nI w)), (2, .int (nI d))]) (fun _ => rfl) (fun v99 ev99 => ?_)
                  have hb7 : ∀ i, i < 32 → bt v99 i = tgX F b w j i := fun i hi => by
                    rw [ev99]
                    first
                    | (rw [hz i, b_0]; done)
                    | (rw [e92 i hi]; unfold tgX; rw [if_neg hnP]; done)
                  refine g_iconst C (pc := 101) 0 dX12_findMoves_101 (by decide) ?_
                  refine g_istore C (pc := 102) dX12_findMoves_102 (by decide) (fun v102 => [(8, .int v102), (7, .int v99), (6, .int v81), (5, .int (nI j)), (3, .int (nI (mvsX F b w j).length)), (4, .int v16), (0, .ref 97), (1, .int (nI w)), (2, .int (nI d))]) (fun _ => rfl) (fun v102 ev102 => ?_)
                  have L104 : ∀ (k9 : Nat) (i0 : Nat) (wz8 : Int32) (wz3 : Int32) (J2 : Mem) (hw8 : wz8 = nI i0) (hw3 : wz3 = nI ((mvsX F b w j).length + (mvX F b w j i0).length)) (hi0 : i0 ≤ rW F * rH F) (hJ2 : ∀ i, i ≠ 108 → J2 i = I i) (hK8 : ∀ z, z < 64 * d ∨ 64 * d + 24 ≤ z → J2 108 z = I 108 z) (hC2 : ∀ k m, (mvsX F b w j ++ mvX F b w j i0)[k]? = some m → J2 108 (64 * d + k) = nI m), rW F * rH F - i0 < k9 → G κ n ρ 104 [(8, .int wz8), (3, .int wz3), (7, .int v99), (4, .int v16), (5, .int (nI j)), (0, .ref 97), (1, .int (nI w)), (2, .int (nI d))] [] J2 := by
                    intro k9
                    induction k9 with
                    | zero => intro i0 wz8 wz3 J2 hw8 hw3 hi0 hJ2 hK8 hC2 hm104; exact absurd hm104 (Nat.not_lt_zero _)
                    | succ k9 ih104 =>
                      intro i0 wz8 wz3 J2 hw8 hw3 hi0 hJ2 hK8 hC2 hm104
                      subst hw8 hw3
                      have hlen2 := mvX_len (F := F) (b := b) (w := w) (j := j) (k := i0)
                      have qw2 : J2 97 2 = nI (rW F) := by rw [hJ2 97 (by decide)]; exact qw
                      have qh2 : J2 97 3 = nI (rH F) := by rw [hJ2 97 (by decide)]; exact qh
                      have hb0 : bt (v99 >>> (nI i0 &&& 31)) 0 = tgX F b w j i0 ∨ rW F * rH F ≤ i0 := by
                        rcases Nat.lt_or_ge i0 (rW F * rH F) with h | h
                        · left
                          refine (b_sshr i0 (by omega) _ (by decide)).trans ?_
                          rw [if_pos (by omega)]; exact hb7 i0 (by omega)
                        · exact Or.inr h
                      refine g_iload C (pc := 104) dX12_findMoves_104 0 rfl ?_
                      refine g_aload_n C (pc := 106) dX12_findMoves_106 5 rfl ?_
                      refine g_getI C (pc := 107) fl_RX12_99 (by decide) (by first | assumption | rfl | omega) (by first | assumption | rfl | omega) dX12_findMoves_107 ?_
                      refine g_aload_n C (pc := 110) dX12_findMoves_110 5 rfl ?_
                      refine g_getI C (pc := 111) fl_RX12_102 (by decide) (by first | assumption | rfl | omega) (by first | assumption | rfl | omega) dX12_findMoves_111 ?_
                      refine g_imul C (pc := 114) dX12_findMoves_114 ?_
                      refine g_icmp_ge C (pc := 115) 157 dX12_findMoves_115 (by decide) (fun c115 => ?_) (fun c115 => ?_)
                      · have hE : mvX F b w j i0 = mvX F b w j (rW F * rH F) := by
                          rw [qw2, qh2, pk_mul, nI_leI (by omega) (by omega)] at c115
                          rw [show i0 = rW F * rH F by omega]
                        refine g_iinc C (pc := 157) (1) dX12_findMoves_157 4 rfl (by decide) (by decide) (fun v157 => [(5, .int v157), (8, .int (nI i0)), (3, .int (nI ((mvsX F b w j).length + (mvX F b w j i0).length))), (7, .int v99), (4, .int v16), (0, .ref 97), (1, .int (nI w)), (2, .int (nI d))]) (fun _ => rfl) (fun v157 ev157 => ?_)
                        refine g_goto C (pc := 160) 21 dX12_findMoves_160 (by decide) ?_
                        refine g_lv C [0, 2, 4, 5, 6, 7] rfl (ih21 (j + 1) _ _ _ ?_ ?_ ?_ ?_ ?_ ?_ (by omega))
                        · subst ev157; exact nI_1 _
                        · rw [mvsX_s hrw, List.length_append, ← hE]
                        · omega
                        · exact hJ2
                        · exact hK8
                        · intro k m h; rw [mvsX_s hrw, ← hE] at h; exact hC2 k m h
                      · rw [qw2, qh2, pk_mul, nI_ltI (by omega) (by omega)] at c115
                        refine g_iload C (pc := 118) dX12_findMoves_118 2 rfl ?_
                        refine g_iload C (pc := 120) dX12_findMoves_120 0 rfl ?_
                        refine g_ishr C (pc := 122) dX12_findMoves_122 ?_
                        refine g_iconst C (pc := 123) 1 dX12_findMoves_123 (by decide) ?_
                        refine g_iand C (pc := 124) dX12_findMoves_124 ?_
                        refine g_iconst C (pc := 125) 1 dX12_findMoves_125 (by decide) ?_
                        refine g_icmp_ne C (pc := 126) 151 dX12_findMoves_126 (by decide) (fun c126 => ?_) (fun c126 => ?_)
                        · have htg : tgX F b w j i0 = false := by
                            have hb1 := hb0.resolve_right (by omega)
                            cases h : tgX F b w j i0 with
                            | false => rfl
                            | true => exact absurd (and_1b.mpr (hb1.trans h)) c126
                          refine g_iinc C (pc := 151) (1) dX12_findMoves_151 0 rfl (by decide) (by decide) (fun v151 => [(8, .int v151), (3, .int (nI ((mvsX F b w j).length + (mvX F b w j i0).length))), (7, .int v99), (4, .int v16), (5, .int (nI j)), (0, .ref 97), (1, .int (nI w)), (2, .int (nI d))]) (fun _ => rfl) (fun v151 ev151 => ?_)
                          refine g_goto C (pc := 154) 104 dX12_findMoves_154 (by decide) ?_
                          refine g_lv C [0, 1, 2, 3, 4, 5, 6, 7] rfl (ih104 (i0 + 1) _ _ _ ?_ ?_ ?_ ?_ ?_ ?_ (by omega))
                          · subst ev151; exact nI_1 _
                          · rw [mvX_s, htg]
                            first | (subst ev148; rw [if_pos rfl, List.length_append]; exact (nI_add _ 1).trans rfl) | (rw [if_neg (by decide), List.append_nil])
                          · omega
                          · first | exact hJ2 | (intro i hi; rw [wr_n hi]; exact hJ2 i hi)
                          · first | exact hK8 | (intro z hz; rw [wr_sn (by rw [hpx]; omega)]; exact hK8 z hz)
                          · intro k m h
                            rw [mvX_s, htg] at h
                            first
                            | (rw [if_neg (by decide), List.append_nil] at h; exact hC2 k m h)
                            | (rw [if_pos rfl, ← List.append_assoc] at h; exact push_off hC2 (by rw [hpx, List.length_append]) (by rw [show (100 : Int32) = nI 100 from rfl, pk_mul, nI_add]) h)
                        · have hix : 64 * nI d + nI ((mvsX F b w j).length + (mvX F b w j i0).length) = nI (64 * d + ((mvsX F b w j).length + (mvX F b w j i0).length)) := by rw [show (64 : Int32) = nI 64 from rfl, pk_mul, nI_add]
                          have htg : tgX F b w j i0 = true := (hb0.resolve_right (by omega)).symm.trans (and_1b.mp c126)
                          have hlen3 : (mvX F b w j i0).length + 1 ≤ 4 := by
                            have := mvX_len (F := F) (b := b) (w := w) (j := j) (k := i0 + 1)
                            rw [mvX_s, htg, List.length_append] at this
                            exact this
                          have hpx : (64 * nI d + nI ((mvsX F b w j).length + (mvX F b w j i0).length)).toNatClampNeg = 64 * d + ((mvsX F b w j).length + (mvX F b w j i0).length) := by rw [hix]; exact nI_clamp (by omega)
                          refine g_aload_n C (pc := 129) dX12_findMoves_129 5 rfl ?_
                          refine g_getR C (pc := 130) fl_RX12_41 (by decide) (by first | assumption | rfl | omega) (by first | assumption | rfl | omega) (by first | assumption | rfl | omega) dX12_findMoves_130 ?_
                          refine g_bipush C (pc := 133) 64 dX12_findMoves_133 (by decide) ?_
                          refine g_iload_n C (pc := 135) dX12_findMoves_135 7 rfl ?_
                          refine g_imul C (pc := 136) dX12_findMoves_136 ?_
                          refine g_iload_n C (pc := 137) dX12_findMoves_137 1 rfl ?_
                          refine g_iadd C (pc := 138) dX12_findMoves_138 ?_
                          refine g_bipush C (pc := 139) 100 dX12_findMoves_139 (by decide) ?_
                          refine g_iload C (pc := 141) dX12_findMoves_141 4 rfl ?_
                          refine g_imul C (pc := 143) dX12_findMoves_143 ?_
                          refine g_iload C (pc := 144) dX12_findMoves_144 0 rfl ?_
                          refine g_iadd C (pc := 146) dX12_findMoves_146 ?_
                          refine g_iast C (pc := 147) (by first | assumption | rfl | omega) (by first | assumption | rfl | omega) hn9 (by rw [hix]; exact vp_in_nI (by omega) (by decide)) dX12_findMoves_147 ?_
                          refine g_iinc C (pc := 148) (1) dX12_findMoves_148 1 rfl (by decide) (by decide) (fun v148 => [(3, .int v148), (8, .int (nI i0)), (7, .int v99), (4, .int v16), (5, .int (nI j)), (0, .ref 97), (1, .int (nI w)), (2, .int (nI d))]) (fun _ => rfl) (fun v148 ev148 => ?_)
                          refine g_iinc C (pc := 151) (1) dX12_findMoves_151 1 rfl (by decide) (by decide) (fun v151 => [(8, .int v151), (3, .int v148), (7, .int v99), (4, .int v16), (5, .int (nI j)), (0, .ref 97), (1, .int (nI w)), (2, .int (nI d))]) (fun _ => rfl) (fun v151 ev151 => ?_)
                          refine g_goto C (pc := 154) 104 dX12_findMoves_154 (by decide) ?_
                          refine g_lv C [0, 1, 2, 3, 4, 5, 6, 7] rfl (ih104 (i0 + 1) _ _ _ ?_ ?_ ?_ ?_ ?_ ?_ (by omega))
                          · subst ev151; exact nI_1 _
                          · rw [mvX_s, htg]
                            first | (subst ev148; rw [if_pos rfl, List.length_append]; exact (nI_add _ 1).trans rfl) | (rw [if_neg (by decide), List.append_nil])
                          · omega
                          · first | exact hJ2 | (intro i hi; rw [wr_n hi]; exact hJ2 i hi)
                          · first | exact hK8 | (intro z hz; rw [wr_sn (by rw [hpx]; omega)]; exact hK8 z hz)
                          · intro k m h
                            rw [mvX_s, htg] at h
                            first
                            | (rw [if_neg (by decide), List.append_nil] at h; exact hC2 k m h)
                            | (rw [if_pos rfl, ← List.append_assoc] at h; exact push_off hC2 (by rw [hpx, List.length_append]) (by rw [show (100 : Int32) = nI 100 from rfl, pk_mul, nI_add]) h)
                  refine g_lv C [0, 4, 1, 5, 3, 6, 7, 8] rfl (L104 (_ + 1) 0 _ _ _ ?_ ?_ ?_ ?_ ?_ ?_ (by first | omega | exact Nat.lt_succ_self _))
                  · subst ev102; rfl
                  · rw [mvX_0]; rfl
                  · omega
                  · exact hJ
                  · exact hJ8
                  · intro k m h; rw [mvX_0, List.append_nil] at h; exact hCo k m h
                · rw [hcj, (hqbJ.1 j hjn).2, show (0 : Int32) = nI 0 from rfl, nI_ltI (by decide) (by omega)] at c73
                  have ho1 : 1 ≤ bO b j := c73
                  refine g_iconst C (pc := 76) 1 dX12_findMoves_76 (by decide) ?_
                  refine g_goto C (pc := 77) 81 dX12_findMoves_77 (by decide) ?_
                  refine g_istore C (pc := 81) dX12_findMoves_81 (by decide) (fun v81 => [(6, .int v81), (5, .int (nI j)), (3, .int (nI (mvsX F b w j).length)), (4, .int v16), (0, .ref 97), (1, .int (nI w)), (2, .int (nI d))]) (fun _ => rfl) (fun v81 ev81 => ?_)
                  first
                  | have hz : ∀ i, tgX F b w j i = false := fun i => if_pos hP
                  | skip
                  refine g_iload C (pc := 83) dX12_findMoves_83 0 rfl ?_
                  refine g_if_eq C (pc := 85) 98 dX12_findMoves_85 (by decide) (fun c85 => absurd c85 (by first | decide | (subst_vars; decide))) (fun c85 => ?_)
                  refine g_aload_n C (pc := 88) dX12_findMoves_88 4 rfl ?_
                  refine g_iload C (pc := 89) dX12_findMoves_89 1 rfl ?_
                  refine g_iload_n C (pc := 91) dX12_findMoves_91 5 rfl ?_
                  refine g_callVI C (pc := 92) mf_X12_targets lk_RX12_224 (c_X12_targets n ρ J F b j q0 w hn9 hms hqfJ hrw hqeJ hqbJ hbw hjn (by omega) hq0 (hpw j q0 hjn hq0) ho1 hsm) (by decide) (Nat.le_refl _) rfl (by first | assumption | rfl | omega) rfl (by first | assumption | rfl | omega) (Nat.le_of_ble_eq_true rfl) dX12_findMoves_92 (fun v92 I92 h92 => ?_)
                  obtain ⟨e92, rfl⟩ := h92
                  refine g_goto C (pc := 95) 99 dX12_findMoves_95 (by decide) ?_
                  refine g_istore C (pc := 99) dX12_findMoves_99 (by decide) (fun v99 => [(7, .int v99), (6, .int v81), (5, .int (nI j)), (3, .int (nI (mvsX F b w j).length)), (4, .int v16), (0, .ref 97), (1, .int (nI w)), (2, .int (nI d))]) (fun _ => rfl) (fun v99 ev99 => ?_)
                  have hb7 : ∀ i, i < 32 → bt v99 i = tgX F b w j i := fun i hi => by
                    rw [ev99]
                    first
                    | (rw [hz i, b_0]; done)
                    | (rw [e92 i hi]; unfold tgX; rw [if_neg hnP]; done)
                  refine g_iconst C (pc := 101) 0 dX12_findMoves_101 (by decide) ?_
                  refine g_istore C (pc := 102) dX12_findMoves_102 (by decide) (fun v102 => [(8, .int v102), (7, .int v99), (6, .int v81), (5, .int (nI j)), (3, .int (nI (mvsX F b w j).length)), (4, .int v16), (0, .ref 97), (1, .int (nI w)), (2, .int (nI d))]) (fun _ => rfl) (fun v102 ev102 => ?_)
                  have L104 : ∀ (k9 : Nat) (i0 : Nat) (wz8 : Int32) (wz3 : Int32) (J2 : Mem) (hw8 : wz8 = nI i0) (hw3 : wz3 = nI ((mvsX F b w j).length + (mvX F b w j i0).length)) (hi0 : i0 ≤ rW F * rH F) (hJ2 : ∀ i, i ≠ 108 → J2 i = I i) (hK8 : ∀ z, z < 64 * d ∨ 64 * d + 24 ≤ z → J2 108 z = I 108 z) (hC2 : ∀ k m, (mvsX F b w j ++ mvX F b w j i0)[k]? = some m → J2 108 (64 * d + k) = nI m), rW F * rH F - i0 < k9 → G κ n ρ 104 [(8, .int wz8), (3, .int wz3), (7, .int v99), (4, .int v16), (5, .int (nI j)), (0, .ref 97), (1, .int (nI w)), (2, .int (nI d))] [] J2 := by
                    intro k9
                    induction k9 with
                    | zero => intro i0 wz8 wz3 J2 hw8 hw3 hi0 hJ2 hK8 hC2 hm104; exact absurd hm104 (Nat.not_lt_zero _)
                    | succ k9 ih104 =>
                      intro i0 wz8 wz3 J2 hw8 hw3 hi0 hJ2 hK8 hC2 hm104
                      subst hw8 hw3
                      have hlen2 := mvX_len (F := F) (b := b) (w := w) (j := j) (k := i0)
                      have qw2 : J2 97 2 = nI (rW F) := by rw [hJ2 97 (by decide)]; exact qw
                      have qh2 : J2 97 3 = nI (rH F) := by rw [hJ2 97 (by decide)]; exact qh
                      have hb0 : bt (v99 >>> (nI i0 &&& 31)) 0 = tgX F b w j i0 ∨ rW F * rH F ≤ i0 := by
                        rcases Nat.lt_or_ge i0 (rW F * rH F) with h | h
                        · left
                          refine (b_sshr i0 (by omega) _ (by decide)).trans ?_
                          rw [if_pos (by omega)]; exact hb7 i0 (by omega)
                        · exact Or.inr h
                      refine g_iload C (pc := 104) dX12_findMoves_104 0 rfl ?_
                      refine g_aload_n C (pc := 106) dX12_findMoves_106 5 rfl ?_
                      refine g_getI C (pc := 107) fl_RX12_99 (by decide) (by first | assumption | rfl | omega) (by first | assumption | rfl | omega) dX12_findMoves_107 ?_
                      refine g_aload_n C (pc := 110) dX12_findMoves_110 5 rfl ?_
                      refine g_getI C (pc := 111) fl_RX12_102 (by decide) (by first | assumption | rfl | omega) (by first | assumption | rfl | omega) dX12_findMoves_111 ?_
                      refine g_imul C (pc := 114) dX12_findMoves_114 ?_
                      refine g_icmp_ge C (pc := 115) 157 dX12_findMoves_115 (by decide) (fun c115 => ?_) (fun c115 => ?_)
                      · have hE : mvX F b w j i0 = mvX F b w j (rW F * rH F) := by
                          rw [qw2, qh2, pk_mul, nI_leI (by omega) (by omega)] at c115
                          rw [show i0 = rW F * rH F by omega]
                        refine g_iinc C (pc := 157) (1) dX12_findMoves_157 4 rfl (by decide) (by decide) (fun v157 => [(5, .int v157), (8, .int (nI i0)), (3, .int (nI ((mvsX F b w j).length + (mvX F b w j i0).length))), (7, .int v99), (4, .int v16), (0, .ref 97), (1, .int (nI w)), (2, .int (nI d))]) (fun _ => rfl) (fun v157 ev157 => ?_)
                        refine g_goto C (pc := 160) 21 dX12_findMoves_160 (by decide) ?_
                        refine g_lv C [0, 2, 4, 5, 6, 7] rfl (ih21 (j + 1) _ _ _ ?_ ?_ ?_ ?_ ?_ ?_ (by omega))
                        · subst ev157; exact nI_1 _
                        · rw [mvsX_s hrw, List.length_append, ← hE]
                        · omega
                        · exact hJ2
                        · exact hK8
                        · intro k m h; rw [mvsX_s hrw, ← hE] at h; exact hC2 k m h
                      · rw [qw2, qh2, pk_mul, nI_ltI (by omega) (by omega)] at c115
                        refine g_iload C (pc := 118) dX12_findMoves_118 2 rfl ?_
                        refine g_iload C (pc := 120) dX12_findMoves_120 0 rfl ?_
                        refine g_ishr C (pc := 122) dX12_findMoves_122 ?_
                        refine g_iconst C (pc := 123) 1 dX12_findMoves_123 (by decide) ?_
                        refine g_iand C (pc := 124) dX12_findMoves_124 ?_
                        refine g_iconst C (pc := 125) 1 dX12_findMoves_125 (by decide) ?_
                        refine g_icmp_ne C (pc := 126) 151 dX12_findMoves_126 (by decide) (fun c126 => ?_) (fun c126 => ?_)
                        · have htg : tgX F b w j i0 = false := by
                            have hb1 := hb0.resolve_right (by omega)
                            cases h : tgX F b w j i0 with
                            | false => rfl
                            | true => exact absurd (and_1b.mpr (hb1.trans h)) c126
                          refine g_iinc C (pc := 151) (1) dX12_findMoves_151 0 rfl (by decide) (by decide) (fun v151 => [(8, .int v151), (3, .int (nI ((mvsX F b w j).length + (mvX F b w j i0).length))), (7, .int v99), (4, .int v16), (5, .int (nI j)), (0, .ref 97), (1, .int (nI w)), (2, .int (nI d))]) (fun _ => rfl) (fun v151 ev151 => ?_)
                          refine g_goto C (pc := 154) 104 dX12_findMoves_154 (by decide) ?_
                          refine g_lv C [0, 1, 2, 3, 4, 5, 6, 7] rfl (ih104 (i0 + 1) _ _ _ ?_ ?_ ?_ ?_ ?_ ?_ (by omega))
                          · subst ev151; exact nI_1 _
                          · rw [mvX_s, htg]
                            first | (subst ev148; rw [if_pos rfl, List.length_append]; exact (nI_add _ 1).trans rfl) | (rw [if_neg (by decide), List.append_nil])
                          · omega
                          · first | exact hJ2 | (intro i hi; rw [wr_n hi]; exact hJ2 i hi)
                          · first | exact hK8 | (intro z hz; rw [wr_sn (by rw [hpx]; omega)]; exact hK8 z hz)
                          · intro k m h
                            rw [mvX_s, htg] at h
                            first
                            | (rw [if_neg (by decide), List.append_nil] at h; exact hC2 k m h)
                            | (rw [if_pos rfl, ← List.append_assoc] at h; exact push_off hC2 (by rw [hpx, List.length_append]) (by rw [show (100 : Int32) = nI 100 from rfl, pk_mul, nI_add]) h)
                        · have hix : 64 * nI d + nI ((mvsX F b w j).length + (mvX F b w j i0).length) = nI (64 * d + ((mvsX F b w j).length + (mvX F b w j i0).length)) := by rw [show (64 : Int32) = nI 64 from rfl, pk_mul, nI_add]
                          have htg : tgX F b w j i0 = true := (hb0.resolve_right (by omega)).symm.trans (and_1b.mp c126)
                          have hlen3 : (mvX F b w j i0).length + 1 ≤ 4 := by
                            have := mvX_len (F := F) (b := b) (w := w) (j := j) (k := i0 + 1)
                            rw [mvX_s, htg, List.length_append] at this
                            exact this
                          have hpx : (64 * nI d + nI ((mvsX F b w j).length + (mvX F b w j i0).length)).toNatClampNeg = 64 * d + ((mvsX F b w j).length + (mvX F b w j i0).length) := by rw [hix]; exact nI_clamp (by omega)
                          refine g_aload_n C (pc := 129) dX12_findMoves_129 5 rfl ?_
                          refine g_getR C (pc := 130) fl_RX12_41 (by decide) (by first | assumption | rfl | omega) (by first | assumption | rfl | omega) (by first | assumption | rfl | omega) dX12_findMoves_130 ?_
                          refine g_bipush C (pc := 133) 64 dX12_findMoves_133 (by decide) ?_
                          refine g_iload_n C (pc := 135) dX12_findMoves_135 7 rfl ?_
                          refine g_imul C (pc := 136) dX12_findMoves_136 ?_
                          refine g_iload_n C (pc := 137) dX12_findMoves_137 1 rfl ?_
                          refine g_iadd C (pc := 138) dX12_findMoves_138 ?_
                          refine g_bipush C (pc := 139) 100 dX12_findMoves_139 (by decide) ?_
                          refine g_iload C (pc := 141) dX12_findMoves_141 4 rfl ?_
                          refine g_imul C (pc := 143) dX12_findMoves_143 ?_
                          refine g_iload C (pc := 144) dX12_findMoves_144 0 rfl ?_
                          refine g_iadd C (pc := 146) dX12_findMoves_146 ?_
                          refine g_iast C (pc := 147) (by first | assumption | rfl | omega) (by first | assumption | rfl | omega) hn9 (by rw [hix]; exact vp_in_nI (by omega) (by decide)) dX12_findMoves_147 ?_
                          refine g_iinc C (pc := 148) (1) dX12_findMoves_148 1 rfl (by decide) (by decide) (fun v148 => [(3, .int v148), (8, .int (nI i0)), (7, .int v99), (4, .int v16), (5, .int (nI j)), (0, .ref 97), (1, .int (nI w)), (2, .int (nI d))]) (fun _ => rfl) (fun v148 ev148 => ?_)
                          refine g_iinc C (pc := 151) (1) dX12_findMoves_151 1 rfl (by decide) (by decide) (fun v151 => [(8, .int v151), (3, .int v148), (7, .int v99), (4, .int v16), (5, .int (nI j)), (0, .ref 97), (1, .int (nI w)), (2, .int (nI d))]) (fun _ => rfl) (fun v151 ev151 => ?_)
                          refine g_goto C (pc := 154) 104 dX12_findMoves_154 (by decide) ?_
                          refine g_lv C [0, 1, 2, 3, 4, 5, 6, 7] rfl (ih104 (i0 + 1) _ _ _ ?_ ?_ ?_ ?_ ?_ ?_ (by omega))
                          · subst ev151; exact nI_1 _
                          · rw [mvX_s, htg]
                            first | (subst ev148; rw [if_pos rfl, List.length_append]; exact (nI_add _ 1).trans rfl) | (rw [if_neg (by decide), List.append_nil])
                          · omega
                          · first | exact hJ2 | (intro i hi; rw [wr_n hi]; exact hJ2 i hi)
                          · first | exact hK8 | (intro z hz; rw [wr_sn (by rw [hpx]; omega)]; exact hK8 z hz)
                          · intro k m h
                            rw [mvX_s, htg] at h
                            first
                            | (rw [if_neg (by decide), List.append_nil] at h; exact hC2 k m h)
                            | (rw [if_pos rfl, ← List.append_assoc] at h; exact push_off hC2 (by rw [hpx, List.length_append]) (by rw [show (100 : Int32) = nI 100 from rfl, pk_mul, nI_add]) h)
                  refine g_lv C [0, 4, 1, 5, 3, 6, 7, 8] rfl (L104 (_ + 1) 0 _ _ _ ?_ ?_ ?_ ?_ ?_ ?_ (by first | omega | exact Nat.lt_succ_self _))
                  · subst ev102; rfl
                  · rw [mvX_0]; rfl
                  · omega
                  · exact hJ
                  · exact hJ8
                  · intro k m h; rw [mvX_0, List.append_nil] at h; exact hCo k m h
    refine g_lv C [0, 2, 1, 3, 4, 5] rfl (L21 (_ + 1) 0 _ _ _ ?_ ?_ ?_ ?_ ?_ ?_ (by first | omega | exact Nat.lt_succ_self _))
    · subst ev19; rfl
    · subst ev1; rw [mvsX_0]; rfl
    · omega
    · intro i _; rfl
    · intro z _; rfl
    · intro k m h; rw [mvsX_0] at h; simp at h
  · have hP : w = 4 ∨ lostP F b ≠ none := Or.inr (fun h => c8 (by rw [e3, lostB_none.mpr h]; rfl))
    refine g_iconst C (pc := 11) 1 dX12_findMoves_11 (by decide) ?_
    refine g_goto C (pc := 12) 16 dX12_findMoves_12 (by decide) ?_
    refine g_istore C (pc := 16) dX12_findMoves_16 (by decide) (fun v16 => [(4, .int v16), (3, .int v1), (0, .ref 97), (1, .int (nI w)), (2, .int (nI d))]) (fun _ => rfl) (fun v16 ev16 => ?_)
    refine g_iconst C (pc := 18) 0 dX12_findMoves_18 (by decide) ?_
    refine g_istore C (pc := 19) dX12_findMoves_19 (by decide) (fun v19 => [(5, .int v19), (4, .int v16), (3, .int v1), (0, .ref 97), (1, .int (nI w)), (2, .int (nI d))]) (fun _ => rfl) (fun v19 ev19 => ?_)
    have L21 : ∀ (k9 : Nat) (j : Nat) (wz5 : Int32) (wz3 : Int32) (J : Mem) (hw5 : wz5 = nI j) (hw3 : wz3 = nI (mvsX F b w j).length) (hj : j ≤ rN F) (hJ : ∀ i, i ≠ 108 → J i = I i) (hJ8 : ∀ z, z < 64 * d ∨ 64 * d + 24 ≤ z → J 108 z = I 108 z) (hCo : ∀ k m, (mvsX F b w j)[k]? = some m → J 108 (64 * d + k) = nI m), rN F - j < k9 → G κ n ρ 21 [(5, .int wz5), (3, .int wz3), (4, .int v16), (0, .ref 97), (1, .int (nI w)), (2, .int (nI d))] [] J := by
      intro k9
      induction k9 with
      | zero => intro j wz5 wz3 J hw5 hw3 hj hJ hJ8 hCo hm21; exact absurd hm21 (Nat.not_lt_zero _)
      | succ k9 ih21 =>
        intro j wz5 wz3 J hw5 hw3 hj hJ hJ8 hCo hm21
        subst hw5 hw3
        have hln := mvsX_len (F := F) (b := b) (w := w) (j := j)
        have hqfJ : QF J F := hqf.cong (by rw [hJ 97 (by decide)]) (by rw [hJ 97 (by decide)]) (by rw [hJ 97 (by decide)]) (hJ 100 (by decide)) (hJ 101 (by decide))
        have hqeJ : QE J F := hqe.cong (fun k _ => by rw [hJ 98 (by decide)])
        have hqbJ : QB J F b := hqb.cong (fun k _ => by rw [hJ 106 (by decide)]) (fun k _ => by rw [hJ 107 (by decide)]) (by rw [hJ 97 (by decide)]) hn6
        refine g_iload C (pc := 21) dX12_findMoves_21 0 rfl ?_
        refine g_aload_n C (pc := 23) dX12_findMoves_23 3 rfl ?_
        refine g_getI C (pc := 24) fl_RX12_105 (by decide) (by first | assumption | rfl | omega) (by first | assumption | rfl | omega) dX12_findMoves_24 ?_
        refine g_icmp_ge C (pc := 27) 163 dX12_findMoves_27 (by decide) (fun c27 => ?_) (fun c27 => ?_)
        · rw [hqfJ.2.2.1, nI_leI (by omega) (by omega)] at c27
          refine g_aload_n C (pc := 163) dX12_findMoves_163 3 rfl ?_
          refine g_getR C (pc := 164) fl_RX12_44 (by decide) (by first | assumption | rfl | omega) (by first | assumption | rfl | omega) (by first | assumption | rfl | omega) dX12_findMoves_164 ?_
          refine g_iload_n C (pc := 167) dX12_findMoves_167 5 rfl ?_
          refine g_iload_n C (pc := 168) dX12_findMoves_168 1 rfl ?_
          refine g_iast C (pc := 169) (by first | assumption | rfl | omega) (by first | assumption | rfl | omega) hn9 (vp_in_nI (by omega) (by decide)) dX12_findMoves_169 ?_
          refine g_vret C hR (pc := 170) rfl dX12_findMoves_170 ?_
          refine ⟨rfl, rfl, ?_⟩
          have hjn : j = rN F := by omega
          subst hjn
          have hcd : (nI d).toNatClampNeg = d := nI_clamp (by omega)
          rw [hcd]
          refine ⟨⟨by rw [wr_ss, mvsX_all], fun k m h => ?_⟩, fun z hz => ?_, fun z hz => ?_, fun i h1 h2 => ?_⟩
          · rw [wr_n (by decide)]; rw [← mvsX_all] at h; exact hCo k m h
          · rw [wr_n (by decide)]; exact hJ8 z hz
          · rw [wr_sn hz, hJ 109 (by decide)]
          · rw [wr_n h2]; exact hJ i h1
        · have hjn : j < rN F := by
            rw [hqfJ.2.2.1, nI_ltI (by omega) (by omega)] at c27
            exact c27
          have hcj : (nI j).toNatClampNeg = j := nI_clamp (by omega)
          have hs2 := (hrw.2.2.2.2.2.1 j hjn).1
          have hM2 := hbw.1
          have ho9 := (hbw.2.1 j hjn).2
          refine g_iload C (pc := 30) dX12_findMoves_30 2 rfl ?_
          refine g_if_ne C (pc := 32) 80 dX12_findMoves_32 (by decide) (fun c32 => ?_) (fun c32 => absurd c32 (by first | decide | (subst_vars; decide)))
          refine g_iconst C (pc := 80) 0 dX12_findMoves_80 (by decide) ?_
          refine g_istore C (pc := 81) dX12_findMoves_81 (by decide) (fun v81 => [(6, .int v81), (5, .int (nI j)), (3, .int (nI (mvsX F b w j).length)), (4, .int v16), (0, .ref 97), (1, .int (nI w)), (2, .int (nI d))]) (fun _ => rfl) (fun v81 ev81 => ?_)
          first
          | have hz : ∀ i, tgX F b w j i = false := fun i => if_pos hP
          | skip
          refine g_iload C (pc := 83) dX12_findMoves_83 0 rfl ?_
          refine g_if_eq C (pc := 85) 98 dX12_findMoves_85 (by decide) (fun c85 => ?_) (fun c85 => absurd c85 (by first | decide | (subst_vars; decide)))
          refine g_iconst C (pc := 98) 0 dX12_findMoves_98 (by decide) ?_
          refine g_istore C (pc := 99) dX12_findMoves_99 (by decide) (fun v99 => [(7, .int v99), (6, .int v81), (5, .int (nI j)), (3, .int (nI (mvsX F b w j).length)), (4, .int v16), (0, .ref 97), (1, .int (nI w)), (2, .int (nI d))]) (fun _ => rfl) (fun v99 ev99 => ?_)
          have hb7 : ∀ i, i < 32 → bt v99 i = tgX F b w j i := fun i hi => by
            rw [ev99]
            first
            | (rw [hz i, b_0]; done)
            | (rw [e92 i hi]; unfold tgX; rw [if_neg hnP]; done)
          refine g_iconst C (pc := 101) 0 dX12_findMoves_101 (by decide) ?_
          refine g_istore C (pc := 102) dX12_findMoves_102 (by decide) (fun v102 => [(8, .int v102), (7, .int v99), (6, .int v81), (5, .int (nI j)), (3, .int (nI (mvsX F b w j).length)), (4, .int v16), (0, .ref 97), (1, .int (nI w)), (2, .int (nI d))]) (fun _ => rfl) (fun v102 ev102 => ?_)
          have L104 : ∀ (k9 : Nat) (i0 : Nat) (wz8 : Int32) (wz3 : Int32) (J2 : Mem) (hw8 : wz8 = nI i0) (hw3 : wz3 = nI ((mvsX F b w j).length + (mvX F b w j i0).length)) (hi0 : i0 ≤ rW F * rH F) (hJ2 : ∀ i, i ≠ 108 → J2 i = I i) (hK8 : ∀ z, z < 64 * d ∨ 64 * d + 24 ≤ z → J2 108 z = I 108 z) (hC2 : ∀ k m, (mvsX F b w j ++ mvX F b w j i0)[k]? = some m → J2 108 (64 * d + k) = nI m), rW F * rH F - i0 < k9 → G κ n ρ 104 [(8, .int wz8), (3, .int wz3), (7, .int v99), (4, .int v16), (5, .int (nI j)), (0, .ref 97), (1, .int (nI w)), (2, .int (nI d))] [] J2 := by
            intro k9
            induction k9 with
            | zero => intro i0 wz8 wz3 J2 hw8 hw3 hi0 hJ2 hK8 hC2 hm104; exact absurd hm104 (Nat.not_lt_zero _)
            | succ k9 ih104 =>
              intro i0 wz8 wz3 J2 hw8 hw3 hi0 hJ2 hK8 hC2 hm104
              subst hw8 hw3
              have hlen2 := mvX_len (F := F) (b := b) (w := w) (j := j) (k := i0)
              have qw2 : J2 97 2 = nI (rW F) := by rw [hJ2 97 (by decide)]; exact qw
              have qh2 : J2 97 3 = nI (rH F) := by rw [hJ2 97 (by decide)]; exact qh
              have hb0 : bt (v99 >>> (nI i0 &&& 31)) 0 = tgX F b w j i0 ∨ rW F * rH F ≤ i0 := by
                rcases Nat.lt_or_ge i0 (rW F * rH F) with h | h
                · left
                  refine (b_sshr i0 (by omega) _ (by decide)).trans ?_
                  rw [if_pos (by omega)]; exact hb7 i0 (by omega)
                · exact Or.inr h
              refine g_iload C (pc := 104) dX12_findMoves_104 0 rfl ?_
              refine g_aload_n C (pc := 106) dX12_findMoves_106 5 rfl ?_
              refine g_getI C (pc := 107) fl_RX12_99 (by decide) (by first | assumption | rfl | omega) (by first | assumption | rfl | omega) dX12_findMoves_107 ?_
              refine g_aload_n C (pc := 110) dX12_findMoves_110 5 rfl ?_
              refine g_getI C (pc := 111) fl_RX12_102 (by decide) (by first | assumption | rfl | omega) (by first | assumption | rfl | omega) dX12_findMoves_111 ?_
              refine g_imul C (pc := 114) dX12_findMoves_114 ?_
              refine g_icmp_ge C (pc := 115) 157 dX12_findMoves_115 (by decide) (fun c115 => ?_) (fun c115 => ?_)
              · have hE : mvX F b w j i0 = mvX F b w j (rW F * rH F) := by
                  rw [qw2, qh2, pk_mul, nI_leI (by omega) (by omega)] at c115
                  rw [show i0 = rW F * rH F by omega]
                refine g_iinc C (pc := 157) (1) dX12_findMoves_157 4 rfl (by decide) (by decide) (fun v157 => [(5, .int v157), (8, .int (nI i0)), (3, .int (nI ((mvsX F b w j).length + (mvX F b w j i0).length))), (7, .int v99), (4, .int v16), (0, .ref 97), (1, .int (nI w)), (2, .int (nI d))]) (fun _ => rfl) (fun v157 ev157 => ?_)
                refine g_goto C (pc := 160) 21 dX12_findMoves_160 (by decide) ?_
                refine g_lv C [0, 2, 4, 5, 6, 7] rfl (ih21 (j + 1) _ _ _ ?_ ?_ ?_ ?_ ?_ ?_ (by omega))
                · subst ev157; exact nI_1 _
                · rw [mvsX_s hrw, List.length_append, ← hE]
                · omega
                · exact hJ2
                · exact hK8
                · intro k m h; rw [mvsX_s hrw, ← hE] at h; exact hC2 k m h
              · rw [qw2, qh2, pk_mul, nI_ltI (by omega) (by omega)] at c115
                refine g_iload C (pc := 118) dX12_findMoves_118 2 rfl ?_
                refine g_iload C (pc := 120) dX12_findMoves_120 0 rfl ?_
                refine g_ishr C (pc := 122) dX12_findMoves_122 ?_
                refine g_iconst C (pc := 123) 1 dX12_findMoves_123 (by decide) ?_
                refine g_iand C (pc := 124) dX12_findMoves_124 ?_
                refine g_iconst C (pc := 125) 1 dX12_findMoves_125 (by decide) ?_
                refine g_icmp_ne C (pc := 126) 151 dX12_findMoves_126 (by decide) (fun c126 => ?_) (fun c126 => ?_)
                · have htg : tgX F b w j i0 = false := by
                    have hb1 := hb0.resolve_right (by omega)
                    cases h : tgX F b w j i0 with
                    | false => rfl
                    | true => exact absurd (and_1b.mpr (hb1.trans h)) c126
                  refine g_iinc C (pc := 151) (1) dX12_findMoves_151 0 rfl (by decide) (by decide) (fun v151 => [(8, .int v151), (3, .int (nI ((mvsX F b w j).length + (mvX F b w j i0).length))), (7, .int v99), (4, .int v16), (5, .int (nI j)), (0, .ref 97), (1, .int (nI w)), (2, .int (nI d))]) (fun _ => rfl) (fun v151 ev151 => ?_)
                  refine g_goto C (pc := 154) 104 dX12_findMoves_154 (by decide) ?_
                  refine g_lv C [0, 1, 2, 3, 4, 5, 6, 7] rfl (ih104 (i0 + 1) _ _ _ ?_ ?_ ?_ ?_ ?_ ?_ (by omega))
                  · subst ev151; exact nI_1 _
                  · rw [mvX_s, htg]
                    first | (subst ev148; rw [if_pos rfl, List.length_append]; exact (nI_add _ 1).trans rfl) | (rw [if_neg (by decide), List.append_nil])
                  · omega
                  · first | exact hJ2 | (intro i hi; rw [wr_n hi]; exact hJ2 i hi)
                  · first | exact hK8 | (intro z hz; rw [wr_sn (by rw [hpx]; omega)]; exact hK8 z hz)
                  · intro k m h
                    rw [mvX_s, htg] at h
                    first
                    | (rw [if_neg (by decide), List.append_nil] at h; exact hC2 k m h)
                    | (rw [if_pos rfl, ← List.append_assoc] at h; exact push_off hC2 (by rw [hpx, List.length_append]) (by rw [show (100 : Int32) = nI 100 from rfl, pk_mul, nI_add]) h)
                · have hix : 64 * nI d + nI ((mvsX F b w j).length + (mvX F b w j i0).length) = nI (64 * d + ((mvsX F b w j).length + (mvX F b w j i0).length)) := by rw [show (64 : Int32) = nI 64 from rfl, pk_mul, nI_add]
                  have htg : tgX F b w j i0 = true := (hb0.resolve_right (by omega)).symm.trans (and_1b.mp c126)
                  have hlen3 : (mvX F b w j i0).length + 1 ≤ 4 := by
                    have := mvX_len (F := F) (b := b) (w := w) (j := j) (k := i0 + 1)
                    rw [mvX_s, htg, List.length_append] at this
                    exact this
                  have hpx : (64 * nI d + nI ((mvsX F b w j).length + (mvX F b w j i0).length)).toNatClampNeg = 64 * d + ((mvsX F b w j).length + (mvX F b w j i0).length) := by rw [hix]; exact nI_clamp (by omega)
                  refine g_aload_n C (pc := 129) dX12_findMoves_129 5 rfl ?_
                  refine g_getR C (pc := 130) fl_RX12_41 (by decide) (by first | assumption | rfl | omega) (by first | assumption | rfl | omega) (by first | assumption | rfl | omega) dX12_findMoves_130 ?_
                  refine g_bipush C (pc := 133) 64 dX12_findMoves_133 (by decide) ?_
                  refine g_iload_n C (pc := 135) dX12_findMoves_135 7 rfl ?_
                  refine g_imul C (pc := 136) dX12_findMoves_136 ?_
                  refine g_iload_n C (pc := 137) dX12_findMoves_137 1 rfl ?_
                  refine g_iadd C (pc := 138) dX12_findMoves_138 ?_
                  refine g_bipush C (pc := 139) 100 dX12_findMoves_139 (by decide) ?_
                  refine g_iload C (pc := 141) dX12_findMoves_141 4 rfl ?_
                  refine g_imul C (pc := 143) dX12_findMoves_143 ?_
                  refine g_iload C (pc := 144) dX12_findMoves_144 0 rfl ?_
                  refine g_iadd C (pc := 146) dX12_findMoves_146 ?_
                  refine g_iast C (pc := 147) (by first | assumption | rfl | omega) (by first | assumption | rfl | omega) hn9 (by rw [hix]; exact vp_in_nI (by omega) (by decide)) dX12_findMoves_147 ?_
                  refine g_iinc C (pc := 148) (1) dX12_findMoves_148 1 rfl (by decide) (by decide) (fun v148 => [(3, .int v148), (8, .int (nI i0)), (7, .int v99), (4, .int v16), (5, .int (nI j)), (0, .ref 97), (1, .int (nI w)), (2, .int (nI d))]) (fun _ => rfl) (fun v148 ev148 => ?_)
                  refine g_iinc C (pc := 151) (1) dX12_findMoves_151 1 rfl (by decide) (by decide) (fun v151 => [(8, .int v151), (3, .int v148), (7, .int v99), (4, .int v16), (5, .int (nI j)), (0, .ref 97), (1, .int (nI w)), (2, .int (nI d))]) (fun _ => rfl) (fun v151 ev151 => ?_)
                  refine g_goto C (pc := 154) 104 dX12_findMoves_154 (by decide) ?_
                  refine g_lv C [0, 1, 2, 3, 4, 5, 6, 7] rfl (ih104 (i0 + 1) _ _ _ ?_ ?_ ?_ ?_ ?_ ?_ (by omega))
                  · subst ev151; exact nI_1 _
                  · rw [mvX_s, htg]
                    first | (subst ev148; rw [if_pos rfl, List.length_append]; exact (nI_add _ 1).trans rfl) | (rw [if_neg (by decide), List.append_nil])
                  · omega
                  · first | exact hJ2 | (intro i hi; rw [wr_n hi]; exact hJ2 i hi)
                  · first | exact hK8 | (intro z hz; rw [wr_sn (by rw [hpx]; omega)]; exact hK8 z hz)
                  · intro k m h
                    rw [mvX_s, htg] at h
                    first
                    | (rw [if_neg (by decide), List.append_nil] at h; exact hC2 k m h)
                    | (rw [if_pos rfl, ← List.append_assoc] at h; exact push_off hC2 (by rw [hpx, List.length_append]) (by rw [show (100 : Int32) = nI 100 from rfl, pk_mul, nI_add]) h)
          refine g_lv C [0, 4, 1, 5, 3, 6, 7, 8] rfl (L104 (_ + 1) 0 _ _ _ ?_ ?_ ?_ ?_ ?_ ?_ (by first | omega | exact Nat.lt_succ_self _))
          · subst ev102; rfl
          · rw [mvX_0]; rfl
          · omega
          · exact hJ
          · exact hJ8
          · intro k m h; rw [mvX_0, List.append_nil] at h; exact hCo k m h
    refine g_lv C [0, 2, 1, 3, 4, 5] rfl (L21 (_ + 1) 0 _ _ _ ?_ ?_ ?_ ?_ ?_ ?_ (by first | omega | exact Nat.lt_succ_self _))
    · subst ev19; rfl
    · subst ev1; rw [mvsX_0]; rfl
    · omega
    · intro i _; rfl
    · intro z _; rfl
    · intro k m h; rw [mvsX_0] at h; simp at h
set_option maxHeartbeats 400000 in
theorem c_X12_saves (n : Nat) (ρ : Rho) (I : Mem) (F : RT) (b : BT) (d : Nat) (hn9 : n ≤ 999) (hms : MS n ρ) (hqf : QF I F) (hrw : RW F) (hqb : QB I F b) (hbw : BW F b) (hd : d < 3) : MV yX12_saves cX12_saves 3 none 0 [.ref 97, .int (nI d)] n ρ I (fun I1 => SvB I1 F d b ∧ (∀ z, z < 13 * d ∨ 13 * d + 13 ≤ z → I1 110 z = I 110 z) ∧ ∀ i, i ≠ 110 → I1 i = I i) := by
  refine MG.of (by decide +kernel) (Nat.le_of_ble_eq_true rfl) hn9 ?_
  intro κ C hR
  show G κ n ρ 0 [(0, .ref 97), (1, .int (nI d))] [] I
  obtain ⟨mn, ⟨m0, m1, m5, m6, m7, m11, m12, m15⟩, ⟨m23, m24, m26, m27, m28, m30, m31, m32, m33⟩, ⟨m38, m39, m40, m42⟩⟩ := id hms
  obtain ⟨qw, qh, qn, qk⟩ := id hqf
  have hn6 : rN F ≤ 6 := hrw.2.2.2.2.1
  have hm25 := Nat.mul_le_mul hrw.2.1 hrw.2.2.2.1
  have hm4 := Nat.mul_le_mul hrw.1 hrw.2.2.1
  refine g_iconst C (pc := 0) 0 dX12_saves_0 (by decide) ?_
  refine g_istore_n C (pc := 1) dX12_saves_1 (by decide) (fun v1 => [(2, .int v1), (0, .ref 97), (1, .int (nI d))]) (fun _ => rfl) (fun v1 ev1 => ?_)
  have L2 : ∀ (k9 : Nat) (j : Nat) (wz2 : Int32) (J : Mem) (hw2 : wz2 = nI j) (hj : j ≤ 6) (hA : ∀ k, k < j → J 110 (13 * d + k) = I 106 k ∧ J 110 (13 * d + 6 + k) = I 107 k) (hS : ∀ z, z < 13 * d ∨ 13 * d + 12 ≤ z → J 110 z = I 110 z) (hF : ∀ i, i ≠ 110 → J i = I i), 6 - j < k9 → G κ n ρ 2 [(2, .int wz2), (0, .ref 97), (1, .int (nI d))] [] J := by
    intro k9
    induction k9 with
    | zero => intro j wz2 J hw2 hj hA hS hF hm2; exact absurd hm2 (Nat.not_lt_zero _)
    | succ k9 ih2 =>
      intro j wz2 J hw2 hj hA hS hF hm2
      subst hw2
      refine g_iload_n C (pc := 2) dX12_saves_2 0 rfl ?_
      refine g_bipush C (pc := 3) 6 dX12_saves_3 (by decide) ?_
      refine g_icmp_ge C (pc := 5) 51 dX12_saves_5 (by decide) (fun c5 => ?_) (fun c5 => ?_)
      · replace c5 := (nI_leI (a := 6) (b := j) (by decide) (by omega)).mp c5
        refine g_aload_n C (pc := 51) dX12_saves_51 1 rfl ?_
        refine g_getR C (pc := 52) fl_RX12_47 (by decide) (by first | assumption | rfl | omega) (by first | assumption | rfl | omega) (by first | assumption | rfl | omega) dX12_saves_52 ?_
        refine g_bipush C (pc := 55) 13 dX12_saves_55 (by decide) ?_
        refine g_iload_n C (pc := 57) dX12_saves_57 2 rfl ?_
        refine g_imul C (pc := 58) dX12_saves_58 ?_
        refine g_bipush C (pc := 59) 12 dX12_saves_59 (by decide) ?_
        refine g_iadd C (pc := 61) dX12_saves_61 ?_
        refine g_aload_n C (pc := 62) dX12_saves_62 1 rfl ?_
        refine g_getI C (pc := 63) fl_RX12_204 (by decide) (by first | assumption | rfl | omega) (by first | assumption | rfl | omega) dX12_saves_63 ?_
        refine g_iast C (pc := 66) (by first | assumption | rfl | omega) (by first | assumption | rfl | omega) hn9 (by rw [show (13 : Int32) = nI 13 from rfl, show (12 : Int32) = nI 12 from rfl, pk_mul, nI_add]; exact vp_in_nI (by omega) (by decide)) dX12_saves_66 ?_
        refine g_vret C hR (pc := 67) rfl dX12_saves_67 ?_
        refine ⟨rfl, rfl, ?_⟩
        have hx0 : (13 * nI d + 12).toNatClampNeg = 13 * d + 12 := by rw [show (13 : Int32) = nI 13 from rfl, show (12 : Int32) = nI 12 from rfl, pk_mul, nI_add]; exact nI_clamp (by omega)
        rw [hx0]
        refine ⟨⟨fun p hp => ?_, ?_⟩, fun z hz => ?_, fun i h1 => ?_⟩
        · rw [wr_sn (by omega), wr_sn (by omega), (hA p (by omega)).1, (hA p (by omega)).2]; exact hqb.1 p hp
        · rw [wr_ss, hF 97 (by decide)]; exact hqb.2
        · rw [wr_sn (by omega)]; exact hS z (by omega)
        · rw [wr_n h1]; exact hF i h1
      · replace c5 := (nI_ltI (a := j) (b := 6) (by omega) (by decide)).mp c5
        have hx0 : 13 * nI d = nI (13 * d) := by rw [show (13 : Int32) = nI 13 from rfl, pk_mul]
        have hx1 : (13 * nI d + nI j).toNatClampNeg = 13 * d + j := by rw [hx0, nI_add]; exact nI_clamp (by omega)
        have hx2 : (13 * nI d + 6 + nI j).toNatClampNeg = 13 * d + 6 + j := by rw [hx0, show (6 : Int32) = nI 6 from rfl, nI_add, nI_add]; exact nI_clamp (by omega)
        have hx3 : (nI j).toNatClampNeg = j := nI_clamp (by omega)
        refine g_aload_n C (pc := 8) dX12_saves_8 1 rfl ?_
        refine g_getR C (pc := 9) fl_RX12_47 (by decide) (by first | assumption | rfl | omega) (by first | assumption | rfl | omega) (by first | assumption | rfl | omega) dX12_saves_9 ?_
        refine g_bipush C (pc := 12) 13 dX12_saves_12 (by decide) ?_
        refine g_iload_n C (pc := 14) dX12_saves_14 2 rfl ?_
        refine g_imul C (pc := 15) dX12_saves_15 ?_
        refine g_iload_n C (pc := 16) dX12_saves_16 0 rfl ?_
        refine g_iadd C (pc := 17) dX12_saves_17 ?_
        refine g_aload_n C (pc := 18) dX12_saves_18 1 rfl ?_
        refine g_getR C (pc := 19) fl_RX12_35 (by decide) (by first | assumption | rfl | omega) (by first | assumption | rfl | omega) (by first | assumption | rfl | omega) dX12_saves_19 ?_
        refine g_iload_n C (pc := 22) dX12_saves_22 0 rfl ?_
        refine g_iald C (pc := 23) (by first | assumption | rfl | omega) (by first | assumption | rfl | omega) (vp_in_nI (by omega) (by decide)) dX12_saves_23 ?_
        refine g_iast C (pc := 24) (by first | assumption | rfl | omega) (by first | assumption | rfl | omega) hn9 (by rw [show (13 : Int32) = nI 13 from rfl, pk_mul, nI_add]; exact vp_in_nI (by omega) (by decide)) dX12_saves_24 ?_
        refine g_aload_n C (pc := 25) dX12_saves_25 1 rfl ?_
        refine g_getR C (pc := 26) fl_RX12_47 (by decide) (by first | assumption | rfl | omega) (by first | assumption | rfl | omega) (by first | assumption | rfl | omega) dX12_saves_26 ?_
        refine g_bipush C (pc := 29) 13 dX12_saves_29 (by decide) ?_
        refine g_iload_n C (pc := 31) dX12_saves_31 2 rfl ?_
        refine g_imul C (pc := 32) dX12_saves_32 ?_
        refine g_bipush C (pc := 33) 6 dX12_saves_33 (by decide) ?_
        refine g_iadd C (pc := 35) dX12_saves_35 ?_
        refine g_iload_n C (pc := 36) dX12_saves_36 0 rfl ?_
        refine g_iadd C (pc := 37) dX12_saves_37 ?_
        refine g_aload_n C (pc := 38) dX12_saves_38 1 rfl ?_
        refine g_getR C (pc := 39) fl_RX12_38 (by decide) (by first | assumption | rfl | omega) (by first | assumption | rfl | omega) (by first | assumption | rfl | omega) dX12_saves_39 ?_
        refine g_iload_n C (pc := 42) dX12_saves_42 0 rfl ?_
        refine g_iald C (pc := 43) (by first | assumption | rfl | omega) (by first | assumption | rfl | omega) (vp_in_nI (by omega) (by decide)) dX12_saves_43 ?_
        refine g_iast C (pc := 44) (by first | assumption | rfl | omega) (by first | assumption | rfl | omega) hn9 (by rw [show (13 : Int32) = nI 13 from rfl, show (6 : Int32) = nI 6 from rfl, pk_mul, nI_add, nI_add]; exact vp_in_nI (by omega) (by decide)) dX12_saves_44 ?_
        refine g_iinc C (pc := 45) (1) dX12_saves_45 0 rfl (by decide) (by decide) (fun v45 => [(2, .int v45), (0, .ref 97), (1, .int (nI d))]) (fun _ => rfl) (fun v45 ev45 => ?_)
        refine g_goto C (pc := 48) 2 dX12_saves_48 (by decide) ?_
        refine g_lv C [0, 1, 2] rfl (ih2 (j + 1) _ _ ?_ ?_ ?_ ?_ ?_ (by omega))
        · subst_vars; exact nI_1 _
        · omega
        · intro k hk
          rw [hx1, hx2, hx3]
          rw [wr_n (a := 107) (by decide), hF 106 (by decide), hF 107 (by decide)]
          rcases Nat.lt_or_ge k j with h1 | h1
          · rw [wr_sn (by omega), wr_sn (by omega), wr_sn (by omega), wr_sn (by omega)]; exact hA k h1
          · have : k = j := by omega
            subst this
            rw [wr_sn (by omega), wr_ss, wr_ss]; exact ⟨rfl, rfl⟩
        · intro z hz; rw [hx2, hx1, wr_sn (by omega), wr_sn (by omega)]; exact hS z hz
        · intro i h1; rw [wr_n h1, wr_n h1]; exact hF i h1
  refine g_lv C [0, 1, 2] rfl (L2 (_ + 1) 0 _ _ ?_ ?_ ?_ ?_ ?_ (by first | omega | exact Nat.lt_succ_self _))
  · subst_vars; rfl
  · exact Nat.zero_le _
  · intro k hk; omega
  · intro z _; rfl
  · intro i _; rfl
set_option maxHeartbeats 400000 in
theorem c_X12_returns (n : Nat) (ρ : Rho) (I : Mem) (F : RT) (b : BT) (d : Nat) (hn9 : n ≤ 999) (hms : MS n ρ) (hqf : QF I F) (hrw : RW F) (hsv : SvB I F d b) (hd : d < 3) : MV yX12_returns cX12_returns 3 none 0 [.ref 97, .int (nI d)] n ρ I (fun I1 => QB I1 F b ∧ (∀ z, z ≠ 25 → I1 97 z = I 97 z) ∧ ∀ i, i ≠ 97 → i ≠ 106 → i ≠ 107 → I1 i = I i) := by
  refine MG.of (by decide +kernel) (Nat.le_of_ble_eq_true rfl) hn9 ?_
  intro κ C hR
  show G κ n ρ 0 [(0, .ref 97), (1, .int (nI d))] [] I
  obtain ⟨mn, ⟨m0, m1, m5, m6, m7, m11, m12, m15⟩, ⟨m23, m24, m26, m27, m28, m30, m31, m32, m33⟩, ⟨m38, m39, m40, m42⟩⟩ := id hms
  obtain ⟨qw, qh, qn, qk⟩ := id hqf
  have hn6 : rN F ≤ 6 := hrw.2.2.2.2.1
  have hm25 := Nat.mul_le_mul hrw.2.1 hrw.2.2.2.1
  have hm4 := Nat.mul_le_mul hrw.1 hrw.2.2.1
  refine g_iconst C (pc := 0) 0 dX12_returns_0 (by decide) ?_
  refine g_istore_n C (pc := 1) dX12_returns_1 (by decide) (fun v1 => [(2, .int v1), (0, .ref 97), (1, .int (nI d))]) (fun _ => rfl) (fun v1 ev1 => ?_)
  have L2 : ∀ (k9 : Nat) (j : Nat) (wz2 : Int32) (J : Mem) (hw2 : wz2 = nI j) (hj : j ≤ 6) (hA : ∀ k, k < j → J 106 k = I 110 (13 * d + k) ∧ J 107 k = I 110 (13 * d + 6 + k)) (hF : ∀ i, i ≠ 106 → i ≠ 107 → J i = I i), 6 - j < k9 → G κ n ρ 2 [(2, .int wz2), (0, .ref 97), (1, .int (nI d))] [] J := by
    intro k9
    induction k9 with
    | zero => intro j wz2 J hw2 hj hA hF hm2; exact absurd hm2 (Nat.not_lt_zero _)
    | succ k9 ih2 =>
      intro j wz2 J hw2 hj hA hF hm2
      subst hw2
      refine g_iload_n C (pc := 2) dX12_returns_2 0 rfl ?_
      refine g_bipush C (pc := 3) 6 dX12_returns_3 (by decide) ?_
      refine g_icmp_ge C (pc := 5) 51 dX12_returns_5 (by decide) (fun c5 => ?_) (fun c5 => ?_)
      · replace c5 := (nI_leI (a := 6) (b := j) (by decide) (by omega)).mp c5
        refine g_aload_n C (pc := 51) dX12_returns_51 1 rfl ?_
        refine g_aload_n C (pc := 52) dX12_returns_52 1 rfl ?_
        refine g_getR C (pc := 53) fl_RX12_47 (by decide) (by first | assumption | rfl | omega) (by first | assumption | rfl | omega) (by first | assumption | rfl | omega) dX12_returns_53 ?_
        refine g_bipush C (pc := 56) 13 dX12_returns_56 (by decide) ?_
        refine g_iload_n C (pc := 58) dX12_returns_58 2 rfl ?_
        refine g_imul C (pc := 59) dX12_returns_59 ?_
        refine g_bipush C (pc := 60) 12 dX12_returns_60 (by decide) ?_
        refine g_iadd C (pc := 62) dX12_returns_62 ?_
        refine g_iald C (pc := 63) (by first | assumption | rfl | omega) (by first | assumption | rfl | omega) (by rw [show (13 : Int32) = nI 13 from rfl, show (12 : Int32) = nI 12 from rfl, pk_mul, nI_add]; exact vp_in_nI (by omega) (by decide)) dX12_returns_63 ?_
        refine g_putI C (pc := 64) fl_RX12_204 (by decide) fp_11_25 (Or.inl rfl) ⟨rfl, rfl⟩ (by first | assumption | rfl | omega) (by first | assumption | rfl | omega) hn9 dX12_returns_64 ?_
        refine g_vret C hR (pc := 67) rfl dX12_returns_67 ?_
        refine ⟨rfl, rfl, ?_⟩
        have hx0 : (13 * nI d + 12).toNatClampNeg = 13 * d + 12 := by rw [show (13 : Int32) = nI 13 from rfl, show (12 : Int32) = nI 12 from rfl, pk_mul, nI_add]; exact nI_clamp (by omega)
        rw [hx0]
        refine ⟨⟨fun p hp => ?_, ?_⟩, fun z hz => ?_, fun i h1 h2 h3 => ?_⟩
        · rw [wr_n (by decide), wr_n (by decide), (hA p (by omega)).1, (hA p (by omega)).2]; exact hsv.1 p hp
        · rw [wr_ss, hF 110 (by decide) (by decide)]; exact hsv.2
        · rw [wr_sn hz, hF 97 (by decide) (by decide)]
        · rw [wr_n h1]; exact hF i h2 h3
      · replace c5 := (nI_ltI (a := j) (b := 6) (by omega) (by decide)).mp c5
        have hx0 : 13 * nI d = nI (13 * d) := by rw [show (13 : Int32) = nI 13 from rfl, pk_mul]
        have hx1 : (13 * nI d + nI j).toNatClampNeg = 13 * d + j := by rw [hx0, nI_add]; exact nI_clamp (by omega)
        have hx2 : (13 * nI d + 6 + nI j).toNatClampNeg = 13 * d + 6 + j := by rw [hx0, show (6 : Int32) = nI 6 from rfl, nI_add, nI_add]; exact nI_clamp (by omega)
        have hx3 : (nI j).toNatClampNeg = j := nI_clamp (by omega)
        refine g_aload_n C (pc := 8) dX12_returns_8 1 rfl ?_
        refine g_getR C (pc := 9) fl_RX12_35 (by decide) (by first | assumption | rfl | omega) (by first | assumption | rfl | omega) (by first | assumption | rfl | omega) dX12_returns_9 ?_
        refine g_iload_n C (pc := 12) dX12_returns_12 0 rfl ?_
        refine g_aload_n C (pc := 13) dX12_returns_13 1 rfl ?_
        refine g_getR C (pc := 14) fl_RX12_47 (by decide) (by first | assumption | rfl | omega) (by first | assumption | rfl | omega) (by first | assumption | rfl | omega) dX12_returns_14 ?_
        refine g_bipush C (pc := 17) 13 dX12_returns_17 (by decide) ?_
        refine g_iload_n C (pc := 19) dX12_returns_19 2 rfl ?_
        refine g_imul C (pc := 20) dX12_returns_20 ?_
        refine g_iload_n C (pc := 21) dX12_returns_21 0 rfl ?_
        refine g_iadd C (pc := 22) dX12_returns_22 ?_
        refine g_iald C (pc := 23) (by first | assumption | rfl | omega) (by first | assumption | rfl | omega) (by rw [show (13 : Int32) = nI 13 from rfl, pk_mul, nI_add]; exact vp_in_nI (by omega) (by decide)) dX12_returns_23 ?_
        refine g_iast C (pc := 24) (by first | assumption | rfl | omega) (by first | assumption | rfl | omega) hn9 (vp_in_nI (by omega) (by decide)) dX12_returns_24 ?_
        refine g_aload_n C (pc := 25) dX12_returns_25 1 rfl ?_
        refine g_getR C (pc := 26) fl_RX12_38 (by decide) (by first | assumption | rfl | omega) (by first | assumption | rfl | omega) (by first | assumption | rfl | omega) dX12_returns_26 ?_
        refine g_iload_n C (pc := 29) dX12_returns_29 0 rfl ?_
        refine g_aload_n C (pc := 30) dX12_returns_30 1 rfl ?_
        refine g_getR C (pc := 31) fl_RX12_47 (by decide) (by first | assumption | rfl | omega) (by first | assumption | rfl | omega) (by first | assumption | rfl | omega) dX12_returns_31 ?_
        refine g_bipush C (pc := 34) 13 dX12_returns_34 (by decide) ?_
        refine g_iload_n C (pc := 36) dX12_returns_36 2 rfl ?_
        refine g_imul C (pc := 37) dX12_returns_37 ?_
        refine g_bipush C (pc := 38) 6 dX12_returns_38 (by decide) ?_
        refine g_iadd C (pc := 40) dX12_returns_40 ?_
        refine g_iload_n C (pc := 41) dX12_returns_41 0 rfl ?_
        refine g_iadd C (pc := 42) dX12_returns_42 ?_
        refine g_iald C (pc := 43) (by first | assumption | rfl | omega) (by first | assumption | rfl | omega) (by rw [show (13 : Int32) = nI 13 from rfl, show (6 : Int32) = nI 6 from rfl, pk_mul, nI_add, nI_add]; exact vp_in_nI (by omega) (by decide)) dX12_returns_43 ?_
        refine g_iast C (pc := 44) (by first | assumption | rfl | omega) (by first | assumption | rfl | omega) hn9 (vp_in_nI (by omega) (by decide)) dX12_returns_44 ?_
        refine g_iinc C (pc := 45) (1) dX12_returns_45 0 rfl (by decide) (by decide) (fun v45 => [(2, .int v45), (0, .ref 97), (1, .int (nI d))]) (fun _ => rfl) (fun v45 ev45 => ?_)
        refine g_goto C (pc := 48) 2 dX12_returns_48 (by decide) ?_
        refine g_lv C [0, 1, 2] rfl (ih2 (j + 1) _ _ ?_ ?_ ?_ ?_ (by omega))
        · subst_vars; exact nI_1 _
        · omega
        · intro k hk
          rw [hx1, hx2, hx3]
          rw [wr_n (a := 106) (by decide), wr_s, wr_s]
          rcases Nat.lt_or_ge k j with h1 | h1
          · rw [upd_n (by omega), upd_n (by omega), wr_n (a := 107) (by decide)]; exact hA k h1
          · have : k = j := by omega
            subst this
            rw [upd_s, upd_s, wr_n (by decide), hF 110 (by decide) (by decide)]; exact ⟨rfl, rfl⟩
        · intro i h1 h2; rw [wr_n h2, wr_n h1]; exact hF i h1 h2
  refine g_lv C [0, 1, 2] rfl (L2 (_ + 1) 0 _ _ ?_ ?_ ?_ ?_ (by first | omega | exact Nat.lt_succ_self _))
  · subst_vars; rfl
  · exact Nat.zero_le _
  · intro k hk; omega
  · intro i _ _; rfl
