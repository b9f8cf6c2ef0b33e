def MvK (F : RT) (mv : Option Nat) : Prop := ∀ m, mv = some m → ∃ p i, p < rN F ∧ i < rW F * rH F ∧ m = 100 * p + i
theorem mvs_K {F : RT} {b : BT} {w k : Nat} (hf : RW F) : MvK F ((mvs F b w)[k]?) := by
  intro m hm
  obtain ⟨-, -, p, q, h1, h2, h3, h4⟩ := mvs_mem (List.mem_of_getElem? hm)
  exact ⟨p, q, h1, tgt_lt hf h3, h4⟩
theorem MvK.bw {F : RT} {b : BT} {w : Nat} {mv : Option Nat} (h : MvK F mv) (hf : RW F) (hw : BW F b) : BW F (playB F b w mv) := playB_W hw fun m hm => by
  obtain ⟨p, i, h1, h2, rfl⟩ := h m hm
  have := Nat.mul_le_mul hf.2.1 hf.2.2.2.1
  have := mv_dm (p := p) (i := i) (by omega)
  omega
theorem PW_play {F : RT} {b : BT} {w : Nat} {mv : Option Nat} (h : MvK F mv) (hf : RW F) (hp : PW F b) : PW F (playB F b w mv) := by
  intro x q hx hq
  rw [playB_P] at hq
  cases mv with
  | none => exact hp x q hx hq
  | some m =>
    obtain ⟨p, i, h1, h2, rfl⟩ := h m rfl
    have := Nat.mul_le_mul hf.2.1 hf.2.2.2.1
    rw [goB_at (by omega)] at hq
    split at hq
    · cases hq; exact h2
    · split at hq
      · cases hq
      · exact hp x q hx hq
theorem L1_play {F : RT} {b : BT} {w k : Nat} (h : L1 F b) : L1 F (playB F b w ((mvs F b w)[k]?)) := by
  intro x y hx hy kx ky px py
  rw [playB_P] at px py
  cases e : (mvs F b w)[k]? with
  | none => rw [e] at px py; exact h x y hx hy kx ky px py
  | some m =>
    rw [e] at px py
    obtain ⟨hl, -, p, q, h1, h2, h3, rfl⟩ := mvs_mem (List.mem_of_getElem? e)
    have hln := lost_none hl
    rw [goB_at h2] at px py
    have go : ∀ z, z < rN F → rKd F z = 0 → (if z = p then some q else if pon F b q = some z then none else bP b z) = none → pon F b q = some z := by
      intro z hz kz pz
      split at pz
      · cases pz
      · split at pz
        · assumption
        · obtain ⟨q9, hq9⟩ := hln z hz kz
          rw [hq9] at pz; cases pz
    have a := go x hx kx px
    have c := go y hy ky py
    rw [a] at c
    exact Option.some.inj c
theorem playO {F : RT} {b : BT} {w p : Nat} {mv : Option Nat} : bO (playB F b w mv) p = if w ≠ 4 ∧ mv.map (fun m => m / 100) ≠ some p ∧ rSd F p = bM b ∧ bP (goB F b mv) p ≠ none then bO b p - 1 else bO b p := by
  have eO : bO (goB F b mv) = bO b := by
    cases mv with
    | none => rfl
    | some m =>
      show bO (setP (offB F b (m % 100)) _ _) = bO b
      show bO (offB F b (m % 100)) = bO b
      unfold offB; split <;> rfl
  have eM : bM (goB F b mv) = bM b := by
    cases mv with
    | none => rfl
    | some m =>
      show bM (offB F b (m % 100)) = bM b
      unfold offB; split <;> rfl
  unfold playB
  by_cases h : w = 4
  · rw [if_pos h, if_neg (fun h2 => h2.1 h)]
    show bO (goB F b mv) p = _
    rw [eO]
  · rw [if_neg h]
    show burnO F (goB F b mv) _ p = _
    unfold burnO
    rw [eO, eM]
    simp only [ne_eq, h, not_false_eq_true, true_and]
set_option maxHeartbeats 3200000 in
theorem c_X12_goes (n : Nat) (ρ : Rho) (I : Mem) (F : RT) (b : BT) (w : Nat) (mv : Option Nat) (x : Int32) (hn9 : n ≤ 999) (hms : MS n ρ) (hqf : QF I F) (hrw : RW F) (hqb : QB I F b) (hbw : BW F b) (hw : w < 5) (hmk : MvK F mv) (hx : x = oI mv) : MI yX12_goes cX12_goes 7 (some .int) 1 [.ref 97, .int (nI w), .int x] n ρ I (fun v I1 => v = oI (mv.bind (fun m => pon F b (m % 100))) ∧ QB I1 F (playB F b w mv) ∧ (∀ z, z ≠ 25 → I1 97 z = I 97 z) ∧ ∀ i, i ≠ 97 → i ≠ 106 → i ≠ 107 → I1 i = I i) := by
  refine MG.of (by decide +kernel) (Nat.le_of_ble_eq_true rfl) hn9 ?_
  intro κ C hR
  show G κ n ρ 0 [(0, .ref 97), (1, .int (nI w)), (2, .int x)] [] I
  obtain ⟨mn, ⟨m0, m1, m5, m6, m7, m11, m12, m15⟩, ⟨m23, m24, m26, m27, m28, m30, m31, m32, m33⟩, ⟨m38, m39, m40, m42⟩⟩ := id hms
  obtain ⟨qw, qh, qn, qk⟩ := id hqf
  have hn6 : rN F ≤ 6 := hrw.2.2.2.2.1
  have hm25 := Nat.mul_le_mul hrw.2.1 hrw.2.2.2.1
  have hm4 := Nat.mul_le_mul hrw.1 hrw.2.2.1
  refine g_iload_n C (pc := 0) dX12_goes_0 2 rfl ?_
  refine g_bipush C (pc := 1) (-4) dX12_goes_1 (by decide) ?_
  refine g_icmp_ne C (pc := 3) 11 dX12_goes_3 (by decide) (fun c3 => ?_) (fun c3 => ?_)
  · obtain ⟨m9, hm9⟩ : ∃ m9, mv = some m9 := by
      cases h9 : mv with
      | none => exact absurd (by rw [hx, h9]; rfl) c3
      | some m9 => exact ⟨m9, rfl⟩
    obtain ⟨p9, i9, hp9, hi9s, hmpi⟩ := hmk m9 hm9
    have hx9 : x = nI (100 * p9 + i9) := by rw [hx, hm9, hmpi]; rfl
    obtain ⟨hmd, hmm⟩ := mv_dm (p := p9) (i := i9) (by omega)
    have hdv : x / 100 = nI p9 := by
      rw [hx9]
      have := pk_div (a := 100 * p9 + i9) (d := 100) (by omega) (by decide) (by decide)
      rw [hmd] at this; exact this
    have hrm : x - x / 100 * 100 = nI i9 := by
      rw [hx9]
      have := pk_rem (a := 100 * p9 + i9) (d := 100) (by omega) (by decide) (by decide)
      rw [hmm] at this; exact this
    have hgat : ∀ z, bP (goB F b mv) z = if z = p9 then some i9 else if pon F b i9 = some z then none else bP b z := fun z => by rw [hm9, hmpi]; exact goB_at (by omega)
    have hmp : mv.map (fun m => m / 100) = some p9 := by rw [hm9, hmpi]; exact congrArg some hmd
    have hbd : mv.bind (fun m => pon F b (m % 100)) = pon F b i9 := by rw [hm9, hmpi]; show pon F b _ = _; rw [hmm]
    refine g_iload_n C (pc := 11) dX12_goes_11 2 rfl ?_
    refine g_bipush C (pc := 12) 100 dX12_goes_12 (by decide) ?_
    refine g_idiv C (pc := 14) dX12_goes_14 (by decide) ?_
    refine g_istore_n C (pc := 15) dX12_goes_15 (by decide) (fun v15 => [(3, .int v15), (0, .ref 97), (1, .int (nI w)), (2, .int x)]) (fun _ => rfl) (fun v15 ev15 => ?_)
    have h15 : v15 = oI (mv.map (fun m => m / 100)) := by
      rw [hmp, ev15]
      first | exact hdv | rfl
    refine g_iload_n C (pc := 16) dX12_goes_16 3 rfl ?_
    refine g_bipush C (pc := 17) (-4) dX12_goes_17 (by decide) ?_
    refine g_icmp_ne C (pc := 19) 27 dX12_goes_19 (by decide) (fun c19 => ?_) (fun c19 => ?_)
    · refine g_aload_n C (pc := 27) dX12_goes_27 1 rfl ?_
      refine g_iload_n C (pc := 28) dX12_goes_28 3 rfl ?_
      refine g_bipush C (pc := 29) 100 dX12_goes_29 (by decide) ?_
      refine g_irem C (pc := 31) dX12_goes_31 (by decide) ?_
      refine g_callVI C (pc := 32) mf_X12_pieceAt lk_RX12_218 (c_X12_pieceAt n ρ I F b i9 _ hn9 hms hqf hrw hqb hbw (by omega) hrm) (by decide) (Nat.le_refl _) rfl (by first | assumption | rfl | omega) rfl (by first | assumption | rfl | omega) (Nat.le_of_ble_eq_true rfl) dX12_goes_32 (fun v32 I32 h32 => ?_)
      obtain ⟨e32, rfl⟩ := h32
      refine g_istore C (pc := 35) dX12_goes_35 (by decide) (fun v35 => [(4, .int v35), (3, .int v15), (0, .ref 97), (1, .int (nI w)), (2, .int x)]) (fun _ => rfl) (fun v35 ev35 => ?_)
      have h35 : v35 = oI (mv.bind (fun m => pon F b (m % 100))) := by
        rw [hbd, ev35]
        first | exact e32 | rfl
      refine g_iload C (pc := 37) dX12_goes_37 0 rfl ?_
      refine g_bipush C (pc := 39) (-4) dX12_goes_39 (by decide) ?_
      refine g_icmp_eq C (pc := 41) 53 dX12_goes_41 (by decide) (fun c41 => ?_) (fun c41 => ?_)
      · first
        | have hpn : pon F b i9 = none := by
            rw [h35, hbd] at c41
            exact (oI_none (fun z hz => by have := (pon_some hz).1; omega)).mp c41
        | skip
        refine g_iload_n C (pc := 53) dX12_goes_53 1 rfl ?_
        refine g_bipush C (pc := 54) (-4) dX12_goes_54 (by decide) ?_
        refine g_icmp_eq C (pc := 56) 69 dX12_goes_56 (by decide) (fun c56 => ?_) (fun c56 => ?_)
        · rw [h15, hmp] at c56; exact absurd c56 (nI_ne4 (by omega))
        · refine g_aload_n C (pc := 59) dX12_goes_59 2 rfl ?_
          refine g_getR C (pc := 60) fl_RX12_35 (by decide) (by first | assumption | rfl | omega) (by first | assumption | rfl | omega) (by first | assumption | rfl | omega) dX12_goes_60 ?_
          refine g_iload_n C (pc := 63) dX12_goes_63 1 rfl ?_
          refine g_iload_n C (pc := 64) dX12_goes_64 4 rfl ?_
          refine g_bipush C (pc := 65) 100 dX12_goes_65 (by decide) ?_
          refine g_irem C (pc := 67) dX12_goes_67 (by first | assumption | decide) ?_
          refine g_iast C (pc := 68) (by first | assumption | rfl | omega) (by first | assumption | rfl | omega) hn9 (by rw [h15, hmp]; exact vp_in_nI (n := p9) (by omega) (by decide)) dX12_goes_68 ?_
          first
          | have hG : ∀ p, p < rN F → (wr (wr I 106 v35.toNatClampNeg (-4)) 106 v15.toNatClampNeg (x - x / 100 * 100)) 106 p = oI (bP (goB F b mv) p) := fun p hp => by
              rw [hgat, hrm, h15, hmp, h35t, show (oI (some p9)).toNatClampNeg = p9 from nI_clamp (by omega), nI_clamp (by omega)]
              by_cases e1 : p = p9
              · subst e1; rw [wr_ss, if_pos rfl]; rfl
              · rw [wr_sn e1, if_neg e1, ht9]
                by_cases e2 : p = t9
                · subst e2; rw [wr_ss, if_pos rfl]; rfl
                · rw [wr_sn e2, if_neg (fun h => e2 (Option.some.inj h).symm)]; exact (hqb.1 p hp).1
          | have hG : ∀ p, p < rN F → (wr I 106 v15.toNatClampNeg (x - x / 100 * 100)) 106 p = oI (bP (goB F b mv) p) := fun p hp => by
              rw [hgat, hrm, h15, hmp, show (oI (some p9)).toNatClampNeg = p9 from nI_clamp (by omega)]
              by_cases e1 : p = p9
              · subst e1; rw [wr_ss, if_pos rfl]; rfl
              · rw [wr_sn e1, if_neg e1, hpn, if_neg (fun h => by cases h)]; exact (hqb.1 p hp).1
          | skip
          refine g_iconst C (pc := 69) 0 dX12_goes_69 (by decide) ?_
          refine g_istore C (pc := 70) dX12_goes_70 (by decide) (fun v70 => [(5, .int v70), (4, .int v35), (3, .int v15), (0, .ref 97), (1, .int (nI w)), (2, .int x)]) (fun _ => rfl) (fun v70 ev70 => ?_)
          have L72 : ∀ (k9 : Nat) (j : Nat) (wz5 : Int32) (J : Mem) (hw5 : wz5 = nI j) (hj : j ≤ rN F) (hF : ∀ i, i ≠ 106 → i ≠ 107 → J i = I i) (hS : ∀ p, p < rN F → J 106 p = oI (bP (goB F b mv) p)) (hO : ∀ p, p < rN F → J 107 p = nI (if p < j then bO (playB F b w mv) p else bO b p)), rN F - j < k9 → G κ n ρ 72 [(5, .int wz5), (3, .int v15), (4, .int v35), (0, .ref 97), (1, .int (nI w)), (2, .int x)] [] J := by
            intro k9
            induction k9 with
            | zero => intro j wz5 J hw5 hj hF hS hO hm72; exact absurd hm72 (Nat.not_lt_zero _)
            | succ k9 ih72 =>
              intro j wz5 J hw5 hj hF hS hO hm72
              subst hw5
              refine g_iload C (pc := 72) dX12_goes_72 0 rfl ?_
              refine g_aload_n C (pc := 74) dX12_goes_74 3 rfl ?_
              refine g_getI C (pc := 75) fl_RX12_105 (by decide) (by first | assumption | rfl | omega) (by first | assumption | rfl | omega) dX12_goes_75 ?_
              refine g_icmp_ge C (pc := 78) 156 dX12_goes_78 (by decide) (fun c78 => ?_) (fun c78 => ?_)
              · rw [hF 97 (by decide) (by decide), qn, nI_leI (by omega) (by omega)] at c78
                refine g_aload_n C (pc := 156) dX12_goes_156 3 rfl ?_
                refine g_iconst C (pc := 157) 1 dX12_goes_157 (by decide) ?_
                refine g_aload_n C (pc := 158) dX12_goes_158 3 rfl ?_
                refine g_getI C (pc := 159) fl_RX12_204 (by decide) (by first | assumption | rfl | omega) (by first | assumption | rfl | omega) dX12_goes_159 ?_
                refine g_isub C (pc := 162) dX12_goes_162 ?_
                refine g_putI C (pc := 163) fl_RX12_204 (by decide) fp_11_25 (Or.inl rfl) ⟨rfl, rfl⟩ (by first | assumption | rfl | omega) (by first | assumption | rfl | omega) hn9 dX12_goes_163 ?_
                refine g_iload C (pc := 166) dX12_goes_166 2 rfl ?_
                refine g_iret C hR (pc := 168) rfl dX12_goes_168 ?_
                refine ⟨rfl, _, rfl, ?_⟩
                have hjn : j = rN F := by omega
                have hM2 := hbw.1
                refine ⟨h35, ⟨fun p hp => ⟨?_, ?_⟩, ?_⟩, fun z hz => ?_, fun i h1 h2 h3 => ?_⟩
                · rw [wr_n (by decide), playB_P]; exact hS p hp
                · rw [wr_n (by decide), hO p hp, if_pos (by omega)]
                · rw [wr_ss, hF 97 (by decide) (by decide), hqb.2, playB_M]; exact pk_sub (a := 1) (by omega)
                · rw [wr_sn hz, hF 97 (by decide) (by decide)]
                · rw [wr_n h1]; exact hF i h2 h3
              · have hjn : j < rN F := by
                  rw [hF 97 (by decide) (by decide), qn, nI_ltI (by omega) (by omega)] at c78
                  exact c78
                have hcj : (nI j).toNatClampNeg = j := nI_clamp (by omega)
                have hs2 := (hrw.2.2.2.2.2.1 j hjn).1
                have hM2 := hbw.1
                have ho9 := (hbw.2.1 j hjn).2
                have hgl : ∀ z, bP (goB F b mv) j = some z → z < 2 ^ 31 := fun z hz => by
                  have := ((hmk.bw hrw hbw (w := w)).2.1 j hjn).1 z (by rw [playB_P]; exact hz)
                  omega
                refine g_iload_n C (pc := 81) dX12_goes_81 4 rfl ?_
                refine g_iconst C (pc := 82) 4 dX12_goes_82 (by decide) ?_
                refine g_icmp_eq C (pc := 83) 132 dX12_goes_83 (by decide) (fun c83 => ?_) (fun c83 => ?_)
                · have hni : bO (playB F b w mv) j = bO b j := by
                    rw [playO, if_neg]
                    rintro ⟨h1, h2, h3, h4⟩
                    exact h1 ((nI_eq (by omega) (by decide)).mp c83)
                  refine g_iconst C (pc := 132) 0 dX12_goes_132 (by decide) ?_
                  refine g_istore C (pc := 133) dX12_goes_133 (by decide) (fun v133 => [(6, .int v133), (5, .int (nI j)), (3, .int v15), (4, .int v35), (0, .ref 97), (1, .int (nI w)), (2, .int x)]) (fun _ => rfl) (fun v133 ev133 => ?_)
                  refine g_aload_n C (pc := 135) dX12_goes_135 4 rfl ?_
                  refine g_getR C (pc := 136) fl_RX12_38 (by decide) (by first | assumption | rfl | omega) (by first | assumption | rfl | omega) (by first | assumption | rfl | omega) dX12_goes_136 ?_
                  refine g_iload C (pc := 139) dX12_goes_139 1 rfl ?_
                  refine g_dup2 C (pc := 141) dX12_goes_141 rfl rfl ?_
                  refine g_iald C (pc := 142) (by first | assumption | rfl | omega) (by first | assumption | rfl | omega) (vp_in_nI (by omega) (by decide)) dX12_goes_142 ?_
                  refine g_iload C (pc := 143) dX12_goes_143 0 rfl ?_
                  refine g_callSI C (pc := 145) mf_X12_flag lk_RX12_189 (c_X12_flag n ρ J _ hn9) (by decide) (Nat.le_refl _) rfl (Nat.le_of_ble_eq_true rfl) dX12_goes_145 (fun v145 I145 h145 => ?_)
                  obtain ⟨e145, rfl⟩ := h145
                  refine g_isub C (pc := 148) dX12_goes_148 ?_
                  refine g_iast C (pc := 149) (by first | assumption | rfl | omega) (by first | assumption | rfl | omega) hn9 (vp_in_nI (by omega) (by decide)) dX12_goes_149 ?_
                  refine g_iinc C (pc := 150) (1) dX12_goes_150 1 rfl (by decide) (by decide) (fun v150 => [(5, .int v150), (6, .int v133), (3, .int v15), (4, .int v35), (0, .ref 97), (1, .int (nI w)), (2, .int x)]) (fun _ => rfl) (fun v150 ev150 => ?_)
                  refine g_goto C (pc := 153) 72 dX12_goes_153 (by decide) ?_
                  refine g_lv C [0, 2, 3, 4, 5, 6] rfl (ih72 (j + 1) _ _ ?_ ?_ ?_ ?_ ?_ (by omega))
                  · subst ev150; exact nI_1 _
                  · omega
                  · intro i h1 h2; rw [wr_n h2]; exact hF i h1 h2
                  · intro p hp; rw [wr_n (by decide)]; exact hS p hp
                  · intro p hp
                    rw [hcj]
                    by_cases e : p = j
                    · subst e
                      rw [wr_ss, if_pos (Nat.lt_succ_self p), hO p hp, if_neg (Nat.lt_irrefl p), e145, ev133]
                      first
                      | (rw [bI_f (by decide), hni]; exact Int32.sub_zero _)
                      | (rw [bI_t (by decide), hbn.1]; exact pk_sub (b := 1) hbn.2)
                    · rw [wr_sn e, hO p hp]
                      by_cases e2 : p < j
                      · rw [if_pos e2, if_pos (by omega)]
                      · rw [if_neg e2, if_neg (by omega)]
                · have hb1 : w ≠ 4 := fun h => c83 (by rw [h]; rfl)
                  refine g_iload C (pc := 86) dX12_goes_86 0 rfl ?_
                  refine g_iload_n C (pc := 88) dX12_goes_88 1 rfl ?_
                  refine g_icmp_eq C (pc := 89) 132 dX12_goes_89 (by decide) (fun c89 => ?_) (fun c89 => ?_)
                  · have hni : bO (playB F b w mv) j = bO b j := by
                      rw [playO, if_neg]
                      rintro ⟨h1, h2, h3, h4⟩
                      rw [h15] at c89
                      first
                      | (rw [hmp] at c89 h2; exact h2 (congrArg some ((nI_eq (by omega) (by omega)).mp c89).symm))
                      | (rw [hmp] at c89; exact absurd c89 (nI_ne4 (by omega)))
                    refine g_iconst C (pc := 132) 0 dX12_goes_132 (by decide) ?_
                    refine g_istore C (pc := 133) dX12_goes_133 (by decide) (fun v133 => [(6, .int v133), (5, .int (nI j)), (3, .int v15), (4, .int v35), (0, .ref 97), (1, .int (nI w)), (2, .int x)]) (fun _ => rfl) (fun v133 ev133 => ?_)
                    refine g_aload_n C (pc := 135) dX12_goes_135 4 rfl ?_
                    refine g_getR C (pc := 136) fl_RX12_38 (by decide) (by first | assumption | rfl | omega) (by first | assumption | rfl | omega) (by first | assumption | rfl | omega) dX12_goes_136 ?_
                    refine g_iload C (pc := 139) dX12_goes_139 1 rfl ?_
                    refine g_dup2 C (pc := 141) dX12_goes_141 rfl rfl ?_
                    refine g_iald C (pc := 142) (by first | assumption | rfl | omega) (by first | assumption | rfl | omega) (vp_in_nI (by omega) (by decide)) dX12_goes_142 ?_
                    refine g_iload C (pc := 143) dX12_goes_143 0 rfl ?_
                    refine g_callSI C (pc := 145) mf_X12_flag lk_RX12_189 (c_X12_flag n ρ J _ hn9) (by decide) (Nat.le_refl _) rfl (Nat.le_of_ble_eq_true rfl) dX12_goes_145 (fun v145 I145 h145 => ?_)
                    obtain ⟨e145, rfl⟩ := h145
                    refine g_isub C (pc := 148) dX12_goes_148 ?_
                    refine g_iast C (pc := 149) (by first | assumption | rfl | omega) (by first | assumption | rfl | omega) hn9 (vp_in_nI (by omega) (by decide)) dX12_goes_149 ?_
                    refine g_iinc C (pc := 150) (1) dX12_goes_150 1 rfl (by decide) (by decide) (fun v150 => [(5, .int v150), (6, .int v133), (3, .int v15), (4, .int v35), (0, .ref 97), (1, .int (nI w)), (2, .int x)]) (fun _ => rfl) (fun v150 ev150 => ?_)
                    refine g_goto C (pc := 153) 72 dX12_goes_153 (by decide) ?_
                    refine g_lv C [0, 2, 3, 4, 5, 6] rfl (ih72 (j + 1) _ _ ?_ ?_ ?_ ?_ ?_ (by omega))
                    · subst ev150; exact nI_1 _
                    · omega
                    · intro i h1 h2; rw [wr_n h2]; exact hF i h1 h2
                    · intro p hp; rw [wr_n (by decide)]; exact hS p hp
                    · intro p hp
                      rw [hcj]
                      by_cases e : p = j
                      · subst e
                        rw [wr_ss, if_pos (Nat.lt_succ_self p), hO p hp, if_neg (Nat.lt_irrefl p), e145, ev133]
                        first
                        | (rw [bI_f (by decide), hni]; exact Int32.sub_zero _)
                        | (rw [bI_t (by decide), hbn.1]; exact pk_sub (b := 1) hbn.2)
                      · rw [wr_sn e, hO p hp]
                        by_cases e2 : p < j
                        · rw [if_pos e2, if_pos (by omega)]
                        · rw [if_neg e2, if_neg (by omega)]
                  · have hb2 : mv.map (fun m => m / 100) ≠ some j := fun h => c89 (by rw [h15, h]; rfl)
                    refine g_aload_n C (pc := 92) dX12_goes_92 3 rfl ?_
                    refine g_getR C (pc := 93) fl_RX12_17 (by decide) (by first | assumption | rfl | omega) (by first | assumption | rfl | omega) (by first | assumption | rfl | omega) dX12_goes_93 ?_
                    refine g_iload C (pc := 96) dX12_goes_96 0 rfl ?_
                    refine g_iald C (pc := 98) (by first | assumption | rfl | omega) (by first | assumption | rfl | omega) (vp_in_nI (by omega) (by decide)) dX12_goes_98 ?_
                    refine g_aload_n C (pc := 99) dX12_goes_99 3 rfl ?_
                    refine g_getI C (pc := 100) fl_RX12_204 (by decide) (by first | assumption | rfl | omega) (by first | assumption | rfl | omega) dX12_goes_100 ?_
                    refine g_icmp_ne C (pc := 103) 132 dX12_goes_103 (by decide) (fun c103 => ?_) (fun c103 => ?_)
                    · rw [hcj, hF 100 (by decide) (by decide), (qk j hjn).1, hF 97 (by decide) (by decide), hqb.2] at c103
                      have hni : bO (playB F b w mv) j = bO b j := by
                        rw [playO, if_neg]
                        rintro ⟨h1, h2, h3, h4⟩
                        exact c103 (by rw [h3])
                      refine g_iconst C (pc := 132) 0 dX12_goes_132 (by decide) ?_
                      refine g_istore C (pc := 133) dX12_goes_133 (by decide) (fun v133 => [(6, .int v133), (5, .int (nI j)), (3, .int v15), (4, .int v35), (0, .ref 97), (1, .int (nI w)), (2, .int x)]) (fun _ => rfl) (fun v133 ev133 => ?_)
                      refine g_aload_n C (pc := 135) dX12_goes_135 4 rfl ?_
                      refine g_getR C (pc := 136) fl_RX12_38 (by decide) (by first | assumption | rfl | omega) (by first | assumption | rfl | omega) (by first | assumption | rfl | omega) dX12_goes_136 ?_
                      refine g_iload C (pc := 139) dX12_goes_139 1 rfl ?_
                      refine g_dup2 C (pc := 141) dX12_goes_141 rfl rfl ?_
                      refine g_iald C (pc := 142) (by first | assumption | rfl | omega) (by first | assumption | rfl | omega) (vp_in_nI (by omega) (by decide)) dX12_goes_142 ?_
                      refine g_iload C (pc := 143) dX12_goes_143 0 rfl ?_
                      refine g_callSI C (pc := 145) mf_X12_flag lk_RX12_189 (c_X12_flag n ρ J _ hn9) (by decide) (Nat.le_refl _) rfl (Nat.le_of_ble_eq_true rfl) dX12_goes_145 (fun v145 I145 h145 => ?_)
                      obtain ⟨e145, rfl⟩ := h145
                      refine g_isub C (pc := 148) dX12_goes_148 ?_
                      refine g_iast C (pc := 149) (by first | assumption | rfl | omega) (by first | assumption | rfl | omega) hn9 (vp_in_nI (by omega) (by decide)) dX12_goes_149 ?_
                      refine g_iinc C (pc := 150) (1) dX12_goes_150 1 rfl (by decide) (by decide) (fun v150 => [(5, .int v150), (6, .int v133), (3, .int v15), (4, .int v35), (0, .ref 97), (1, .int (nI w)), (2, .int x)]) (fun _ => rfl) (fun v150 ev150 => ?_)
                      refine g_goto C (pc := 153) 72 dX12_goes_153 (by decide) ?_
                      refine g_lv C [0, 2, 3, 4, 5, 6] rfl (ih72 (j + 1) _ _ ?_ ?_ ?_ ?_ ?_ (by omega))
                      · subst ev150; exact nI_1 _
                      · omega
                      · intro i h1 h2; rw [wr_n h2]; exact hF i h1 h2
                      · intro p hp; rw [wr_n (by decide)]; exact hS p hp
                      · intro p hp
                        rw [hcj]
                        by_cases e : p = j
                        · subst e
                          rw [wr_ss, if_pos (Nat.lt_succ_self p), hO p hp, if_neg (Nat.lt_irrefl p), e145, ev133]
                          first
                          | (rw [bI_f (by decide), hni]; exact Int32.sub_zero _)
                          | (rw [bI_t (by decide), hbn.1]; exact pk_sub (b := 1) hbn.2)
                        · rw [wr_sn e, hO p hp]
                          by_cases e2 : p < j
                          · rw [if_pos e2, if_pos (by omega)]
                          · rw [if_neg e2, if_neg (by omega)]
                    · rw [hcj, hF 100 (by decide) (by decide), (qk j hjn).1, hF 97 (by decide) (by decide), hqb.2] at c103
                      have hb3 : rSd F j = bM b := (nI_eq (by omega) (by omega)).mp c103
                      refine g_aload_n C (pc := 106) dX12_goes_106 3 rfl ?_
                      refine g_getR C (pc := 107) fl_RX12_35 (by decide) (by first | assumption | rfl | omega) (by first | assumption | rfl | omega) (by first | assumption | rfl | omega) dX12_goes_107 ?_
                      refine g_iload C (pc := 110) dX12_goes_110 0 rfl ?_
                      refine g_iald C (pc := 112) (by first | assumption | rfl | omega) (by first | assumption | rfl | omega) (vp_in_nI (by omega) (by decide)) dX12_goes_112 ?_
                      refine g_bipush C (pc := 113) (-4) dX12_goes_113 (by decide) ?_
                      refine g_icmp_eq C (pc := 115) 132 dX12_goes_115 (by decide) (fun c115 => ?_) (fun c115 => ?_)
                      · rw [hcj, hS j hjn] at c115
                        have hni : bO (playB F b w mv) j = bO b j := by
                          rw [playO, if_neg]
                          rintro ⟨h1, h2, h3, h4⟩
                          exact h4 ((oI_none hgl).mp c115)
                        refine g_iconst C (pc := 132) 0 dX12_goes_132 (by decide) ?_
                        refine g_istore C (pc := 133) dX12_goes_133 (by decide) (fun v133 => [(6, .int v133), (5, .int (nI j)), (3, .int v15), (4, .int v35), (0, .ref 97), (1, .int (nI w)), (2, .int x)]) (fun _ => rfl) (fun v133 ev133 => ?_)
                        refine g_aload_n C (pc := 135) dX12_goes_135 4 rfl ?_
                        refine g_getR C (pc := 136) fl_RX12_38 (by decide) (by first | assumption | rfl | omega) (by first | assumption | rfl | omega) (by first | assumption | rfl | omega) dX12_goes_136 ?_
                        refine g_iload C (pc := 139) dX12_goes_139 1 rfl ?_
                        refine g_dup2 C (pc := 141) dX12_goes_141 rfl rfl ?_
                        refine g_iald C (pc := 142) (by first | assumption | rfl | omega) (by first | assumption | rfl | omega) (vp_in_nI (by omega) (by decide)) dX12_goes_142 ?_
                        refine g_iload C (pc := 143) dX12_goes_143 0 rfl ?_
                        refine g_callSI C (pc := 145) mf_X12_flag lk_RX12_189 (c_X12_flag n ρ J _ hn9) (by decide) (Nat.le_refl _) rfl (Nat.le_of_ble_eq_true rfl) dX12_goes_145 (fun v145 I145 h145 => ?_)
                        obtain ⟨e145, rfl⟩ := h145
                        refine g_isub C (pc := 148) dX12_goes_148 ?_
                        refine g_iast C (pc := 149) (by first | assumption | rfl | omega) (by first | assumption | rfl | omega) hn9 (vp_in_nI (by omega) (by decide)) dX12_goes_149 ?_
                        refine g_iinc C (pc := 150) (1) dX12_goes_150 1 rfl (by decide) (by decide) (fun v150 => [(5, .int v150), (6, .int v133), (3, .int v15), (4, .int v35), (0, .ref 97), (1, .int (nI w)), (2, .int x)]) (fun _ => rfl) (fun v150 ev150 => ?_)
                        refine g_goto C (pc := 153) 72 dX12_goes_153 (by decide) ?_
                        refine g_lv C [0, 2, 3, 4, 5, 6] rfl (ih72 (j + 1) _ _ ?_ ?_ ?_ ?_ ?_ (by omega))
                        · subst ev150; exact nI_1 _
                        · omega
                        · intro i h1 h2; rw [wr_n h2]; exact hF i h1 h2
                        · intro p hp; rw [wr_n (by decide)]; exact hS p hp
                        · intro p hp
                          rw [hcj]
                          by_cases e : p = j
                          · subst e
                            rw [wr_ss, if_pos (Nat.lt_succ_self p), hO p hp, if_neg (Nat.lt_irrefl p), e145, ev133]
                            first
                            | (rw [bI_f (by decide), hni]; exact Int32.sub_zero _)
                            | (rw [bI_t (by decide), hbn.1]; exact pk_sub (b := 1) hbn.2)
                          · rw [wr_sn e, hO p hp]
                            by_cases e2 : p < j
                            · rw [if_pos e2, if_pos (by omega)]
                            · rw [if_neg e2, if_neg (by omega)]
                      · rw [hcj, hS j hjn] at c115
                        have hb4 : bP (goB F b mv) j ≠ none := fun h => c115 (by rw [h]; rfl)
                        refine g_aload_n C (pc := 118) dX12_goes_118 3 rfl ?_
                        refine g_getR C (pc := 119) fl_RX12_38 (by decide) (by first | assumption | rfl | omega) (by first | assumption | rfl | omega) (by first | assumption | rfl | omega) dX12_goes_119 ?_
                        refine g_iload C (pc := 122) dX12_goes_122 0 rfl ?_
                        refine g_iald C (pc := 124) (by first | assumption | rfl | omega) (by first | assumption | rfl | omega) (vp_in_nI (by omega) (by decide)) dX12_goes_124 ?_
                        refine g_if_le C (pc := 125) 132 dX12_goes_125 (by decide) (fun c125 => ?_) (fun c125 => ?_)
                        · rw [hcj, hO j hjn, if_neg (Nat.lt_irrefl j), show (0 : Int32) = nI 0 from rfl, nI_leI (by omega) (by decide)] at c125
                          have hni : bO (playB F b w mv) j = bO b j := by
                            rw [playO]; split <;> omega
                          refine g_iconst C (pc := 132) 0 dX12_goes_132 (by decide) ?_
                          refine g_istore C (pc := 133) dX12_goes_133 (by decide) (fun v133 => [(6, .int v133), (5, .int (nI j)), (3, .int v15), (4, .int v35), (0, .ref 97), (1, .int (nI w)), (2, .int x)]) (fun _ => rfl) (fun v133 ev133 => ?_)
                          refine g_aload_n C (pc := 135) dX12_goes_135 4 rfl ?_
                          refine g_getR C (pc := 136) fl_RX12_38 (by decide) (by first | assumption | rfl | omega) (by first | assumption | rfl | omega) (by first | assumption | rfl | omega) dX12_goes_136 ?_
                          refine g_iload C (pc := 139) dX12_goes_139 1 rfl ?_
                          refine g_dup2 C (pc := 141) dX12_goes_141 rfl rfl ?_
                          refine g_iald C (pc := 142) (by first | assumption | rfl | omega) (by first | assumption | rfl | omega) (vp_in_nI (by omega) (by decide)) dX12_goes_142 ?_
                          refine g_iload C (pc := 143) dX12_goes_143 0 rfl ?_
                          refine g_callSI C (pc := 145) mf_X12_flag lk_RX12_189 (c_X12_flag n ρ J _ hn9) (by decide) (Nat.le_refl _) rfl (Nat.le_of_ble_eq_true rfl) dX12_goes_145 (fun v145 I145 h145 => ?_)
                          obtain ⟨e145, rfl⟩ := h145
                          refine g_isub C (pc := 148) dX12_goes_148 ?_
                          refine g_iast C (pc := 149) (by first | assumption | rfl | omega) (by first | assumption | rfl | omega) hn9 (vp_in_nI (by omega) (by decide)) dX12_goes_149 ?_
                          refine g_iinc C (pc := 150) (1) dX12_goes_150 1 rfl (by decide) (by decide) (fun v150 => [(5, .int v150), (6, .int v133), (3, .int v15), (4, .int v35), (0, .ref 97), (1, .int (nI w)), (2, .int x)]) (fun _ => rfl) (fun v150 ev150 => ?_)
                          refine g_goto C (pc := 153) 72 dX12_goes_153 (by decide) ?_
                          refine g_lv C [0, 2, 3, 4, 5, 6] rfl (ih72 (j + 1) _ _ ?_ ?_ ?_ ?_ ?_ (by omega))
                          · subst ev150; exact nI_1 _
                          · omega
                          · intro i h1 h2; rw [wr_n h2]; exact hF i h1 h2
                          · intro p hp; rw [wr_n (by decide)]; exact hS p hp
                          · intro p hp
                            rw [hcj]
                            by_cases e : p = j
                            · subst e
                              rw [wr_ss, if_pos (Nat.lt_succ_self p), hO p hp, if_neg (Nat.lt_irrefl p), e145, ev133]
                              first
                              | (rw [bI_f (by decide), hni]; exact Int32.sub_zero _)
                              | (rw [bI_t (by decide), hbn.1]; exact pk_sub (b := 1) hbn.2)
                            · rw [wr_sn e, hO p hp]
                              by_cases e2 : p < j
                              · rw [if_pos e2, if_pos (by omega)]
                              · rw [if_neg e2, if_neg (by omega)]
                        · rw [hcj, hO j hjn, if_neg (Nat.lt_irrefl j), show (0 : Int32) = nI 0 from rfl, nI_ltI (by decide) (by omega)] at c125
                          have hbn : bO (playB F b w mv) j = bO b j - 1 ∧ 1 ≤ bO b j := by
                            refine ⟨?_, c125⟩
                            rw [playO, if_pos ⟨hb1, hb2, hb3, hb4⟩]
                          refine g_iconst C (pc := 128) 1 dX12_goes_128 (by decide) ?_
                          refine g_goto C (pc := 129) 133 dX12_goes_129 (by decide) ?_
                          refine g_istore C (pc := 133) dX12_goes_133 (by decide) (fun v133 => [(6, .int v133), (5, .int (nI j)), (3, .int v15), (4, .int v35), (0, .ref 97), (1, .int (nI w)), (2, .int x)]) (fun _ => rfl) (fun v133 ev133 => ?_)
                          refine g_aload_n C (pc := 135) dX12_goes_135 4 rfl ?_
                          refine g_getR C (pc := 136) fl_RX12_38 (by decide) (by first | assumption | rfl | omega) (by first | assumption | rfl | omega) (by first | assumption | rfl | omega) dX12_goes_136 ?_
                          refine g_iload C (pc := 139) dX12_goes_139 1 rfl ?_
                          refine g_dup2 C (pc := 141) dX12_goes_141 rfl rfl ?_
                          refine g_iald C (pc := 142) (by first | assumption | rfl | omega) (by first | assumption | rfl | omega) (vp_in_nI (by omega) (by decide)) dX12_goes_142 ?_
                          refine g_iload C (pc := 143) dX12_goes_143 0 rfl ?_
                          refine g_callSI C (pc := 145) mf_X12_flag lk_RX12_189 (c_X12_flag n ρ J _ hn9) (by decide) (Nat.le_refl _) rfl (Nat.le_of_ble_eq_true rfl) dX12_goes_145 (fun v145 I145 h145 => ?_)
                          obtain ⟨e145, rfl⟩ := h145
                          refine g_isub C (pc := 148) dX12_goes_148 ?_
                          refine g_iast C (pc := 149) (by first | assumption | rfl | omega) (by first | assumption | rfl | omega) hn9 (vp_in_nI (by omega) (by decide)) dX12_goes_149 ?_
                          refine g_iinc C (pc := 150) (1) dX12_goes_150 1 rfl (by decide) (by decide) (fun v150 => [(5, .int v150), (6, .int v133), (3, .int v15), (4, .int v35), (0, .ref 97), (1, .int (nI w)), (2, .int x)]) (fun _ => rfl) (fun v150 ev150 => ?_)
                          refine g_goto C (pc := 153) 72 dX12_goes_153 (by decide) ?_
                          refine g_lv C [0, 2, 3, 4, 5, 6] rfl (ih72 (j + 1) _ _ ?_ ?_ ?_ ?_ ?_ (by omega))
                          · subst ev150; exact nI_1 _
                          · omega
                          · intro i h1 h2; rw [wr_n h2]; exact hF i h1 h2
                          · intro p hp; rw [wr_n (by decide)]; exact hS p hp
                          · intro p hp
                            rw [hcj]
                            by_cases e : p = j
                            · subst e
                              rw [wr_ss, if_pos (Nat.lt_succ_self p), hO p hp, if_neg (Nat.lt_irrefl p), e145, ev133]
                              first
                              | (rw [bI_f (by decide), hni]; exact Int32.sub_zero _)
                              | (rw [bI_t (by decide), hbn.1]; exact pk_sub (b := 1) hbn.2)
                            · rw [wr_sn e, hO p hp]
                              by_cases e2 : p < j
                              · rw [if_pos e2, if_pos (by omega)]
                              · rw [if_neg e2, if_neg (by omega)]
          refine g_lv C [0, 2, 1, 3, 4, 5] rfl (L72 (_ + 1) 0 _ _ ?_ ?_ ?_ ?_ ?_ (by first | omega | exact Nat.lt_succ_self _))
          · subst ev70; rfl
          · omega
          · first | (intro i _ _; rfl) | (intro i h1 _; rw [wr_n h1, wr_n h1]) | (intro i h1 _; rw [wr_n h1])
          · exact hG
          · intro p hp; rw [if_neg (Nat.not_lt_zero p)]
            first | exact (hqb.1 p hp).2 | (rw [wr_n (by decide)]; exact (hqb.1 p hp).2) | (rw [wr_n (by decide), wr_n (by decide)]; exact (hqb.1 p hp).2)
      · obtain ⟨t9, ht9⟩ : ∃ t9, pon F b i9 = some t9 := by
          cases h9 : pon F b i9 with
          | none => exact absurd (by rw [h35, hbd, h9]; rfl) c41
          | some t9 => exact ⟨t9, rfl⟩
        have ht6 := (pon_some ht9).1
        have h35t : v35 = nI t9 := by rw [h35, hbd, ht9]; rfl
        refine g_aload_n C (pc := 44) dX12_goes_44 2 rfl ?_
        refine g_getR C (pc := 45) fl_RX12_35 (by decide) (by first | assumption | rfl | omega) (by first | assumption | rfl | omega) (by first | assumption | rfl | omega) dX12_goes_45 ?_
        refine g_iload C (pc := 48) dX12_goes_48 0 rfl ?_
        refine g_bipush C (pc := 50) (-4) dX12_goes_50 (by decide) ?_
        refine g_iast C (pc := 52) (by first | assumption | rfl | omega) (by first | assumption | rfl | omega) hn9 (by rw [h35t]; exact vp_in_nI (by omega) (by decide)) dX12_goes_52 ?_
        refine g_iload_n C (pc := 53) dX12_goes_53 1 rfl ?_
        refine g_bipush C (pc := 54) (-4) dX12_goes_54 (by decide) ?_
        refine g_icmp_eq C (pc := 56) 69 dX12_goes_56 (by decide) (fun c56 => ?_) (fun c56 => ?_)
        · rw [h15, hmp] at c56; exact absurd c56 (nI_ne4 (by omega))
        · refine g_aload_n C (pc := 59) dX12_goes_59 2 rfl ?_
          refine g_getR C (pc := 60) fl_RX12_35 (by decide) (by first | assumption | rfl | omega) (by first | assumption | rfl | omega) (by first | assumption | rfl | omega) dX12_goes_60 ?_
          refine g_iload_n C (pc := 63) dX12_goes_63 1 rfl ?_
          refine g_iload_n C (pc := 64) dX12_goes_64 4 rfl ?_
          refine g_bipush C (pc := 65) 100 dX12_goes_65 (by decide) ?_
          refine g_irem C (pc := 67) dX12_goes_67 (by first | assumption | decide) ?_
          refine g_iast C (pc := 68) (by first | assumption | rfl | omega) (by first | assumption | rfl | omega) hn9 (by rw [h15, hmp]; exact vp_in_nI (n := p9) (by omega) (by decide)) dX12_goes_68 ?_
          first
          | have hG : ∀ p, p < rN F → (wr (wr I 106 v35.toNatClampNeg (-4)) 106 v15.toNatClampNeg (x - x / 100 * 100)) 106 p = oI (bP (goB F b mv) p) := fun p hp => by
              rw [hgat, hrm, h15, hmp, h35t, show (oI (some p9)).toNatClampNeg = p9 from nI_clamp (by omega), nI_clamp (by omega)]
              by_cases e1 : p = p9
              · subst e1; rw [wr_ss, if_pos rfl]; rfl
              · rw [wr_sn e1, if_neg e1, ht9]
                by_cases e2 : p = t9
                · subst e2; rw [wr_ss, if_pos rfl]; rfl
                · rw [wr_sn e2, if_neg (fun h => e2 (Option.some.inj h).symm)]; exact (hqb.1 p hp).1
          | have hG : ∀ p, p < rN F → (wr I 106 v15.toNatClampNeg (x - x / 100 * 100)) 106 p = oI (bP (goB F b mv) p) := fun p hp => by
              rw [hgat, hrm, h15, hmp, show (oI (some p9)).toNatClampNeg = p9 from nI_clamp (by omega)]
              by_cases e1 : p = p9
              · subst e1; rw [wr_ss, if_pos rfl]; rfl
              · rw [wr_sn e1, if_neg e1, hpn, if_neg (fun h => by cases h)]; exact (hqb.1 p hp).1
          | skip
          refine g_iconst C (pc := 69) 0 dX12_goes_69 (by decide) ?_
          refine g_istore C (pc := 70) dX12_goes_70 (by decide) (fun v70 => [(5, .int v70), (4, .int v35), (3, .int v15), (0, .ref 97), (1, .int (nI w)), (2, .int x)]) (fun _ => rfl) (fun v70 ev70 => ?_)
          have L72 : ∀ (k9 : Nat) (j : Nat) (wz5 : Int32) (J : Mem) (hw5 : wz5 = nI j) (hj : j ≤ rN F) (hF : ∀ i, i ≠ 106 → i ≠ 107 → J i = I i) (hS : ∀ p, p < rN F → J 106 p = oI (bP (goB F b mv) p)) (hO : ∀ p, p < rN F → J 107 p = nI (if p < j then bO (playB F b w mv) p else bO b p)), rN F - j < k9 → G κ n ρ 72 [(5, .int wz5), (3, .int v15), (4, .int v35), (0, .ref 97), (1, .int (nI w)), (2, .int x)] [] J := by
            intro k9
            induction k9 with
            | zero => intro j wz5 J hw5 hj hF hS hO hm72; exact absurd hm72 (Nat.not_lt_zero _)
            | succ k9 ih72 =>
              intro j wz5 J hw5 hj hF hS hO hm72
              subst hw5
              refine g_iload C (pc := 72) dX12_goes_72 0 rfl ?_
              refine g_aload_n C (pc := 74) dX12_goes_74 3 rfl ?_
              refine g_getI C (pc := 75) fl_RX12_105 (by decide) (by first | assumption | rfl | omega) (by first | assumption | rfl | omega) dX12_goes_75 ?_
              refine g_icmp_ge C (pc := 78) 156 dX12_goes_78 (by decide) (fun c78 => ?_) (fun c78 => ?_)
              · rw [hF 97 (by decide) (by decide), qn, nI_leI (by omega) (by omega)] at c78
                refine g_aload_n C (pc := 156) dX12_goes_156 3 rfl ?_
                refine g_iconst C (pc := 157) 1 dX12_goes_157 (by decide) ?_
                refine g_aload_n C (pc := 158) dX12_goes_158 3 rfl ?_
                refine g_getI C (pc := 159) fl_RX12_204 (by decide) (by first | assumption | rfl | omega) (by first | assumption | rfl | omega) dX12_goes_159 ?_
                refine g_isub C (pc := 162) dX12_goes_162 ?_
                refine g_putI C (pc := 163) fl_RX12_204 (by decide) fp_11_25 (Or.inl rfl) ⟨rfl, rfl⟩ (by first | assumption | rfl | omega) (by first | assumption | rfl | omega) hn9 dX12_goes_163 ?_
                refine g_iload C (pc := 166) dX12_goes_166 2 rfl ?_
                refine g_iret C hR (pc := 168) rfl dX12_goes_168 ?_
                refine ⟨rfl, _, rfl, ?_⟩
                have hjn : j = rN F := by omega
                have hM2 := hbw.1
                refine ⟨h35, ⟨fun p hp => ⟨?_, ?_⟩, ?_⟩, fun z hz => ?_, fun i h1 h2 h3 => ?_⟩
                · rw [wr_n (by decide), playB_P]; exact hS p hp
                · rw [wr_n (by decide), hO p hp, if_pos (by omega)]
                · rw [wr_ss, hF 97 (by decide) (by decide), hqb.2, playB_M]; exact pk_sub (a := 1) (by omega)
                · rw [wr_sn hz, hF 97 (by decide) (by decide)]
                · rw [wr_n h1]; exact hF i h2 h3
              · have hjn : j < rN F := by
                  rw [hF 97 (by decide) (by decide), qn, nI_ltI (by omega) (by omega)] at c78
                  exact c78
                have hcj : (nI j).toNatClampNeg = j := nI_clamp (by omega)
                have hs2 := (hrw.2.2.2.2.2.1 j hjn).1
                have hM2 := hbw.1
                have ho9 := (hbw.2.1 j hjn).2
                have hgl : ∀ z, bP (goB F b mv) j = some z → z < 2 ^ 31 := fun z hz => by
                  have := ((hmk.bw hrw hbw (w := w)).2.1 j hjn).1 z (by rw [playB_P]; exact hz)
                  omega
                refine g_iload_n C (pc := 81) dX12_goes_81 4 rfl ?_
                refine g_iconst C (pc := 82) 4 dX12_goes_82 (by decide) ?_
                refine g_icmp_eq C (pc := 83) 132 dX12_goes_83 (by decide) (fun c83 => ?_) (fun c83 => ?_)
                · have hni : bO (playB F b w mv) j = bO b j := by
                    rw [playO, if_neg]
                    rintro ⟨h1, h2, h3, h4⟩
                    exact h1 ((nI_eq (by omega) (by decide)).mp c83)
                  refine g_iconst C (pc := 132) 0 dX12_goes_132 (by decide) ?_
                  refine g_istore C (pc := 133) dX12_goes_133 (by decide) (fun v133 => [(6, .int v133), (5, .int (nI j)), (3, .int v15), (4, .int v35), (0, .ref 97), (1, .int (nI w)), (2, .int x)]) (fun _ => rfl) (fun v133 ev133 => ?_)
                  refine g_aload_n C (pc := 135) dX12_goes_135 4 rfl ?_
                  refine g_getR C (pc := 136) fl_RX12_38 (by decide) (by first | assumption | rfl | omega) (by first | assumption | rfl | omega) (by first | assumption | rfl | omega) dX12_goes_136 ?_
                  refine g_iload C (pc := 139) dX12_goes_139 1 rfl ?_
                  refine g_dup2 C (pc := 141) dX12_goes_141 rfl rfl ?_
                  refine g_iald C (pc := 142) (by first | assumption | rfl | omega) (by first | assumption | rfl | omega) (vp_in_nI (by omega) (by decide)) dX12_goes_142 ?_
                  refine g_iload C (pc := 143) dX12_goes_143 0 rfl ?_
                  refine g_callSI C (pc := 145) mf_X12_flag lk_RX12_189 (c_X12_flag n ρ J _ hn9) (by decide) (Nat.le_refl _) rfl (Nat.le_of_ble_eq_true rfl) dX12_goes_145 (fun v145 I145 h145 => ?_)
                  obtain ⟨e145, rfl⟩ := h145
                  refine g_isub C (pc := 148) dX12_goes_148 ?_
                  refine g_iast C (pc := 149) (by first | assumption | rfl | omega) (by first | assumption | rfl | omega) hn9 (vp_in_nI (by omega) (by decide)) dX12_goes_149 ?_
                  refine g_iinc C (pc := 150) (1) dX12_goes_150 1 rfl (by decide) (by decide) (fun v150 => [(5, .int v150), (6, .int v133), (3, .int v15), (4, .int v35), (0, .ref 97), (1, .int (nI w)), (2, .int x)]) (fun _ => rfl) (fun v150 ev150 => ?_)
                  refine g_goto C (pc := 153) 72 dX12_goes_153 (by decide) ?_
                  refine g_lv C [0, 2, 3, 4, 5, 6] rfl (ih72 (j + 1) _ _ ?_ ?_ ?_ ?_ ?_ (by omega))
                  · subst ev150; exact nI_1 _
                  · omega
                  · intro i h1 h2; rw [wr_n h2]; exact hF i h1 h2
                  · intro p hp; rw [wr_n (by decide)]; exact hS p hp
                  · intro p hp
                    rw [hcj]
                    by_cases e : p = j
                    · subst e
                      rw [wr_ss, if_pos (Nat.lt_succ_self p), hO p hp, if_neg (Nat.lt_irrefl p), e145, ev133]
                      first
                      | (rw [bI_f (by decide), hni]; exact Int32.sub_zero _)
                      | (rw [bI_t (by decide), hbn.1]; exact pk_sub (b := 1) hbn.2)
                    · rw [wr_sn e, hO p hp]
                      by_cases e2 : p < j
                      · rw [if_pos e2, if_pos (by omega)]
                      · rw [if_neg e2, if_neg (by omega)]
                · have hb1 : w ≠ 4 := fun h => c83 (by rw [h]; rfl)
                  refine g_iload C (pc := 86) dX12_goes_86 0 rfl ?_
                  refine g_iload_n C (pc := 88) dX12_goes_88 1 rfl ?_
                  refine g_icmp_eq C (pc := 89) 132 dX12_goes_89 (by decide) (fun c89 => ?_) (fun c89 => ?_)
                  · have hni : bO (playB F b w mv) j = bO b j := by
                      rw [playO, if_neg]
                      rintro ⟨h1, h2, h3, h4⟩
                      rw [h15] at c89
                      first
                      | (rw [hmp] at c89 h2; exact h2 (congrArg some ((nI_eq (by omega) (by omega)).mp c89).symm))
                      | (rw [hmp] at c89; exact absurd c89 (nI_ne4 (by omega)))
                    refine g_iconst C (pc := 132) 0 dX12_goes_132 (by decide) ?_
                    refine g_istore C (pc := 133) dX12_goes_133 (by decide) (fun v133 => [(6, .int v133), (5, .int (nI j)), (3, .int v15), (4, .int v35), (0, .ref 97), (1, .int (nI w)), (2, .int x)]) (fun _ => rfl) (fun v133 ev133 => ?_)
                    refine g_aload_n C (pc := 135) dX12_goes_135 4 rfl ?_
                    refine g_getR C (pc := 136) fl_RX12_38 (by decide) (by first | assumption | rfl | omega) (by first | assumption | rfl | omega) (by first | assumption | rfl | omega) dX12_goes_136 ?_
                    refine g_iload C (pc := 139) dX12_goes_139 1 rfl ?_
                    refine g_dup2 C (pc := 141) dX12_goes_141 rfl rfl ?_
                    refine g_iald C (pc := 142) (by first | assumption | rfl | omega) (by first | assumption | rfl | omega) (vp_in_nI (by omega) (by decide)) dX12_goes_142 ?_
                    refine g_iload C (pc := 143) dX12_goes_143 0 rfl ?_
                    refine g_callSI C (pc := 145) mf_X12_flag lk_RX12_189 (c_X12_flag n ρ J _ hn9) (by decide) (Nat.le_refl _) rfl (Nat.le_of_ble_eq_true rfl) dX12_goes_145 (fun v145 I145 h145 => ?_)
                    obtain ⟨e145, rfl⟩ := h145
                    refine g_isub C (pc := 148) dX12_goes_148 ?_
                    refine g_iast C (pc := 149) (by first | assumption | rfl | omega) (by first | assumption | rfl | omega) hn9 (vp_in_nI (by omega) (by decide)) dX12_goes_149 ?_
                    refine g_iinc C (pc := 150) (1) dX12_goes_150 1 rfl (by decide) (by decide) (fun v150 => [(5, .int v150), (6, .int v133), (3, .int v15), (4, .int v35), (0, .ref 97), (1, .int (nI w)), (2, .int x)]) (fun _ => rfl) (fun v150 ev150 => ?_)
                    refine g_goto C (pc := 153) 72 dX12_goes_153 (by decide) ?_
                    refine g_lv C [0, 2, 3, 4, 5, 6] rfl (ih72 (j + 1) _ _ ?_ ?_ ?_ ?_ ?_ (by omega))
                    · subst ev150; exact nI_1 _
                    · omega
                    · intro i h1 h2; rw [wr_n h2]; exact hF i h1 h2
                    · intro p hp; rw [wr_n (by decide)]; exact hS p hp
                    · intro p hp
                      rw [hcj]
                      by_cases e : p = j
                      · subst e
                        rw [wr_ss, if_pos (Nat.lt_succ_self p), hO p hp, if_neg (Nat.lt_irrefl p), e145, ev133]
                        first
                        | (rw [bI_f (by decide), hni]; exact Int32.sub_zero _)
                        | (rw [bI_t (by decide), hbn.1]; exact pk_sub (b := 1) hbn.2)
                      · rw [wr_sn e, hO p hp]
                        by_cases e2 : p < j
                        · rw [if_pos e2, if_pos (by omega)]
                        · rw [if_neg e2, if_neg (by omega)]
                  · have hb2 : mv.map (fun m => m / 100) ≠ some j := fun h => c89 (by rw [h15, h]; rfl)
                    refine g_aload_n C (pc := 92) dX12_goes_92 3 rfl ?_
                    refine g_getR C (pc := 93) fl_RX12_17 (by decide) (by first | assumption | rfl | omega) (by first | assumption | rfl | omega) (by first | assumption | rfl | omega) dX12_goes_93 ?_
                    refine g_iload C (pc := 96) dX12_goes_96 0 rfl ?_
                    refine g_iald C (pc := 98) (by first | assumption | rfl | omega) (by first | assumption | rfl | omega) (vp_in_nI (by omega) (by decide)) dX12_goes_98 ?_
                    refine g_aload_n C (pc := 99) dX12_goes_99 3 rfl ?_
                    refine g_getI C (pc := 100) fl_RX12_204 (by decide) (by first | assumption | rfl | omega) (by first | assumption | rfl | omega) dX12_goes_100 ?_
                    refine g_icmp_ne C (pc := 103) 132 dX12_goes_103 (by decide) (fun c103 => ?_) (fun c103 => ?_)
                    · rw [hcj, hF 100 (by decide) (by decide), (qk j hjn).1, hF 97 (by decide) (by decide), hqb.2] at c103
                      have hni : bO (playB F b w mv) j = bO b j := by
                        rw [playO, if_neg]
                        rintro ⟨h1, h2, h3, h4⟩
                        exact c103 (by rw [h3])
                      refine g_iconst C (pc := 132) 0 dX12_goes_132 (by decide) ?_
                      refine g_istore C (pc := 133) dX12_goes_133 (by decide) (fun v133 => [(6, .int v133), (5, .int (nI j)), (3, .int v15), (4, .int v35), (0, .ref 97), (1, .int (nI w)), (2, .int x)]) (fun _ => rfl) (fun v133 ev133 => ?_)
                      refine g_aload_n C (pc := 135) dX12_goes_135 4 rfl ?_
                      refine g_getR C (pc := 136) fl_RX12_38 (by decide) (by first | assumption | rfl | omega) (by first | assumption | rfl | omega) (by first | assumption | rfl | omega) dX12_goes_136 ?_
                      refine g_iload C (pc := 139) dX12_goes_139 1 rfl ?_
                      refine g_dup2 C (pc := 141) dX12_goes_141 rfl rfl ?_
                      refine g_iald C (pc := 142) (by first | assumption | rfl | omega) (by first | assumption | rfl | omega) (vp_in_nI (by omega) (by decide)) dX12_goes_142 ?_
                      refine g_iload C (pc := 143) dX12_goes_143 0 rfl ?_
                      refine g_callSI C (pc := 145) mf_X12_flag lk_RX12_189 (c_X12_flag n ρ J _ hn9) (by decide) (Nat.le_refl _) rfl (Nat.le_of_ble_eq_true rfl) dX12_goes_145 (fun v145 I145 h145 => ?_)
                      obtain ⟨e145, rfl⟩ := h145
                      refine g_isub C (pc := 148) dX12_goes_148 ?_
                      refine g_iast C (pc := 149) (by first | assumption | rfl | omega) (by first | assumption | rfl | omega) hn9 (vp_in_nI (by omega) (by decide)) dX12_goes_149 ?_
                      refine g_iinc C (pc := 150) (1) dX12_goes_150 1 rfl (by decide) (by decide) (fun v150 => [(5, .int v150), (6, .int v133), (3, .int v15), (4, .int v35), (0, .ref 97), (1, .int (nI w)), (2, .int x)]) (fun _ => rfl) (fun v150 ev150 => ?_)
                      refine g_goto C (pc := 153) 72 dX12_goes_153 (by decide) ?_
                      refine g_lv C [0, 2, 3, 4, 5, 6] rfl (ih72 (j + 1) _ _ ?_ ?_ ?_ ?_ ?_ (by omega))
                      · subst ev150; exact nI_1 _
                      · omega
                      · intro i h1 h2; rw [wr_n h2]; exact hF i h1 h2
                      · intro p hp; rw [wr_n (by decide)]; exact hS p hp
                      · intro p hp
                        rw [hcj]
                        by_cases e : p = j
                        · subst e
                          rw [wr_ss, if_pos (Nat.lt_succ_self p), hO p hp, if_neg (Nat.lt_irrefl p), e145, ev133]
                          first
                          | (rw [bI_f (by decide), hni]; exact Int32.sub_zero _)
                          | (rw [bI_t (by decide), hbn.1]; exact pk_sub (b := 1) hbn.2)
                        · rw [wr_sn e, hO p hp]
                          by_cases e2 : p < j
                          · rw [if_pos e2, if_pos (by omega)]
                          · rw [if_neg e2, if_neg (by omega)]
                    · rw [hcj, hF 100 (by decide) (by decide), (qk j hjn).1, hF 97 (by decide) (by decide), hqb.2] at c103
                      have hb3 : rSd F j = bM b := (nI_eq (by omega) (by omega)).mp c103
                      refine g_aload_n C (pc := 106) dX12_goes_106 3 rfl ?_
                      refine g_getR C (pc := 107) fl_RX12_35 (by decide) (by first | assumption | rfl | omega) (by first | assumption | rfl | omega) (by first | assumption | rfl | omega) dX12_goes_107 ?_
                      refine g_iload C (pc := 110) dX12_goes_110 0 rfl ?_
                      refine g_iald C (pc := 112) (by first | assumption | rfl | omega) (by first | assumption | rfl | omega) (vp_in_nI (by omega) (by decide)) dX12_goes_112 ?_
                      refine g_bipush C (pc := 113) (-4) dX12_goes_113 (by decide) ?_
                      refine g_icmp_eq C (pc := 115) 132 dX12_goes_115 (by decide) (fun c115 => ?_) (fun c115 => ?_)
                      · rw [hcj, hS j hjn] at c115
                        have hni : bO (playB F b w mv) j = bO b j := by
                          rw [playO, if_neg]
                          rintro ⟨h1, h2, h3, h4⟩
                          exact h4 ((oI_none hgl).mp c115)
                        refine g_iconst C (pc := 132) 0 dX12_goes_132 (by decide) ?_
                        refine g_istore C (pc := 133) dX12_goes_133 (by decide) (fun v133 => [(6, .int v133), (5, .int (nI j)), (3, .int v15), (4, .int v35), (0, .ref 97), (1, .int (nI w)), (2, .int x)]) (fun _ => rfl) (fun v133 ev133 => ?_)
                        refine g_aload_n C (pc := 135) dX12_goes_135 4 rfl ?_
                        refine g_getR C (pc := 136) fl_RX12_38 (by decide) (by first | assumption | rfl | omega) (by first | assumption | rfl | omega) (by first | assumption | rfl | omega) dX12_goes_136 ?_
                        refine g_iload C (pc := 139) dX12_goes_139 1 rfl ?_
                        refine g_dup2 C (pc := 141) dX12_goes_141 rfl rfl ?_
                        refine g_iald C (pc := 142) (by first | assumption | rfl | omega) (by first | assumption | rfl | omega) (vp_in_nI (by omega) (by decide)) dX12_goes_142 ?_
                        refine g_iload C (pc := 143) dX12_goes_143 0 rfl ?_
                        refine g_callSI C (pc := 145) mf_X12_flag lk_RX12_189 (c_X12_flag n ρ J _ hn9) (by decide) (Nat.le_refl _) rfl (Nat.le_of_ble_eq_true rfl) dX12_goes_145 (fun v145 I145 h145 => ?_)
                        obtain ⟨e145, rfl⟩ := h145
                        refine g_isub C (pc := 148) dX12_goes_148 ?_
                        refine g_iast C (pc := 149) (by first | assumption | rfl | omega) (by first | assumption | rfl | omega) hn9 (vp_in_nI (by omega) (by decide)) dX12_goes_149 ?_
                        refine g_iinc C (pc := 150) (1) dX12_goes_150 1 rfl (by decide) (by decide) (fun v150 => [(5, .int v150), (6, .int v133), (3, .int v15), (4, .int v35), (0, .ref 97), (1, .int (nI w)), (2, .int x)]) (fun _ => rfl) (fun v150 ev150 => ?_)
                        refine g_goto C (pc := 153) 72 dX12_goes_153 (by decide) ?_
                        refine g_lv C [0, 2, 3, 4, 5, 6] rfl (ih72 (j + 1) _ _ ?_ ?_ ?_ ?_ ?_ (by omega))
                        · subst ev150; exact nI_1 _
                        · omega
                        · intro i h1 h2; rw [wr_n h2]; exact hF i h1 h2
                        · intro p hp; rw [wr_n (by decide)]; exact hS p hp
                        · intro p hp
                          rw [hcj]
                          by_cases e : p = j
                          · subst e
                            rw [wr_ss, if_pos (Nat.lt_succ_self p), hO p hp, if_neg (Nat.lt_irrefl p), e145, ev133]
                            first
                            | (rw [bI_f (by decide), hni]; exact Int32.sub_zero _)
                            | (rw [bI_t (by decide), hbn.1]; exact pk_sub (b := 1) hbn.2)
                          · rw [wr_sn e, hO p hp]
                            by_cases e2 : p < j
                            · rw [if_pos e2, if_pos (by omega)]
                            · rw [if_neg e2, if_neg (by omega)]
                      · rw [hcj, hS j hjn] at c115
                        have hb4 : bP (goB F b mv) j ≠ none := fun h => c115 (by rw [h]; rfl)
                        refine g_aload_n C (pc := 118) dX12_goes_118 3 rfl ?_
                        refine g_getR C (pc := 119) fl_RX12_38 (by decide) (by first | assumption | rfl | omega) (by first | assumption | rfl | omega) (by first | assumption | rfl | omega) dX12_goes_119 ?_
                        refine g_iload C (pc := 122) dX12_goes_122 0 rfl ?_
                        refine g_iald C (pc := 124) (by first | assumption | rfl | omega) (by first | assumption | rfl | omega) (vp_in_nI (by omega) (by decide)) dX12_goes_124 ?_
                        refine g_if_le C (pc := 125) 132 dX12_goes_125 (by decide) (fun c125 => ?_) (fun c125 => ?_)
                        · rw [hcj, hO j hjn, if_neg (Nat.lt_irrefl j), show (0 : Int32) = nI 0 from rfl, nI_leI (by omega) (by decide)] at c125
                          have hni : bO (playB F b w mv) j = bO b j := by
                            rw [playO]; split <;> omega
                          refine g_iconst C (pc := 132) 0 dX12_goes_132 (by decide) ?_
                          refine g_istore C (pc := 133) dX12_goes_133 (by decide) (fun v133 => [(6, .int v133), (5, .int (nI j)), (3, .int v15), (4, .int v35), (0, .ref 97), (1, .int (nI w)), (2, .int x)]) (fun _ => rfl) (fun v133 ev133 => ?_)
                          refine g_aload_n C (pc := 135) dX12_goes_135 4 rfl ?_
                          refine g_getR C (pc := 136) fl_RX12_38 (by decide) (by first | assumption | rfl | omega) (by first | assumption | rfl | omega) (by first | assumption | rfl | omega) dX12_goes_136 ?_
                          refine g_iload C (pc := 139) dX12_goes_139 1 rfl ?_
                          refine g_dup2 C (pc := 141) dX12_goes_141 rfl rfl ?_
                          refine g_iald C (pc := 142) (by first | assumption | rfl | omega) (by first | assumption | rfl | omega) (vp_in_nI (by omega) (by decide)) dX12_goes_142 ?_
                          refine g_iload C (pc := 143) dX12_goes_143 0 rfl ?_
                          refine g_callSI C (pc := 145) mf_X12_flag lk_RX12_189 (c_X12_flag n ρ J _ hn9) (by decide) (Nat.le_refl _) rfl (Nat.le_of_ble_eq_true rfl) dX12_goes_145 (fun v145 I145 h145 => ?_)
                          obtain ⟨e145, rfl⟩ := h145
                          refine g_isub C (pc := 148) dX12_goes_148 ?_
                          refine g_iast C (pc := 149) (by first | assumption | rfl | omega) (by first | assumption | rfl | omega) hn9 (vp_in_nI (by omega) (by decide)) dX12_goes_149 ?_
                          refine g_iinc C (pc := 150) (1) dX12_goes_150 1 rfl (by decide) (by decide) (fun v150 => [(5, .int v150), (6, .int v133), (3, .int v15), (4, .int v35), (0, .ref 97), (1, .int (nI w)), (2, .int x)]) (fun _ => rfl) (fun v150 ev150 => ?_)
                          refine g_goto C (pc := 153) 72 dX12_goes_153 (by decide) ?_
                          refine g_lv C [0, 2, 3, 4, 5, 6] rfl (ih72 (j + 1) _ _ ?_ ?_ ?_ ?_ ?_ (by omega))
                          · subst ev150; exact nI_1 _
                          · omega
                          · intro i h1 h2; rw [wr_n h2]; exact hF i h1 h2
                          · intro p hp; rw [wr_n (by decide)]; exact hS p hp
                          · intro p hp
                            rw [hcj]
                            by_cases e : p = j
                            · subst e
                              rw [wr_ss, if_pos (Nat.lt_succ_self p), hO p hp, if_neg (Nat.lt_irrefl p), e145, ev133]
                              first
                              | (rw [bI_f (by decide), hni]; exact Int32.sub_zero _)
                              | (rw [bI_t (by decide), hbn.1]; exact pk_sub (b := 1) hbn.2)
                            · rw [wr_sn e, hO p hp]
                              by_cases e2 : p < j
                              · rw [if_pos e2, if_pos (by omega)]
                              · rw [if_neg e2, if_neg (by omega)]
                        · rw [hcj, hO j hjn, if_neg (Nat.lt_irrefl j), show (0 : Int32) = nI 0 from rfl, nI_ltI (by decide) (by omega)] at c125
                          have hbn : bO (playB F b w mv) j = bO b j - 1 ∧ 1 ≤ bO b j := by
                            refine ⟨?_, c125⟩
                            rw [playO, if_pos ⟨hb1, hb2, hb3, hb4⟩]
                          refine g_iconst C (pc := 128) 1 dX12_goes_128 (by decide) ?_
                          refine g_goto C (pc := 129) 133 dX12_goes_129 (by decide) ?_
                          refine g_istore C (pc := 133) dX12_goes_133 (by decide) (fun v133 => [(6, .int v133), (5, .int (nI j)), (3, .int v15), (4, .int v35), (0, .ref 97), (1, .int (nI w)), (2, .int x)]) (fun _ => rfl) (fun v133 ev133 => ?_)
                          refine g_aload_n C (pc := 135) dX12_goes_135 4 rfl ?_
                          refine g_getR C (pc := 136) fl_RX12_38 (by decide) (by first | assumption | rfl | omega) (by first | assumption | rfl | omega) (by first | assumption | rfl | omega) dX12_goes_136 ?_
                          refine g_iload C (pc := 139) dX12_goes_139 1 rfl ?_
                          refine g_dup2 C (pc := 141) dX12_goes_141 rfl rfl ?_
                          refine g_iald C (pc := 142) (by first | assumption | rfl | omega) (by first | assumption | rfl | omega) (vp_in_nI (by omega) (by decide)) dX12_goes_142 ?_
                          refine g_iload C (pc := 143) dX12_goes_143 0 rfl ?_
                          refine g_callSI C (pc := 145) mf_X12_flag lk_RX12_189 (c_X12_flag n ρ J _ hn9) (by decide) (Nat.le_refl _) rfl (Nat.le_of_ble_eq_true rfl) dX12_goes_145 (fun v145 I145 h145 => ?_)
                          obtain ⟨e145, rfl⟩ := h145
                          refine g_isub C (pc := 148) dX12_goes_148 ?_
                          refine g_iast C (pc := 149) (by first | assumption | rfl | omega) (by first | assumption | rfl | omega) hn9 (vp_in_nI (by omega) (by decide)) dX12_goes_149 ?_
                          refine g_iinc C (pc := 150) (1) dX12_goes_150 1 rfl (by decide) (by decide) (fun v150 => [(5, .int v150), (6, .int v133), (3, .int v15), (4, .int v35), (0, .ref 97), (1, .int (nI w)), (2, .int x)]) (fun _ => rfl) (fun v150 ev150 => ?_)
                          refine g_goto C (pc := 153) 72 dX12_goes_153 (by decide) ?_
                          refine g_lv C [0, 2, 3, 4, 5, 6] rfl (ih72 (j + 1) _ _ ?_ ?_ ?_ ?_ ?_ (by omega))
                          · subst ev150; exact nI_1 _
                          · omega
                          · intro i h1 h2; rw [wr_n h2]; exact hF i h1 h2
                          · intro p hp; rw [wr_n (by decide)]; exact hS p hp
                          · intro p hp
                            rw [hcj]
                            by_cases e : p = j
                            · subst e
                              rw [wr_ss, if_pos (Nat.lt_succ_self p), hO p hp, if_neg (Nat.lt_irrefl p), e145, ev133]
                              first
                              | (rw [bI_f (by decide), hni]; exact Int32.sub_zero _)
                              | (rw [bI_t (by decide), hbn.1]; exact pk_sub (b := 1) hbn.2)
                            · rw [wr_sn e, hO p hp]
                              by_cases e2 : p < j
                              · rw [if_pos e2, if_pos (by omega)]
                              · rw [if_neg e2, if_neg (by omega)]
          refine g_lv C [0, 2, 1, 3, 4, 5] rfl (L72 (_ + 1) 0 _ _ ?_ ?_ ?_ ?_ ?_ (by first | omega | exact Nat.lt_succ_self _))
          · subst ev70; rfl
          · omega
          · first | (intro i _ _; rfl) | (intro i h1 _; rw [wr_n h1, wr_n h1]) | (intro i h1 _; rw [wr_n h1])
          · exact hG
          · intro p hp; rw [if_neg (Nat.not_lt_zero p)]
            first | exact (hqb.1 p hp).2 | (rw [wr_n (by decide)]; exact (hqb.1 p hp).2) | (rw [wr_n (by decide), wr_n (by decide)]; exact (hqb.1 p hp).2)
    · exact absurd c19 c3
  · have hm9 : mv = none := by
      cases h9 : mv with
      | none => rfl
      | some m9 =>
        obtain ⟨p9, i9, hp9, hi9s, hmpi⟩ := hmk m9 h9
        rw [hx, h9] at c3; exact absurd c3 (nI_ne4 (by omega))
    have hmp : mv.map (fun m => m / 100) = none := by rw [hm9]; rfl
    have hbd : mv.bind (fun m => pon F b (m % 100)) = none := by rw [hm9]; rfl
    have hG : ∀ p, p < rN F → I 106 p = oI (bP (goB F b mv) p) := fun p hp => by rw [hm9]; exact (hqb.1 p hp).1
    refine g_bipush C (pc := 6) (-4) dX12_goes_6 (by decide) ?_
    refine g_goto C (pc := 8) 15 dX12_goes_8 (by decide) ?_
    refine g_istore_n C (pc := 15) dX12_goes_15 (by decide) (fun v15 => [(3, .int v15), (0, .ref 97), (1, .int (nI w)), (2, .int x)]) (fun _ => rfl) (fun v15 ev15 => ?_)
    have h15 : v15 = oI (mv.map (fun m => m / 100)) := by
      rw [hmp, ev15]
      first | exact hdv | rfl
    refine g_iload_n C (pc := 16) dX12_goes_16 3 rfl ?_
    refine g_bipush C (pc := 17) (-4) dX12_goes_17 (by decide) ?_
    refine g_icmp_ne C (pc := 19) 27 dX12_goes_19 (by decide) (fun c19 => ?_) (fun c19 => ?_)
    · exact absurd c3 c19
    · refine g_bipush C (pc := 22) (-4) dX12_goes_22 (by decide) ?_
      refine g_goto C (pc := 24) 35 dX12_goes_24 (by decide) ?_
      refine g_istore C (pc := 35) dX12_goes_35 (by decide) (fun v35 => [(4, .int v35), (3, .int v15), (0, .ref 97), (1, .int (nI w)), (2, .int x)]) (fun _ => rfl) (fun v35 ev35 => ?_)
      have h35 : v35 = oI (mv.bind (fun m => pon F b (m % 100))) := by
        rw [hbd, ev35]
        first | exact e32 | rfl
      refine g_iload C (pc := 37) dX12_goes_37 0 rfl ?_
      refine g_bipush C (pc := 39) (-4) dX12_goes_39 (by decide) ?_
      refine g_icmp_eq C (pc := 41) 53 dX12_goes_41 (by decide) (fun c41 => ?_) (fun c41 => ?_)
      · first
        | have hpn : pon F b i9 = none := by
            rw [h35, hbd] at c41
            exact (oI_none (fun z hz => by have := (pon_some hz).1; omega)).mp c41
        | skip
        refine g_iload_n C (pc := 53) dX12_goes_53 1 rfl ?_
        refine g_bipush C (pc := 54) (-4) dX12_goes_54 (by decide) ?_
        refine g_icmp_eq C (pc := 56) 69 dX12_goes_56 (by decide) (fun c56 => ?_) (fun c56 => ?_)
        · first
          | have hG : ∀ p, p < rN F → (wr (wr I 106 v35.toNatClampNeg (-4)) 106 v15.toNatClampNeg (x - x / 100 * 100)) 106 p = oI (bP (goB F b mv) p) := fun p hp => by
              rw [hgat, hrm, h15, hmp, h35t, show (oI (some p9)).toNatClampNeg = p9 from nI_clamp (by omega), nI_clamp (by omega)]
              by_cases e1 : p = p9
              · subst e1; rw [wr_ss, if_pos rfl]; rfl
              · rw [wr_sn e1, if_neg e1, ht9]
                by_cases e2 : p = t9
                · subst e2; rw [wr_ss, if_pos rfl]; rfl
                · rw [wr_sn e2, if_neg (fun h => e2 (Option.some.inj h).symm)]; exact (hqb.1 p hp).1
          | have hG : ∀ p, p < rN F → (wr I 106 v15.toNatClampNeg (x - x / 100 * 100)) 106 p = oI (bP (goB F b mv) p) := fun p hp => by
              rw [hgat, hrm, h15, hmp, show (oI (some p9)).toNatClampNeg = p9 from nI_clamp (by omega)]
              by_cases e1 : p = p9
              · subst e1; rw [wr_ss, if_pos rfl]; rfl
              · rw [wr_sn e1, if_neg e1, hpn, if_neg (fun h => by cases h)]; exact (hqb.1 p hp).1
          | skip
          refine g_iconst C (pc := 69) 0 dX12_goes_69 (by decide) ?_
          refine g_istore C (pc := 70) dX12_goes_70 (by decide) (fun v70 => [(5, .int v70), (4, .int v35), (3, .int v15), (0, .ref 97), (1, .int (nI w)), (2, .int x)]) (fun _ => rfl) (fun v70 ev70 => ?_)
          have L72 : ∀ (k9 : Nat) (j : Nat) (wz5 : Int32) (J : Mem) (hw5 : wz5 = nI j) (hj : j ≤ rN F) (hF : ∀ i, i ≠ 106 → i ≠ 107 → J i = I i) (hS : ∀ p, p < rN F → J 106 p = oI (bP (goB F b mv) p)) (hO : ∀ p, p < rN F → J 107 p = nI (if p < j then bO (playB F b w mv) p else bO b p)), rN F - j < k9 → G κ n ρ 72 [(5, .int wz5), (3, .int v15), (4, .int v35), (0, .ref 97), (1, .int (nI w)), (2, .int x)] [] J := by
            intro k9
            induction k9 with
            | zero => intro j wz5 J hw5 hj hF hS hO hm72; exact absurd hm72 (Nat.not_lt_zero _)
            | succ k9 ih72 =>
              intro j wz5 J hw5 hj hF hS hO hm72
              subst hw5
              refine g_iload C (pc := 72) dX12_goes_72 0 rfl ?_
              refine g_aload_n C (pc := 74) dX12_goes_74 3 rfl ?_
              refine g_getI C (pc := 75) fl_RX12_105 (by decide) (by first | assumption | rfl | omega) (by first | assumption | rfl | omega) dX12_goes_75 ?_
              refine g_icmp_ge C (pc := 78) 156 dX12_goes_78 (by decide) (fun c78 => ?_) (fun c78 => ?_)
              · rw [hF 97 (by decide) (by decide), qn, nI_leI (by omega) (by omega)] at c78
                refine g_aload_n C (pc := 156) dX12_goes_156 3 rfl ?_
                refine g_iconst C (pc := 157) 1 dX12_goes_157 (by decide) ?_
                refine g_aload_n C (pc := 158) dX12_goes_158 3 rfl ?_
                refine g_getI C (pc := 159) fl_RX12_204 (by decide) (by first | assumption | rfl | omega) (by first | assumption | rfl | omega) dX12_goes_159 ?_
                refine g_isub C (pc := 162) dX12_goes_162 ?_
                refine g_putI C (pc := 163) fl_RX12_204 (by decide) fp_11_25 (Or.inl rfl) ⟨rfl, rfl⟩ (by first | assumption | rfl | omega) (by first | assumption | rfl | omega) hn9 dX12_goes_163 ?_
                refine g_iload C (pc := 166) dX12_goes_166 2 rfl ?_
                refine g_iret C hR (pc := 168) rfl dX12_goes_168 ?_
                refine ⟨rfl, _, rfl, ?_⟩
                have hjn : j = rN F := by omega
                have hM2 := hbw.1
                refine ⟨h35, ⟨fun p hp => ⟨?_, ?_⟩, ?_⟩, fun z hz => ?_, fun i h1 h2 h3 => ?_⟩
                · rw [wr_n (by decide), playB_P]; exact hS p hp
                · rw [wr_n (by decide), hO p hp, if_pos (by omega)]
                · rw [wr_ss, hF 97 (by decide) (by decide), hqb.2, playB_M]; exact pk_sub (a := 1) (by omega)
                · rw [wr_sn hz, hF 97 (by decide) (by decide)]
                · rw [wr_n h1]; exact hF i h2 h3
              · have hjn : j < rN F := by
                  rw [hF 97 (by decide) (by decide), qn, nI_ltI (by omega) (by omega)] at c78
                  exact c78
                have hcj : (nI j).toNatClampNeg = j := nI_clamp (by omega)
                have hs2 := (hrw.2.2.2.2.2.1 j hjn).1
                have hM2 := hbw.1
                have ho9 := (hbw.2.1 j hjn).2
                have hgl : ∀ z, bP (goB F b mv) j = some z → z < 2 ^ 31 := fun z hz => by
                  have := ((hmk.bw hrw hbw (w := w)).2.1 j hjn).1 z (by rw [playB_P]; exact hz)
                  omega
                refine g_iload_n C (pc := 81) dX12_goes_81 4 rfl ?_
                refine g_iconst C (pc := 82) 4 dX12_goes_82 (by decide) ?_
                refine g_icmp_eq C (pc := 83) 132 dX12_goes_83 (by decide) (fun c83 => ?_) (fun c83 => ?_)
                · have hni : bO (playB F b w mv) j = bO b j := by
                    rw [playO, if_neg]
                    rintro ⟨h1, h2, h3, h4⟩
                    exact h1 ((nI_eq (by omega) (by decide)).mp c83)
                  refine g_iconst C (pc := 132) 0 dX12_goes_132 (by decide) ?_
                  refine g_istore C (pc := 133) dX12_goes_133 (by decide) (fun v133 => [(6, .int v133), (5, .int (nI j)), (3, .int v15), (4, .int v35), (0, .ref 97), (1, .int (nI w)), (2, .int x)]) (fun _ => rfl) (fun v133 ev133 => ?_)
                  refine g_aload_n C (pc := 135) dX12_goes_135 4 rfl ?_
                  refine g_getR C (pc := 136) fl_RX12_38 (by decide) (by first | assumption | rfl | omega) (by first | assumption | rfl | omega) (by first | assumption | rfl | omega) dX12_goes_136 ?_
                  refine g_iload C (pc := 139) dX12_goes_139 1 rfl ?_
                  refine g_dup2 C (pc := 141) dX12_goes_141 rfl rfl ?_
                  refine g_iald C (pc := 142) (by first | assumption | rfl | omega) (by first | assumption | rfl | omega) (vp_in_nI (by omega) (by decide)) dX12_goes_142 ?_
                  refine g_iload C (pc := 143) dX12_goes_143 0 rfl ?_
                  refine g_callSI C (pc := 145) mf_X12_flag lk_RX12_189 (c_X12_flag n ρ J _ hn9) (by decide) (Nat.le_refl _) rfl (Nat.le_of_ble_eq_true rfl) dX12_goes_145 (fun v145 I145 h145 => ?_)
                  obtain ⟨e145, rfl⟩ := h145
                  refine g_isub C (pc := 148) dX12_goes_148 ?_
                  refine g_iast C (pc := 149) (by first | assumption | rfl | omega) (by first | assumption | rfl | omega) hn9 (vp_in_nI (by omega) (by decide)) dX12_goes_149 ?_
                  refine g_iinc C (pc := 150) (1) dX12_goes_150 1 rfl (by decide) (by decide) (fun v150 => [(5, .int v150), (6, .int v133), (3, .int v15), (4, .int v35), (0, .ref 97), (1, .int (nI w)), (2, .int x)]) (fun _ => rfl) (fun v150 ev150 => ?_)
                  refine g_goto C (pc := 153) 72 dX12_goes_153 (by decide) ?_
                  refine g_lv C [0, 2, 3, 4, 5, 6] rfl (ih72 (j + 1) _ _ ?_ ?_ ?_ ?_ ?_ (by omega))
                  · subst ev150; exact nI_1 _
                  · omega
                  · intro i h1 h2; rw [wr_n h2]; exact hF i h1 h2
                  · intro p hp; rw [wr_n (by decide)]; exact hS p hp
                  · intro p hp
                    rw [hcj]
                    by_cases e : p = j
                    · subst e
                      rw [wr_ss, if_pos (Nat.lt_succ_self p), hO p hp, if_neg (Nat.lt_irrefl p), e145, ev133]
                      first
                      | (rw [bI_f (by decide), hni]; exact Int32.sub_zero _)
                      | (rw [bI_t (by decide), hbn.1]; exact pk_sub (b := 1) hbn.2)
                    · rw [wr_sn e, hO p hp]
                      by_cases e2 : p < j
                      · rw [if_pos e2, if_pos (by omega)]
                      · rw [if_neg e2, if_neg (by omega)]
                · have hb1 : w ≠ 4 := fun h => c83 (by rw [h]; rfl)
                  refine g_iload C (pc := 86) dX12_goes_86 0 rfl ?_
                  refine g_iload_n C (pc := 88) dX12_goes_88 1 rfl ?_
                  refine g_icmp_eq C (pc := 89) 132 dX12_goes_89 (by decide) (fun c89 => ?_) (fun c89 => ?_)
                  · have hni : bO (playB F b w mv) j = bO b j := by
                      rw [playO, if_neg]
                      rintro ⟨h1, h2, h3, h4⟩
                      rw [h15] at c89
                      first
                      | (rw [hmp] at c89 h2; exact h2 (congrArg some ((nI_eq (by omega) (by omega)).mp c89).symm))
                      | (rw [hmp] at c89; exact absurd c89 (nI_ne4 (by omega)))
                    refine g_iconst C (pc := 132) 0 dX12_goes_132 (by decide) ?_
                    refine g_istore C (pc := 133) dX12_goes_133 (by decide) (fun v133 => [(6, .int v133), (5, .int (nI j)), (3, .int v15), (4, .int v35), (0, .ref 97), (1, .int (nI w)), (2, .int x)]) (fun _ => rfl) (fun v133 ev133 => ?_)
                    refine g_aload_n C (pc := 135) dX12_goes_135 4 rfl ?_
                    refine g_getR C (pc := 136) fl_RX12_38 (by decide) (by first | assumption | rfl | omega) (by first | assumption | rfl | omega) (by first | assumption | rfl | omega) dX12_goes_136 ?_
                    refine g_iload C (pc := 139) dX12_goes_139 1 rfl ?_
                    refine g_dup2 C (pc := 141) dX12_goes_141 rfl rfl ?_
                    refine g_iald C (pc := 142) (by first | assumption | rfl | omega) (by first | assumption | rfl | omega) (vp_in_nI (by omega) (by decide)) dX12_goes_142 ?_
                    refine g_iload C (pc := 143) dX12_goes_143 0 rfl ?_
                    refine g_callSI C (pc := 145) mf_X12_flag lk_RX12_189 (c_X12_flag n ρ J _ hn9) (by decide) (Nat.le_refl _) rfl (Nat.le_of_ble_eq_true rfl) dX12_goes_145 (fun v145 I145 h145 => ?_)
                    obtain ⟨e145, rfl⟩ := h145
                    refine g_isub C (pc := 148) dX12_goes_148 ?_
                    refine g_iast C (pc := 149) (by first | assumption | rfl | omega) (by first | assumption | rfl | omega) hn9 (vp_in_nI (by omega) (by decide)) dX12_goes_149 ?_
                    refine g_iinc C (pc := 150) (1) dX12_goes_150 1 rfl (by decide) (by decide) (fun v150 => [(5, .int v150), (6, .int v133), (3, .int v15), (4, .int v35), (0, .ref 97), (1, .int (nI w)), (2, .int x)]) (fun _ => rfl) (fun v150 ev150 => ?_)
                    refine g_goto C (pc := 153) 72 dX12_goes_153 (by decide) ?_
                    refine g_lv C [0, 2, 3, 4, 5, 6] rfl (ih72 (j + 1) _ _ ?_ ?_ ?_ ?_ ?_ (by omega))
                    · subst ev150; exact nI_1 _
                    · omega
                    · intro i h1 h2; rw [wr_n h2]; exact hF i h1 h2
                    · intro p hp; rw [wr_n (by decide)]; exact hS p hp
                    · intro p hp
                      rw [hcj]
                      by_cases e : p = j
                      · subst e
                        rw [wr_ss, if_pos (Nat.lt_succ_self p), hO p hp, if_neg (Nat.lt_irrefl p), e145, ev133]
                        first
                        | (rw [bI_f (by decide), hni]; exact Int32.sub_zero _)
                        | (rw [bI_t (by decide), hbn.1]; exact pk_sub (b := 1) hbn.2)
                      · rw [wr_sn e, hO p hp]
                        by_cases e2 : p < j
                        · rw [if_pos e2, if_pos (by omega)]
                        · rw [if_neg e2, if_neg (by omega)]
                  · have hb2 : mv.map (fun m => m / 100) ≠ some j := fun h => c89 (by rw [h15, h]; rfl)
                    refine g_aload_n C (pc := 92) dX12_goes_92 3 rfl ?_
                    refine g_getR C (pc := 93) fl_RX12_17 (by decide) (by first | assumption | rfl | omega) (by first | assumption | rfl | omega) (by first | assumption | rfl | omega) dX12_goes_93 ?_
                    refine g_iload C (pc := 96) dX12_goes_96 0 rfl ?_
                    refine g_iald C (pc := 98) (by first | assumption | rfl | omega) (by first | assumption | rfl | omega) (vp_in_nI (by omega) (by decide)) dX12_goes_98 ?_
                    refine g_aload_n C (pc := 99) dX12_goes_99 3 rfl ?_
                    refine g_getI C (pc := 100) fl_RX12_204 (by decide) (by first | assumption | rfl | omega) (by first | assumption | rfl | omega) dX12_goes_100 ?_
                    refine g_icmp_ne C (pc := 103) 132 dX12_goes_103 (by decide) (fun c103 => ?_) (fun c103 => ?_)
                    · rw [hcj, hF 100 (by decide) (by decide), (qk j hjn).1, hF 97 (by decide) (by decide), hqb.2] at c103
                      have hni : bO (playB F b w mv) j = bO b j := by
                        rw [playO, if_neg]
                        rintro ⟨h1, h2, h3, h4⟩
                        exact c103 (by rw [h3])
                      refine g_iconst C (pc := 132) 0 dX12_goes_132 (by decide) ?_
                      refine g_istore C (pc := 133) dX12_goes_133 (by decide) (fun v133 => [(6, .int v133), (5, .int (nI j)), (3, .int v15), (4, .int v35), (0, .ref 97), (1, .int (nI w)), (2, .int x)]) (fun _ => rfl) (fun v133 ev133 => ?_)
                      refine g_aload_n C (pc := 135) dX12_goes_135 4 rfl ?_
                      refine g_getR C (pc := 136) fl_RX12_38 (by decide) (by first | assumption | rfl | omega) (by first | assumption | rfl | omega) (by first | assumption | rfl | omega) dX12_goes_136 ?_
                      refine g_iload C (pc := 139) dX12_goes_139 1 rfl ?_
                      refine g_dup2 C (pc := 141) dX12_goes_141 rfl rfl ?_
                      refine g_iald C (pc := 142) (by first | assumption | rfl | omega) (by first | assumption | rfl | omega) (vp_in_nI (by omega) (by decide)) dX12_goes_142 ?_
                      refine g_iload C (pc := 143) dX12_goes_143 0 rfl ?_
                      refine g_callSI C (pc := 145) mf_X12_flag lk_RX12_189 (c_X12_flag n ρ J _ hn9) (by decide) (Nat.le_refl _) rfl (Nat.le_of_ble_eq_true rfl) dX12_goes_145 (fun v145 I145 h145 => ?_)
                      obtain ⟨e145, rfl⟩ := h145
                      refine g_isub C (pc := 148) dX12_goes_148 ?_
                      refine g_iast C (pc := 149) (by first | assumption | rfl | omega) (by first | assumption | rfl | omega) hn9 (vp_in_nI (by omega) (by decide)) dX12_goes_149 ?_
                      refine g_iinc C (pc := 150) (1) dX12_goes_150 1 rfl (by decide) (by decide) (fun v150 => [(5, .int v150), (6, .int v133), (3, .int v15), (4, .int v35), (0, .ref 97), (1, .int (nI w)), (2, .int x)]) (fun _ => rfl) (fun v150 ev150 => ?_)
                      refine g_goto C (pc := 153) 72 dX12_goes_153 (by decide) ?_
                      refine g_lv C [0, 2, 3, 4, 5, 6] rfl (ih72 (j + 1) _ _ ?_ ?_ ?_ ?_ ?_ (by omega))
                      · subst ev150; exact nI_1 _
                      · omega
                      · intro i h1 h2; rw [wr_n h2]; exact hF i h1 h2
                      · intro p hp; rw [wr_n (by decide)]; exact hS p hp
                      · intro p hp
                        rw [hcj]
                        by_cases e : p = j
                        · subst e
                          rw [wr_ss, if_pos (Nat.lt_succ_self p), hO p hp, if_neg (Nat.lt_irrefl p), e145, ev133]
                          first
                          | (rw [bI_f (by decide), hni]; exact Int32.sub_zero _)
                          | (rw [bI_t (by decide), hbn.1]; exact pk_sub (b := 1) hbn.2)
                        · rw [wr_sn e, hO p hp]
                          by_cases e2 : p < j
                          · rw [if_pos e2, if_pos (by omega)]
                          · rw [if_neg e2, if_neg (by omega)]
                    · rw [hcj, hF 100 (by decide) (by decide), (qk j hjn).1, hF 97 (by decide) (by decide), hqb.2] at c103
                      have hb3 : rSd F j = bM b := (nI_eq (by omega) (by omega)).mp c103
                      refine g_aload_n C (pc := 106) dX12_goes_106 3 rfl ?_
                      refine g_getR C (pc := 107) fl_RX12_35 (by decide) (by first | assumption | rfl | omega) (by first | assumption | rfl | omega) (by first | assumption | rfl | omega) dX12_goes_107 ?_
                      refine g_iload C (pc := 110) dX12_goes_110 0 rfl ?_
                      refine g_iald C (pc := 112) (by first | assumption | rfl | omega) (by first | assumption | rfl | omega) (vp_in_nI (by omega) (by decide)) dX12_goes_112 ?_
                      refine g_bipush C (pc := 113) (-4) dX12_goes_113 (by decide) ?_
                      refine g_icmp_eq C (pc := 115) 132 dX12_goes_115 (by decide) (fun c115 => ?_) (fun c115 => ?_)
                      · rw [hcj, hS j hjn] at c115
                        have hni : bO (playB F b w mv) j = bO b j := by
                          rw [playO, if_neg]
                          rintro ⟨h1, h2, h3, h4⟩
                          exact h4 ((oI_none hgl).mp c115)
                        refine g_iconst C (pc := 132) 0 dX12_goes_132 (by decide) ?_
                        refine g_istore C (pc := 133) dX12_goes_133 (by decide) (fun v133 => [(6, .int v133), (5, .int (nI j)), (3, .int v15), (4, .int v35), (0, .ref 97), (1, .int (nI w)), (2, .int x)]) (fun _ => rfl) (fun v133 ev133 => ?_)
                        refine g_aload_n C (pc := 135) dX12_goes_135 4 rfl ?_
                        refine g_getR C (pc := 136) fl_RX12_38 (by decide) (by first | assumption | rfl | omega) (by first | assumption | rfl | omega) (by first | assumption | rfl | omega) dX12_goes_136 ?_
                        refine g_iload C (pc := 139) dX12_goes_139 1 rfl ?_
                        refine g_dup2 C (pc := 141) dX12_goes_141 rfl rfl ?_
                        refine g_iald C (pc := 142) (by first | assumption | rfl | omega) (by first | assumption | rfl | omega) (vp_in_nI (by omega) (by decide)) dX12_goes_142 ?_
                        refine g_iload C (pc := 143) dX12_goes_143 0 rfl ?_
                        refine g_callSI C (pc := 145) mf_X12_flag lk_RX12_189 (c_X12_flag n ρ J _ hn9) (by decide) (Nat.le_refl _) rfl (Nat.le_of_ble_eq_true rfl) dX12_goes_145 (fun v145 I145 h145 => ?_)
                        obtain ⟨e145, rfl⟩ := h145
                        refine g_isub C (pc := 148) dX12_goes_148 ?_
                        refine g_iast C (pc := 149) (by first | assumption | rfl | omega) (by first | assumption | rfl | omega) hn9 (vp_in_nI (by omega) (by decide)) dX12_goes_149 ?_
                        refine g_iinc C (pc := 150) (1) dX12_goes_150 1 rfl (by decide) (by decide) (fun v150 => [(5, .int v150), (6, .int v133), (3, .int v15), (4, .int v35), (0, .ref 97), (1, .int (nI w)), (2, .int x)]) (fun _ => rfl) (fun v150 ev150 => ?_)
                        refine g_goto C (pc := 153) 72 dX12_goes_153 (by decide) ?_
                        refine g_lv C [0, 2, 3, 4, 5, 6] rfl (ih72 (j + 1) _ _ ?_ ?_ ?_ ?_ ?_ (by omega))
                        · subst ev150; exact nI_1 _
                        · omega
                        · intro i h1 h2; rw [wr_n h2]; exact hF i h1 h2
                        · intro p hp; rw [wr_n (by decide)]; exact hS p hp
                        · intro p hp
                          rw [hcj]
                          by_cases e : p = j
                          · subst e
                            rw [wr_ss, if_pos (Nat.lt_succ_self p), hO p hp, if_neg (Nat.lt_irrefl p), e145, ev133]
                            first
                            | (rw [bI_f (by decide), hni]; exact Int32.sub_zero _)
                            | (rw [bI_t (by decide), hbn.1]; exact pk_sub (b := 1) hbn.2)
                          · rw [wr_sn e, hO p hp]
                            by_cases e2 : p < j
                            · rw [if_pos e2, if_pos (by omega)]
                            · rw [if_neg e2, if_neg (by omega)]
                      · rw [hcj, hS j hjn] at c115
                        have hb4 : bP (goB F b mv) j ≠ none := fun h => c115 (by rw [h]; rfl)
                        refine g_aload_n C (pc := 118) dX12_goes_118 3 rfl ?_
                        refine g_getR C (pc := 119) fl_RX12_38 (by decide) (by first | assumption | rfl | omega) (by first | assumption | rfl | omega) (by first | assumption | rfl | omega) dX12_goes_119 ?_
                        refine g_iload C (pc := 122) dX12_goes_122 0 rfl ?_
                        refine g_iald C (pc := 124) (by first | assumption | rfl | omega) (by first | assumption | rfl | omega) (vp_in_nI (by omega) (by decide)) dX12_goes_124 ?_
                        refine g_if_le C (pc := 125) 132 dX12_goes_125 (by decide) (fun c125 => ?_) (fun c125 => ?_)
                        · rw [hcj, hO j hjn, if_neg (Nat.lt_irrefl j), show (0 : Int32) = nI 0 from rfl, nI_leI (by omega) (by decide)] at c125
                          have hni : bO (playB F b w mv) j = bO b j := by
                            rw [playO]; split <;> omega
                          refine g_iconst C (pc := 132) 0 dX12_goes_132 (by decide) ?_
                          refine g_istore C (pc := 133) dX12_goes_133 (by decide) (fun v133 => [(6, .int v133), (5, .int (nI j)), (3, .int v15), (4, .int v35), (0, .ref 97), (1, .int (nI w)), (2, .int x)]) (fun _ => rfl) (fun v133 ev133 => ?_)
                          refine g_aload_n C (pc := 135) dX12_goes_135 4 rfl ?_
                          refine g_getR C (pc := 136) fl_RX12_38 (by decide) (by first | assumption | rfl | omega) (by first | assumption | rfl | omega) (by first | assumption | rfl | omega) dX12_goes_136 ?_
                          refine g_iload C (pc := 139) dX12_goes_139 1 rfl ?_
                          refine g_dup2 C (pc := 141) dX12_goes_141 rfl rfl ?_
                          refine g_iald C (pc := 142) (by first | assumption | rfl | omega) (by first | assumption | rfl | omega) (vp_in_nI (by omega) (by decide)) dX12_goes_142 ?_
                          refine g_iload C (pc := 143) dX12_goes_143 0 rfl ?_
                          refine g_callSI C (pc := 145) mf_X12_flag lk_RX12_189 (c_X12_flag n ρ J _ hn9) (by decide) (Nat.le_refl _) rfl (Nat.le_of_ble_eq_true rfl) dX12_goes_145 (fun v145 I145 h145 => ?_)
                          obtain ⟨e145, rfl⟩ := h145
                          refine g_isub C (pc := 148) dX12_goes_148 ?_
                          refine g_iast C (pc := 149) (by first | assumption | rfl | omega) (by first | assumption | rfl | omega) hn9 (vp_in_nI (by omega) (by decide)) dX12_goes_149 ?_
                          refine g_iinc C (pc := 150) (1) dX12_goes_150 1 rfl (by decide) (by decide) (fun v150 => [(5, .int v150), (6, .int v133), (3, .int v15), (4, .int v35), (0, .ref 97), (1, .int (nI w)), (2, .int x)]) (fun _ => rfl) (fun v150 ev150 => ?_)
                          refine g_goto C (pc := 153) 72 dX12_goes_153 (by decide) ?_
                          refine g_lv C [0, 2, 3, 4, 5, 6] rfl (ih72 (j + 1) _ _ ?_ ?_ ?_ ?_ ?_ (by omega))
                          · subst ev150; exact nI_1 _
                          · omega
                          · intro i h1 h2; rw [wr_n h2]; exact hF i h1 h2
                          · intro p hp; rw [wr_n (by decide)]; exact hS p hp
                          · intro p hp
                            rw [hcj]
                            by_cases e : p = j
                            · subst e
                              rw [wr_ss, if_pos (Nat.lt_succ_self p), hO p hp, if_neg (Nat.lt_irrefl p), e145, ev133]
                              first
                              | (rw [bI_f (by decide), hni]; exact Int32.sub_zero _)
                              | (rw [bI_t (by decide), hbn.1]; exact pk_sub (b := 1) hbn.2)
                            · rw [wr_sn e, hO p hp]
                              by_cases e2 : p < j
                              · rw [if_pos e2, if_pos (by omega)]
                              · rw [if_neg e2, if_neg (by omega)]
                        · rw [hcj, hO j hjn, if_neg (Nat.lt_irrefl j), show (0 : Int32) = nI 0 from rfl, nI_ltI (by decide) (by omega)] at c125
                          have hbn : bO (playB F b w mv) j = bO b j - 1 ∧ 1 ≤ bO b j := by
                            refine ⟨?_, c125⟩
                            rw [playO, if_pos ⟨hb1, hb2, hb3, hb4⟩]
                          refine g_iconst C (pc := 128) 1 dX12_goes_128 (by decide) ?_
                          refine g_goto C (pc := 129) 133 dX12_goes_129 (by decide) ?_
                          refine g_istore C (pc := 133) dX12_goes_133 (by decide) (fun v133 => [(6, .int v133), (5, .int (nI j)), (3, .int v15), (4, .int v35), (0, .ref 97), (1, .int (nI w)), (2, .int x)]) (fun _ => rfl) (fun v133 ev133 => ?_)
                          refine g_aload_n C (pc := 135) dX12_goes_135 4 rfl ?_
                          refine g_getR C (pc := 136) fl_RX12_38 (by decide) (by first | assumption | rfl | omega) (by first | assumption | rfl | omega) (by first | assumption | rfl | omega) dX12_goes_136 ?_
                          refine g_iload C (pc := 139) dX12_goes_139 1 rfl ?_
                          refine g_dup2 C (pc := 141) dX12_goes_141 rfl rfl ?_
                          refine g_iald C (pc := 142) (by first | assumption | rfl | omega) (by first | assumption | rfl | omega) (vp_in_nI (by omega) (by decide)) dX12_goes_142 ?_
                          refine g_iload C (pc := 143) dX12_goes_143 0 rfl ?_
                          refine g_callSI C (pc := 145) mf_X12_flag lk_RX12_189 (c_X12_flag n ρ J _ hn9) (by decide) (Nat.le_refl _) rfl (Nat.le_of_ble_eq_true rfl) dX12_goes_145 (fun v145 I145 h145 => ?_)
                          obtain ⟨e145, rfl⟩ := h145
                          refine g_isub C (pc := 148) dX12_goes_148 ?_
                          refine g_iast C (pc := 149) (by first | assumption | rfl | omega) (by first | assumption | rfl | omega) hn9 (vp_in_nI (by omega) (by decide)) dX12_goes_149 ?_
                          refine g_iinc C (pc := 150) (1) dX12_goes_150 1 rfl (by decide) (by decide) (fun v150 => [(5, .int v150), (6, .int v133), (3, .int v15), (4, .int v35), (0, .ref 97), (1, .int (nI w)), (2, .int x)]) (fun _ => rfl) (fun v150 ev150 => ?_)
                          refine g_goto C (pc := 153) 72 dX12_goes_153 (by decide) ?_
                          refine g_lv C [0, 2, 3, 4, 5, 6] rfl (ih72 (j + 1) _ _ ?_ ?_ ?_ ?_ ?_ (by omega))
                          · subst ev150; exact nI_1 _
                          · omega
                          · intro i h1 h2; rw [wr_n h2]; exact hF i h1 h2
                          · intro p hp; rw [wr_n (by decide)]; exact hS p hp
                          · intro p hp
                            rw [hcj]
                            by_cases e : p = j
                            · subst e
                              rw [wr_ss, if_pos (Nat.lt_succ_self p), hO p hp, if_neg (Nat.lt_irrefl p), e145, ev133]
                              first
                              | (rw [bI_f (by decide), hni]; exact Int32.sub_zero _)
                              | (rw [bI_t (by decide), hbn.1]; exact pk_sub (b := 1) hbn.2)
                            · rw [wr_sn e, hO p hp]
                              by_cases e2 : p < j
                              · rw [if_pos e2, if_pos (by omega)]
                              · rw [if_neg e2, if_neg (by omega)]
          refine g_lv C [0, 2, 1, 3, 4, 5] rfl (L72 (_ + 1) 0 _ _ ?_ ?_ ?_ ?_ ?_ (by first | omega | exact Nat.lt_succ_self _))
          · subst ev70; rfl
          · omega
          · first | (intro i _ _; rfl) | (intro i h1 _; rw [wr_n h1, wr_n h1]) | (intro i h1 _; rw [wr_n h1])
          · exact hG
          · intro p hp; rw [if_neg (Nat.not_lt_zero p)]
            first | exact (hqb.1 p hp).2 | (rw [wr_n (by decide)]; exact (hqb.1 p hp).2) | (rw [wr_n (by decide), wr_n (by decide)]; exact (hqb.1 p hp).2)
        · exact absurd ev15 c56
      · exact absurd ev35 c41
