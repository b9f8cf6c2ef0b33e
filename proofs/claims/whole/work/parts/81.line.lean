/-- which line a name begins, as the reference numbers them *)-/
def lnN (tb : Nat → Nat) (f e : Nat) : Option Nat := if isN tb 0 f e = true then some 0 else if isN tb 3 f e = true then some 1 else if isN tb 4 f e = true then some 2 else if isN tb 1 f e = true then some 3 else if isN tb 2 f e = true then some 4 else none
def lnO (tb : Nat → Nat) (L p : Nat) : Option Nat := if tkK tb L p = 1 then lnN tb (tkF tb L p) (tkE tb L p) else none
def flD (c : Nat) (D : DT) : Bool := if c = 0 then dBd D else if c = 1 then dOd D else if c = 2 then dTn D else false
def stF (c : Nat) (D : DT) : DT := if c = 0 then (dF D, dB D, true, dOd D, dTn D) else if c = 1 then (dF D, dB D, dBd D, true, dTn D) else if c = 2 then (dF D, dB D, dBd D, dOd D, true) else D
def sgn (tb : Nat → Nat) (L : Nat) (r : DT × Nat) : PRs (DT × Nat) := pb (rdSgn tb L r.2) fun e => .inr (r.1, e)
def lnT (tb : Nat → Nat) (L : Nat) (D : DT) (f p : Nat) : Option Nat → PRs (DT × Nat)
  | none => .inl (2, f)
  | some c => if c = 4 ∧ 6 ≤ rN (dF D) then .inl (5, f) else if flD c D = true then .inl (4, f) else pb (lnR tb L c (stF c D) p) (sgn tb L)
theorem isN_f {tb : Nat → Nat} {f e : Nat} : ∀ {i : Nat}, i < 5 → isN tb i f e = true → tb f = [98, 115, 112, 111, 116].getD i 0 := by
  intro i hi h
  unfold isN at h
  rw [Bool.and_eq_true, List.all_eq_true] at h
  have hp : ∀ i, i < 5 → 0 < strN.getD i 0 ∧ (strC.getD i []).getD 0 0 = [98, 115, 112, 111, 116].getD i 0 := by decide +kernel
  have h2 := of_decide_eq_true (h.2 0 (List.mem_range.mpr (hp i hi).1))
  rw [Nat.add_zero] at h2
  rw [h2]; exact (hp i hi).2
theorem isN_x {tb : Nat → Nat} {f e i j : Nat} (hi : i < 5) (hj : j < 5) (hij : i ≠ j) (h : isN tb i f e = true) : ¬ isN tb j f e = true := by
  intro h2
  have a := isN_f hi h
  have b := isN_f hj h2
  rw [a] at b
  have : ∀ i, i < 5 → ∀ j, j < 5 → [98, 115, 112, 111, 116].getD i 0 = [98, 115, 112, 111, 116].getD j 0 → i = j := by decide
  exact hij (this i hi j hj b)
theorem rdPiece_at {tb : Nat → Nat} {L : Nat} {D : DT} {f p : Nat} (h : ¬ 6 ≤ rN (dF D)) : rdPiece tb L D f p = pb (lnP tb L D p) (sgn tb L) := by
  unfold rdPiece lnP kdP kdO
  rw [if_neg h]
  by_cases h0 : tkK tb L p = 0
  · rw [if_pos h0, if_pos h0]; rfl
  · rw [if_neg h0, if_neg h0]
    cases (if tkK tb L p = 1 then kdN tb (tkF tb L p) (tkE tb L p) else none) with
    | none => rfl
    | some kd =>
      show pb (rdNum tb L 0 1 (tkE tb L p)) _ = pb (pb (rdNum tb L 0 1 (tkE tb L p)) _) _
      cases rdNum tb L 0 1 (tkE tb L p) with
      | inl e => rfl
      | inr s =>
        show pb (rdFree tb L D s.2.2) _ = pb (pb (rdFree tb L D s.2.2) _) _
        cases rdFree tb L D s.2.2 with
        | inl e => rfl
        | inr q =>
          show pb (rdNum tb L 0 9 q.2.2) _ = pb (pb (rdNum tb L 0 9 q.2.2) _) _
          cases rdNum tb L 0 9 q.2.2 with
          | inl e => rfl
          | inr o => rfl
theorem rdOds_f {tb : Nat → Nat} {L k j : Nat} {g : Nat → Nat} {f f' p : Nat} : rdOds tb L (k + 1) j g f p = rdOds tb L (k + 1) j g f' p := by rw [rdOds, rdOds]
theorem rdLine_t {tb : Nat → Nat} {L : Nat} {D : DT} {p : Nat} : rdLine tb L D (tkK tb L p) (tkF tb L p) (tkE tb L p) = lnT tb L D (tkF tb L p) (tkE tb L p) (lnO tb L p) := by
  unfold rdLine lnO
  by_cases h1 : tkK tb L p = 1
  · rw [if_pos h1]
    unfold lnN
    by_cases n0 : isN tb 0 (tkF tb L p) (tkE tb L p) = true
    · rw [if_pos ⟨h1, n0⟩, if_pos n0]
      show rdBoard tb L D (tkF tb L p) (tkE tb L p) = if 0 = 4 ∧ 6 ≤ rN (dF D) then .inl (5, tkF tb L p) else if dBd D = true then .inl (4, tkF tb L p) else pb (lnR tb L 0 (stF 0 D) (tkE tb L p)) (sgn tb L)
      rw [if_neg (fun h => by cases h.1)]
      unfold rdBoard
      by_cases hb : dBd D = true
      · rw [if_pos hb, if_pos hb]
      · rw [if_neg hb, if_neg hb]
        show pb (rdNum tb L 2 5 (tkE tb L p)) _ = pb (pb (rdNum tb L 2 5 (tkE tb L p)) _) _
        cases rdNum tb L 2 5 (tkE tb L p) with
        | inl e => rfl
        | inr w =>
          show pb (rdNum tb L 2 5 w.2.2) _ = pb (pb (rdNum tb L 2 5 w.2.2) _) _
          cases rdNum tb L 2 5 w.2.2 with
          | inl e => rfl
          | inr h => rfl
    · rw [if_neg (fun h => n0 h.2), if_neg n0]
      by_cases n1 : isN tb 1 (tkF tb L p) (tkE tb L p) = true
      · rw [if_pos ⟨h1, n1⟩, if_neg (isN_x (by decide) (by decide) (by decide) n1), if_neg (isN_x (by decide) (by decide) (by decide) n1), if_pos n1]
        show rdStp tb L D (tkE tb L p) = if 3 = 4 ∧ 6 ≤ rN (dF D) then .inl (5, tkF tb L p) else if false = true then .inl (4, tkF tb L p) else pb (lnR tb L 3 (stF 3 D) (tkE tb L p)) (sgn tb L)
        rw [if_neg (fun h => by cases h.1), if_neg (fun h => by cases h)]
        show pb (rdFree tb L D (tkE tb L p)) _ = pb (pb (rdFree tb L D (tkE tb L p)) _) _
        cases rdFree tb L D (tkE tb L p) with
        | inl e => rfl
        | inr h => rfl
      · rw [if_neg (fun h => n1 h.2)]
        by_cases n2 : isN tb 2 (tkF tb L p) (tkE tb L p) = true
        · rw [if_pos ⟨h1, n2⟩, if_neg (isN_x (by decide) (by decide) (by decide) n2), if_neg (isN_x (by decide) (by decide) (by decide) n2), if_neg n1, if_pos n2]
          show rdPiece tb L D (tkF tb L p) (tkE tb L p) = if 4 = 4 ∧ 6 ≤ rN (dF D) then .inl (5, tkF tb L p) else if false = true then .inl (4, tkF tb L p) else pb (lnR tb L 4 (stF 4 D) (tkE tb L p)) (sgn tb L)
          by_cases h6 : 6 ≤ rN (dF D)
          · rw [if_pos ⟨rfl, h6⟩]; unfold rdPiece; rw [if_pos h6]
          · rw [if_neg (fun h => h6 h.2), if_neg (fun h => by cases h)]; exact rdPiece_at h6
        · rw [if_neg (fun h => n2 h.2)]
          by_cases n3 : isN tb 3 (tkF tb L p) (tkE tb L p) = true
          · rw [if_pos ⟨h1, n3⟩, if_pos n3]
            show rdOdds tb L D (tkF tb L p) (tkE tb L p) = if 1 = 4 ∧ 6 ≤ rN (dF D) then .inl (5, tkF tb L p) else if dOd D = true then .inl (4, tkF tb L p) else pb (lnR tb L 1 (stF 1 D) (tkE tb L p)) (sgn tb L)
            rw [if_neg (fun h => by cases h.1)]
            unfold rdOdds
            by_cases hb : dOd D = true
            · rw [if_pos hb, if_pos hb]
            · rw [if_neg hb, if_neg hb, rdOds_f (f' := 0)]
              show pb (rdOds tb L 5 0 (rOd (dF D)) 0 (tkE tb L p)) _ = pb (pb (pb (rdOds tb L 5 0 (rOd (dF D)) 0 (tkE tb L p)) _) _) _
              cases rdOds tb L 5 0 (rOd (dF D)) 0 (tkE tb L p) with
              | inl e => rfl
              | inr q =>
                show (if 0 < smP q.1 5 then _ else _) = pb (pb (if 0 < smP q.1 5 then (.inr q : PRs ODT) else .inl (3, q.2.1)) _) _
                by_cases hs : 0 < smP q.1 5
                · rw [if_pos hs, if_pos hs]; rfl
                · rw [if_neg hs, if_neg hs]; rfl
          · rw [if_neg (fun h => n3 h.2), if_neg n3]
            by_cases n4 : isN tb 4 (tkF tb L p) (tkE tb L p) = true
            · rw [if_pos ⟨h1, n4⟩, if_pos n4]
              show rdTurn tb L D (tkF tb L p) (tkE tb L p) = if 2 = 4 ∧ 6 ≤ rN (dF D) then .inl (5, tkF tb L p) else if dTn D = true then .inl (4, tkF tb L p) else pb (lnR tb L 2 (stF 2 D) (tkE tb L p)) (sgn tb L)
              rw [if_neg (fun h => by cases h.1)]
              unfold rdTurn
              by_cases hb : dTn D = true
              · rw [if_pos hb, if_pos hb]
              · rw [if_neg hb, if_neg hb]
                show pb (rdNum tb L 0 1 (tkE tb L p)) _ = pb (pb (rdNum tb L 0 1 (tkE tb L p)) _) _
                cases rdNum tb L 0 1 (tkE tb L p) with
                | inl e => rfl
                | inr h => rfl
            · rw [if_neg (fun h => n4 h.2), if_neg n4, if_neg n1, if_neg n2]; rfl
  · rw [if_neg h1, if_neg (fun h => h1 h.1), if_neg (fun h => h1 h.1), if_neg (fun h => h1 h.1), if_neg (fun h => h1 h.1), if_neg (fun h => h1 h.1)]; rfl
theorem ln_v {tb : Nat → Nat} {f e : Nat} : (if isN tb 0 f e = true then (0 : Int32) else if isN tb 3 f e = true then 1 else if isN tb 4 f e = true then 2 else if isN tb 1 f e = true then 3 else if isN tb 2 f e = true then 4 else -4) = oI (lnN tb f e) := by
  unfold lnN
  split
  · rfl
  · split
    · rfl
    · split
      · rfl
      · split
        · rfl
        · split <;> rfl
theorem lnO_lt {tb : Nat → Nat} {L p c : Nat} (h : lnO tb L p = some c) : c < 5 := by
  unfold lnO lnN at h
  split at h
  · split at h
    · cases h; decide
    · split at h
      · cases h; decide
      · split at h
        · cases h; decide
        · split at h
          · cases h; decide
          · split at h
            · cases h; decide
            · cases h
  · cases h
/-- behind the parts of a line its sign, as the reference looks for it *)-/
theorem sx_f {I : Mem} {tb : Nat → Nat} {L : Nat} {X : PRs (DT × Nat)} (h : Sx I tb L (pb X lr)) (hf : ¬ I 97 21 = 0) : ∃ e, pb X (sgn tb L) = .inl e ∧ FT I e := by
  cases X with
  | inl e => exact ⟨e, rfl, h⟩
  | inr r =>
    obtain ⟨h1, h2⟩ := h
    rcases h2 with ⟨h0, h3⟩ | ⟨h0, h3⟩
    · refine ⟨(1, tkF tb L r.2), ?_, h3⟩
      show pb (rdSgn tb L r.2) _ = _
      unfold rdSgn; rw [if_pos h0]; rfl
    · exact absurd h3.1 hf
theorem tl_set {x : Int32} {c : Nat} {D : DT} (h : TlD x D) (hc : c < 3) : TlD (x ||| (1 <<< (nI c &&& 31))) (stF c D) := by
  have hb : ∀ c, c < 3 → ∀ i, i < 3 → bt (1 <<< (nI c &&& 31)) i = decide (c = i) := by decide +kernel
  obtain ⟨h0, h1, h2⟩ := h
  unfold TlD
  rw [b_or, b_or, b_or, hb c hc 0 (by decide), hb c hc 1 (by decide), hb c hc 2 (by decide), h0, h1, h2]
  rcases (show c = 0 ∨ c = 1 ∨ c = 2 by omega) with e | e | e <;> subst e
  · exact ⟨Bool.or_true _, Bool.or_false _, Bool.or_false _⟩
  · exact ⟨Bool.or_false _, Bool.or_true _, Bool.or_false _⟩
  · exact ⟨Bool.or_false _, Bool.or_false _, Bool.or_true _⟩
theorem tl_at {x : Int32} {c : Nat} {D : DT} (h : TlD x D) (hc : c < 3) : bt x c = flD c D := by
  obtain ⟨h0, h1, h2⟩ := h
  rcases (show c = 0 ∨ c = 1 ∨ c = 2 by omega) with e | e | e <;> subst e
  · exact h0
  · exact h1
  · exact h2
theorem stF_d {c : Nat} {D : DT} : dF (stF c D) = dF D ∧ dB (stF c D) = dB D := by
  unfold stF
  split
  · exact ⟨rfl, rfl⟩
  · split
    · exact ⟨rfl, rfl⟩
    · split
      · exact ⟨rfl, rfl⟩
      · exact ⟨rfl, rfl⟩
theorem lnR_0 {tb : Nat → Nat} {L c p : Nat} {D : DT} (hc : c < 5) (h : tkK tb L p = 0) : lnR tb L c D p = .inl (1, tkF tb L p) := by
  have hn : ∀ lo hi, rdNum tb L lo hi p = .inl (1, tkF tb L p) := fun lo hi => by unfold rdNum; rw [if_pos h]
  rcases (show c = 0 ∨ c = 1 ∨ c = 2 ∨ c = 3 ∨ c = 4 by omega) with e | e | e | e | e <;> subst e
  · show pb (rdNum tb L 2 5 p) _ = _
    rw [hn]; rfl
  · show pb (pb (rdOds tb L 5 0 (rOd (dF D)) 0 p) _) _ = _
    rw [rdOds_l (hn 0 9)]; rfl
  · show pb (rdNum tb L 0 1 p) _ = _
    rw [hn]; rfl
  · show pb (pb (rdNum tb L 0 24 p) _) _ = _
    rw [hn]; rfl
  · show pb (kdP tb L p) _ = _
    unfold kdP; rw [if_pos h]; rfl
set_option maxHeartbeats 3200000 in
theorem c_X12_readLine (n : Nat) (ρ : Rho) (I : Mem) (L : Nat) (tb : Nat → Nat) (p : Nat) (D : DT) (hn9 : n ≤ 999) (hms : MS n ρ) (htb : TbM I L tb) (hpt : PT I tb L p) (hk0 : tkK tb L p ≠ 0) (hp : p ≤ L) (hdr : DrM I D) : MV yX12_readLine cX12_readLine 2 none 5 [.ref 97] n ρ I (fun I1 => LnO tb L (rdLine tb L D (tkK tb L p) (tkF tb L p) (tkE tb L p)) I I1) := by
  refine MG.of (by decide +kernel) (Nat.le_of_ble_eq_true rfl) hn9 ?_
  intro κ C hR
  show G κ n ρ 0 [(0, .ref 97)] [] I
  obtain ⟨mn, ⟨m0, m1, m5, m6, m7, m11, m12, m15⟩, ⟨m23, m24, m26, m27, m28, m30, m31, m32, m33⟩, ⟨m38, m39, m40, m42⟩⟩ := id hms
  have htt : ∀ p, p < L → tb p < 256 := fun p hp => (htb.2.2 p hp).2
  have hL3 := htb.2.1
  obtain ⟨hdn, htl, hhi⟩ := DrM_iff.mp hdr
  obtain ⟨hrw, hbw, ⟨hW8, hH9, hN10⟩, hpc, hst, hod, ht18⟩ := id hdn
  have hn6 : rN (dF D) ≤ 6 := hrw.2.2.2.2.1
  obtain ⟨a21, a18, a17, a19, a20⟩ := id hpt
  have hEL := tkE_le (tb := tb) hp
  have hFL := tkF_le (tb := tb) hp
  refine g_aload_n C (pc := 0) dX12_readLine_0 0 rfl ?_
  refine g_getI C (pc := 1) fl_RX12_141 (by decide) (by first | assumption | rfl | omega) (by first | assumption | rfl | omega) dX12_readLine_1 ?_
  refine g_iconst C (pc := 4) 1 dX12_readLine_4 (by decide) ?_
  refine g_icmp_ne C (pc := 5) 15 dX12_readLine_5 (by decide) (fun c5 => ?_) (fun c5 => ?_)
  · have hlo : lnO tb L p = none := by
      unfold lnO; rw [if_neg (fun h => c5 ((hpt.sort 1 (by decide) (by decide)).mpr h))]
    have h17a : (-4 : Int32) = oI (lnO tb L p) := by rw [hlo]; rfl
    refine g_bipush C (pc := 15) (-4) dX12_readLine_15 (by decide) ?_
    refine g_istore_n C (pc := 17) dX12_readLine_17 (by decide) (fun v17 => [(1, .int v17), (0, .ref 97)]) (fun _ => rfl) (fun v17 ev17 => ?_)
    have h17 : v17 = oI (lnO tb L p) := ev17.trans h17a
    refine g_aload_n C (pc := 18) dX12_readLine_18 1 rfl ?_
    refine g_iload_n C (pc := 19) dX12_readLine_19 0 rfl ?_
    refine g_bipush C (pc := 20) (-4) dX12_readLine_20 (by decide) ?_
    refine g_icmp_eq C (pc := 22) 29 dX12_readLine_22 (by decide) (fun c22 => ?_) (fun c22 => ?_)
    · have hln : lnO tb L p = none := (oI_none (fun q hq => by have := lnO_lt hq; omega)).mp (h17.symm.trans c22)
      obtain ⟨s9, hs9⟩ : ∃ s9 : PRs Nat, s9 = .inl (2, tkF tb L p) := ⟨_, rfl⟩
      have hR0 : (rdLine tb L D (tkK tb L p) (tkF tb L p) (tkE tb L p)) = .inl (2, tkF tb L p) := by rw [rdLine_t, hln]; rfl
      have hflt : 1 ≤ 2 ∧ 2 ≤ 8 := by decide
      refine g_iconst C (pc := 29) 0 dX12_readLine_29 (by decide) ?_
      refine g_iconst C (pc := 30) 2 dX12_readLine_30 (by decide) ?_
      refine g_callVV C (pc := 31) mf_X12_needs lk_RX12_155 (c_X12_needs n ρ I _ 2 hn9 hms) (by decide) (Nat.le_refl _) rfl (by first | assumption | rfl | omega) rfl (by first | assumption | rfl | omega) (Nat.le_of_ble_eq_true rfl) dX12_readLine_31 (fun I31 h31 => ?_)
      obtain h31 := h31
      first
      | (rw [if_neg (fun h => absurd h.1 (by decide))] at h31
         subst h31
         have g21 : I 97 21 = 0 := a21)
      | (rw [if_pos ⟨rfl, a21⟩] at h31
         have g21 : I31 97 21 = nI 2 := by rw [← h31, wr_sn (by decide), wr_ss]; rfl
         have g22 : I31 97 22 = nI (tkF tb L p) := by rw [← h31, wr_ss]; exact a18
         have gx : Lx I I31 := by rw [← h31]; exact (Lx.w (by decide) (by decide)).trans (Lx.w (by decide) (by decide)))
      refine g_aload_n C (pc := 34) dX12_readLine_34 1 rfl ?_
      refine g_iload_n C (pc := 35) dX12_readLine_35 0 rfl ?_
      refine g_iconst C (pc := 36) 4 dX12_readLine_36 (by decide) ?_
      refine g_icmp_ne C (pc := 37) 49 dX12_readLine_37 (by decide) (fun c37 => ?_) (fun c37 => ?_)
      · refine g_iconst C (pc := 49) 1 dX12_readLine_49 (by decide) ?_
        refine g_goto C (pc := 50) 54 dX12_readLine_50 (by decide) ?_
        refine g_iconst C (pc := 54) 5 dX12_readLine_54 (by decide) ?_
        refine g_callVV C (pc := 55) mf_X12_needs lk_RX12_155 (c_X12_needs n ρ _ _ 5 hn9 hms) (by decide) (Nat.le_refl _) rfl (by first | assumption | rfl | omega) rfl (by first | assumption | rfl | omega) (Nat.le_of_ble_eq_true rfl) dX12_readLine_55 (fun I55 h55 => ?_)
        obtain h55 := h55
        first
        | (rw [if_neg (fun h => absurd h.1 (by decide))] at h55
           subst h55)
        | (rw [if_pos ⟨rfl, a21⟩] at h55
           have g21 : I55 97 21 = nI 5 := by rw [← h55, wr_sn (by decide), wr_ss]; rfl
           have g22 : I55 97 22 = nI (tkF tb L p) := by rw [← h55, wr_ss]; exact a18
           have gx : Lx I I55 := by rw [← h55]; exact (Lx.w (by decide) (by decide)).trans (Lx.w (by decide) (by decide)))
        refine g_aload_n C (pc := 58) dX12_readLine_58 1 rfl ?_
        refine g_getI C (pc := 59) fl_RX12_117 (by decide) (by first | assumption | rfl | omega) (by first | assumption | rfl | omega) dX12_readLine_59 ?_
        refine g_if_ne C (pc := 62) 103 dX12_readLine_62 (by decide) (fun c62 => ?_) (fun c62 => ?_)
        · first
          | (have hCn : Cn I31 L s9 := by rw [hs9]; exact ⟨g21, g22, hflt.1, hflt.2⟩
             have hTB : TbM I31 L tb := htb.lx gx
             have gl : FrL I I31 := gx.l)
          | (have hCn : Cn I55 L s9 := by rw [hs9]; exact ⟨g21, g22, hflt.1, hflt.2⟩
             have hTB : TbM I55 L tb := htb.lx gx
             have gl : FrL I I55 := gx.l)
          | (obtain ⟨K, hK⟩ : ∃ K, K = wr I 97 13 (I 97 13 ||| (1 <<< (v17 &&& 31))) := ⟨_, rfl⟩
             rw [← hK]
             have hCn : Cn K L s9 := by rw [hs9, hK]; exact ⟨by rw [wr_sn (by decide)]; exact a21, by rw [wr_sn (by decide)]; exact a17, hEL.2⟩
             have gl : FrL I K := by rw [hK]; exact ⟨fun z _ _ _ h4 _ _ => wr_sn h4, fun i h1 _ _ _ => wr_n h1⟩
             have hTB : TbM K L tb := htb.fl gl
             have hdK : DrM K (stF c D) := by
               refine DrM_iff.mpr ⟨?_, ?_, ?_⟩
               · rw [stF_d.1, stF_d.2, hK]
                 exact hdn.cg (wr_sn (by decide)) (wr_sn (by decide)) (wr_sn (by decide)) (wr_n (by decide)) (wr_n (by decide)) (wr_n (by decide))
               · rw [hK, wr_ss, hv17]; exact tl_set htl hc3
               · rw [stF_d.1, stF_d.2, hK, wr_sn (by decide)]; exact hhi
             have hRf : (rdLine tb L D (tkK tb L p) (tkF tb L p) (tkE tb L p)) = pb (lnR tb L c (stF c D) (tkE tb L p)) (sgn tb L) := by rw [rdLine_t, hln]; show (if c = 4 ∧ 6 ≤ rN (dF D) then _ else if flD c D = true then _ else _) = _; rw [if_neg (fun h => by have := h6 h.1; omega), if_neg (by rw [hfl0]; decide)])
          | (obtain ⟨K, hK⟩ : ∃ K, K = wr I88 97 13 (I88 97 13 ||| (1 <<< (v17 &&& 31))) := ⟨_, rfl⟩
             rw [← hK]
             have hCn : Cn K L s9 := by
               rw [hs9, hK, ← h88]
               exact ⟨by rw [wr_sn (by decide), wr_sn (by decide), wr_ss]; rfl, by rw [wr_sn (by decide), wr_ss]; exact a18, (show 1 ≤ 4 by decide), (show 4 ≤ 8 by decide)⟩
             have gl : FrL I K := by
               rw [hK, ← h88]
               exact ⟨fun z _ _ _ h4 _ h6 => by rw [wr_sn h4, wr_sn (by omega), wr_sn (by omega)], fun i h1 _ _ _ => by rw [wr_n h1, wr_n h1, wr_n h1]⟩
             have hTB : TbM K L tb := htb.fl gl)
          | (have hCn : Cn I L s9 := by rw [hs9]; exact ⟨a21, a17, hEL.2⟩
             have hTB : TbM I L tb := htb
             have gl : FrL I I := ⟨fun _ _ _ _ _ _ _ => rfl, fun _ _ _ _ _ => rfl⟩
             have hdK : DrM I (stF c D) := by rw [hsf]; exact hdr
             have hRf : (rdLine tb L D (tkK tb L p) (tkF tb L p) (tkE tb L p)) = pb (lnR tb L c (stF c D) (tkE tb L p)) (sgn tb L) := by rw [rdLine_t, hln]; show (if c = 4 ∧ 6 ≤ rN (dF D) then _ else if flD c D = true then _ else _) = _; rw [if_neg (fun h => by have := h6 h.1; omega), if_neg (by rw [hfl0]; decide)])
          refine g_aload_n C (pc := 103) dX12_readLine_103 1 rfl ?_
          refine g_callVV C (pc := 104) mf_X12_next lk_RX12_163 (nxt_any (s := s9) hn9 hms hTB hCn) (by decide) (Nat.le_refl _) rfl (by first | assumption | rfl | omega) rfl (by first | assumption | rfl | omega) (Nat.le_of_ble_eq_true rfl) dX12_readLine_104 (fun I104 h104 => ?_)
          obtain ⟨s104, l104⟩ := h104
          refine g_aload_n C (pc := 107) dX12_readLine_107 1 rfl ?_
          refine g_getI C (pc := 108) fl_RX12_117 (by decide) (by first | assumption | rfl | omega) (by first | assumption | rfl | omega) dX12_readLine_108 ?_
          refine g_if_le C (pc := 111) 115 dX12_readLine_111 (by decide) (fun c111 => ?_) (fun c111 => ?_)
          · rw [hs9] at s104; exact absurd (FT.gt s104) (Int32.not_lt.mpr c111)
          · skip
            refine g_vret C hR (pc := 114) rfl dX12_readLine_114 ?_
            refine ⟨rfl, rfl, ?_⟩
            first
            | (rw [hs9] at s104
               exact ⟨by rw [hR0]; exact s104, fun _ r hr => by (rw [hR0] at hr; cases hr), gl.trans l104.l⟩)
            | (have hp1 := s104
               rw [hs9] at hp1
               have hF0 : tkK tb L (tkE tb L p) = 0 ∧ FT I104 (1, tkF tb L (tkE tb L p)) := by
                 rcases hp1.2 with h9 | ⟨-, h9⟩
                 · exact h9
                 · exfalso; rw [h9.1] at c111; exact absurd c111 (by decide)
               have hRe : (rdLine tb L D (tkK tb L p) (tkF tb L p) (tkE tb L p)) = .inl (1, tkF tb L (tkE tb L p)) := by rw [hRf, lnR_0 hc5 hF0.1]; rfl
               exact ⟨by rw [hRe]; exact hF0.2, fun h9 => absurd h9 (FT.pos hF0.2), gl.trans l104.l⟩)
        · rw [g21] at c62; exact absurd c62 (by decide)
      · rw [c22] at c37; exact absurd c37 (by decide)
    · rw [hlo] at h17; exact absurd h17 c22
  · have hk1 : tkK tb L p = 1 := (hpt.sort 1 (by decide) (by decide)).mp c5
    refine g_aload_n C (pc := 8) dX12_readLine_8 0 rfl ?_
    refine g_callVI C (pc := 9) mf_X12_lineNow lk_RX12_182 (c_X12_lineNow n ρ I L tb (tkE tb L p) (tkF tb L p) hn9 hms htb a17 a18 hEL.1 hEL.2) (by decide) (Nat.le_refl _) rfl (by first | assumption | rfl | omega) rfl (by first | assumption | rfl | omega) (Nat.le_of_ble_eq_true rfl) dX12_readLine_9 (fun v9 I9 h9 => ?_)
    obtain ⟨e9, rfl⟩ := h9
    have h17a : v9 = oI (lnO tb L p) := by rw [e9, ln_v]; unfold lnO; rw [if_pos hk1]
    refine g_goto C (pc := 12) 17 dX12_readLine_12 (by decide) ?_
    refine g_istore_n C (pc := 17) dX12_readLine_17 (by decide) (fun v17 => [(1, .int v17), (0, .ref 97)]) (fun _ => rfl) (fun v17 ev17 => ?_)
    have h17 : v17 = oI (lnO tb L p) := ev17.trans h17a
    refine g_aload_n C (pc := 18) dX12_readLine_18 1 rfl ?_
    refine g_iload_n C (pc := 19) dX12_readLine_19 0 rfl ?_
    refine g_bipush C (pc := 20) (-4) dX12_readLine_20 (by decide) ?_
    refine g_icmp_eq C (pc := 22) 29 dX12_readLine_22 (by decide) (fun c22 => ?_) (fun c22 => ?_)
    · have hln : lnO tb L p = none := (oI_none (fun q hq => by have := lnO_lt hq; omega)).mp (h17.symm.trans c22)
      obtain ⟨s9, hs9⟩ : ∃ s9 : PRs Nat, s9 = .inl (2, tkF tb L p) := ⟨_, rfl⟩
      have hR0 : (rdLine tb L D (tkK tb L p) (tkF tb L p) (tkE tb L p)) = .inl (2, tkF tb L p) := by rw [rdLine_t, hln]; rfl
      have hflt : 1 ≤ 2 ∧ 2 ≤ 8 := by decide
      refine g_iconst C (pc := 29) 0 dX12_readLine_29 (by decide) ?_
      refine g_iconst C (pc := 30) 2 dX12_readLine_30 (by decide) ?_
      refine g_callVV C (pc := 31) mf_X12_needs lk_RX12_155 (c_X12_needs n ρ I _ 2 hn9 hms) (by decide) (Nat.le_refl _) rfl (by first | assumption | rfl | omega) rfl (by first | assumption | rfl | omega) (Nat.le_of_ble_eq_true rfl) dX12_readLine_31 (fun I31 h31 => ?_)
      obtain h31 := h31
      first
      | (rw [if_neg (fun h => absurd h.1 (by decide))] at h31
         subst h31
         have g21 : I 97 21 = 0 := a21)
      | (rw [if_pos ⟨rfl, a21⟩] at h31
         have g21 : I31 97 21 = nI 2 := by rw [← h31, wr_sn (by decide), wr_ss]; rfl
         have g22 : I31 97 22 = nI (tkF tb L p) := by rw [← h31, wr_ss]; exact a18
         have gx : Lx I I31 := by rw [← h31]; exact (Lx.w (by decide) (by decide)).trans (Lx.w (by decide) (by decide)))
      refine g_aload_n C (pc := 34) dX12_readLine_34 1 rfl ?_
      refine g_iload_n C (pc := 35) dX12_readLine_35 0 rfl ?_
      refine g_iconst C (pc := 36) 4 dX12_readLine_36 (by decide) ?_
      refine g_icmp_ne C (pc := 37) 49 dX12_readLine_37 (by decide) (fun c37 => ?_) (fun c37 => ?_)
      · refine g_iconst C (pc := 49) 1 dX12_readLine_49 (by decide) ?_
        refine g_goto C (pc := 50) 54 dX12_readLine_50 (by decide) ?_
        refine g_iconst C (pc := 54) 5 dX12_readLine_54 (by decide) ?_
        refine g_callVV C (pc := 55) mf_X12_needs lk_RX12_155 (c_X12_needs n ρ _ _ 5 hn9 hms) (by decide) (Nat.le_refl _) rfl (by first | assumption | rfl | omega) rfl (by first | assumption | rfl | omega) (Nat.le_of_ble_eq_true rfl) dX12_readLine_55 (fun I55 h55 => ?_)
        obtain h55 := h55
        first
        | (rw [if_neg (fun h => absurd h.1 (by decide))] at h55
           subst h55)
        | (rw [if_pos ⟨rfl, a21⟩] at h55
           have g21 : I55 97 21 = nI 5 := by rw [← h55, wr_sn (by decide), wr_ss]; rfl
           have g22 : I55 97 22 = nI (tkF tb L p) := by rw [← h55, wr_ss]; exact a18
           have gx : Lx I I55 := by rw [← h55]; exact (Lx.w (by decide) (by decide)).trans (Lx.w (by decide) (by decide)))
        refine g_aload_n C (pc := 58) dX12_readLine_58 1 rfl ?_
        refine g_getI C (pc := 59) fl_RX12_117 (by decide) (by first | assumption | rfl | omega) (by first | assumption | rfl | omega) dX12_readLine_59 ?_
        refine g_if_ne C (pc := 62) 103 dX12_readLine_62 (by decide) (fun c62 => ?_) (fun c62 => ?_)
        · first
          | (have hCn : Cn I31 L s9 := by rw [hs9]; exact ⟨g21, g22, hflt.1, hflt.2⟩
             have hTB : TbM I31 L tb := htb.lx gx
             have gl : FrL I I31 := gx.l)
          | (have hCn : Cn I55 L s9 := by rw [hs9]; exact ⟨g21, g22, hflt.1, hflt.2⟩
             have hTB : TbM I55 L tb := htb.lx gx
             have gl : FrL I I55 := gx.l)
          | (obtain ⟨K, hK⟩ : ∃ K, K = wr I 97 13 (I 97 13 ||| (1 <<< (v17 &&& 31))) := ⟨_, rfl⟩
             rw [← hK]
             have hCn : Cn K L s9 := by rw [hs9, hK]; exact ⟨by rw [wr_sn (by decide)]; exact a21, by rw [wr_sn (by decide)]; exact a17, hEL.2⟩
             have gl : FrL I K := by rw [hK]; exact ⟨fun z _ _ _ h4 _ _ => wr_sn h4, fun i h1 _ _ _ => wr_n h1⟩
             have hTB : TbM K L tb := htb.fl gl
             have hdK : DrM K (stF c D) := by
               refine DrM_iff.mpr ⟨?_, ?_, ?_⟩
               · rw [stF_d.1, stF_d.2, hK]
                 exact hdn.cg (wr_sn (by decide)) (wr_sn (by decide)) (wr_sn (by decide)) (wr_n (by decide)) (wr_n (by decide)) (wr_n (by decide))
               · rw [hK, wr_ss, hv17]; exact tl_set htl hc3
               · rw [stF_d.1, stF_d.2, hK, wr_sn (by decide)]; exact hhi
             have hRf : (rdLine tb L D (tkK tb L p) (tkF tb L p) (tkE tb L p)) = pb (lnR tb L c (stF c D) (tkE tb L p)) (sgn tb L) := by rw [rdLine_t, hln]; show (if c = 4 ∧ 6 ≤ rN (dF D) then _ else if flD c D = true then _ else _) = _; rw [if_neg (fun h => by have := h6 h.1; omega), if_neg (by rw [hfl0]; decide)])
          | (obtain ⟨K, hK⟩ : ∃ K, K = wr I88 97 13 (I88 97 13 ||| (1 <<< (v17 &&& 31))) := ⟨_, rfl⟩
             rw [← hK]
             have hCn : Cn K L s9 := by
               rw [hs9, hK, ← h88]
               exact ⟨by rw [wr_sn (by decide), wr_sn (by decide), wr_ss]; rfl, by rw [wr_sn (by decide), wr_ss]; exact a18, (show 1 ≤ 4 by decide), (show 4 ≤ 8 by decide)⟩
             have gl : FrL I K := by
               rw [hK, ← h88]
               exact ⟨fun z _ _ _ h4 _ h6 => by rw [wr_sn h4, wr_sn (by omega), wr_sn (by omega)], fun i h1 _ _ _ => by rw [wr_n h1, wr_n h1, wr_n h1]⟩
             have hTB : TbM K L tb := htb.fl gl)
          | (have hCn : Cn I L s9 := by rw [hs9]; exact ⟨a21, a17, hEL.2⟩
             have hTB : TbM I L tb := htb
             have gl : FrL I I := ⟨fun _ _ _ _ _ _ _ => rfl, fun _ _ _ _ _ => rfl⟩
             have hdK : DrM I (stF c D) := by rw [hsf]; exact hdr
             have hRf : (rdLine tb L D (tkK tb L p) (tkF tb L p) (tkE tb L p)) = pb (lnR tb L c (stF c D) (tkE tb L p)) (sgn tb L) := by rw [rdLine_t, hln]; show (if c = 4 ∧ 6 ≤ rN (dF D) then _ else if flD c D = true then _ else _) = _; rw [if_neg (fun h => by have := h6 h.1; omega), if_neg (by rw [hfl0]; decide)])
          refine g_aload_n C (pc := 103) dX12_readLine_103 1 rfl ?_
          refine g_callVV C (pc := 104) mf_X12_next lk_RX12_163 (nxt_any (s := s9) hn9 hms hTB hCn) (by decide) (Nat.le_refl _) rfl (by first | assumption | rfl | omega) rfl (by first | assumption | rfl | omega) (Nat.le_of_ble_eq_true rfl) dX12_readLine_104 (fun I104 h104 => ?_)
          obtain ⟨s104, l104⟩ := h104
          refine g_aload_n C (pc := 107) dX12_readLine_107 1 rfl ?_
          refine g_getI C (pc := 108) fl_RX12_117 (by decide) (by first | assumption | rfl | omega) (by first | assumption | rfl | omega) dX12_readLine_108 ?_
          refine g_if_le C (pc := 111) 115 dX12_readLine_111 (by decide) (fun c111 => ?_) (fun c111 => ?_)
          · rw [hs9] at s104; exact absurd (FT.gt s104) (Int32.not_lt.mpr c111)
          · skip
            refine g_vret C hR (pc := 114) rfl dX12_readLine_114 ?_
            refine ⟨rfl, rfl, ?_⟩
            first
            | (rw [hs9] at s104
               exact ⟨by rw [hR0]; exact s104, fun _ r hr => by (rw [hR0] at hr; cases hr), gl.trans l104.l⟩)
            | (have hp1 := s104
               rw [hs9] at hp1
               have hF0 : tkK tb L (tkE tb L p) = 0 ∧ FT I104 (1, tkF tb L (tkE tb L p)) := by
                 rcases hp1.2 with h9 | ⟨-, h9⟩
                 · exact h9
                 · exfalso; rw [h9.1] at c111; exact absurd c111 (by decide)
               have hRe : (rdLine tb L D (tkK tb L p) (tkF tb L p) (tkE tb L p)) = .inl (1, tkF tb L (tkE tb L p)) := by rw [hRf, lnR_0 hc5 hF0.1]; rfl
               exact ⟨by rw [hRe]; exact hF0.2, fun h9 => absurd h9 (FT.pos hF0.2), gl.trans l104.l⟩)
        · rw [g21] at c62; exact absurd c62 (by decide)
      · rw [c22] at c37; exact absurd c37 (by decide)
    · obtain ⟨c, hln⟩ : ∃ c, lnO tb L p = some c := by
        cases h9 : lnO tb L p with
        | none => exact absurd (h17.trans (by rw [h9]; rfl)) c22
        | some c => exact ⟨c, rfl⟩
      have hc5 := lnO_lt hln
      have hv17 : v17 = nI c := h17.trans (by rw [hln]; rfl)
      refine g_iconst C (pc := 25) 1 dX12_readLine_25 (by decide) ?_
      refine g_goto C (pc := 26) 30 dX12_readLine_26 (by decide) ?_
      refine g_iconst C (pc := 30) 2 dX12_readLine_30 (by decide) ?_
      refine g_callVV C (pc := 31) mf_X12_needs lk_RX12_155 (c_X12_needs n ρ I _ 2 hn9 hms) (by decide) (Nat.le_refl _) rfl (by first | assumption | rfl | omega) rfl (by first | assumption | rfl | omega) (Nat.le_of_ble_eq_true rfl) dX12_readLine_31 (fun I31 h31 => ?_)
      obtain h31 := h31
      first
      | (rw [if_neg (fun h => absurd h.1 (by decide))] at h31
         subst h31
         have g21 : I 97 21 = 0 := a21)
      | (rw [if_pos ⟨rfl, a21⟩] at h31
         have g21 : I31 97 21 = nI 2 := by rw [← h31, wr_sn (by decide), wr_ss]; rfl
         have g22 : I31 97 22 = nI (tkF tb L p) := by rw [← h31, wr_ss]; exact a18
         have gx : Lx I I31 := by rw [← h31]; exact (Lx.w (by decide) (by decide)).trans (Lx.w (by decide) (by decide)))
      refine g_aload_n C (pc := 34) dX12_readLine_34 1 rfl ?_
      refine g_iload_n C (pc := 35) dX12_readLine_35 0 rfl ?_
      refine g_iconst C (pc := 36) 4 dX12_readLine_36 (by decide) ?_
      refine g_icmp_ne C (pc := 37) 49 dX12_readLine_37 (by decide) (fun c37 => ?_) (fun c37 => ?_)
      · have hc4 : c ≠ 4 := fun h9 => c37 (by rw [hv17, h9]; rfl)
        have h6 : c = 4 → rN (dF D) < 6 := fun h9 => absurd h9 hc4
        refine g_iconst C (pc := 49) 1 dX12_readLine_49 (by decide) ?_
        refine g_goto C (pc := 50) 54 dX12_readLine_50 (by decide) ?_
        refine g_iconst C (pc := 54) 5 dX12_readLine_54 (by decide) ?_
        refine g_callVV C (pc := 55) mf_X12_needs lk_RX12_155 (c_X12_needs n ρ _ _ 5 hn9 hms) (by decide) (Nat.le_refl _) rfl (by first | assumption | rfl | omega) rfl (by first | assumption | rfl | omega) (Nat.le_of_ble_eq_true rfl) dX12_readLine_55 (fun I55 h55 => ?_)
        obtain h55 := h55
        first
        | (rw [if_neg (fun h => absurd h.1 (by decide))] at h55
           subst h55)
        | (rw [if_pos ⟨rfl, a21⟩] at h55
           have g21 : I55 97 21 = nI 5 := by rw [← h55, wr_sn (by decide), wr_ss]; rfl
           have g22 : I55 97 22 = nI (tkF tb L p) := by rw [← h55, wr_ss]; exact a18
           have gx : Lx I I55 := by rw [← h55]; exact (Lx.w (by decide) (by decide)).trans (Lx.w (by decide) (by decide)))
        refine g_aload_n C (pc := 58) dX12_readLine_58 1 rfl ?_
        refine g_getI C (pc := 59) fl_RX12_117 (by decide) (by first | assumption | rfl | omega) (by first | assumption | rfl | omega) dX12_readLine_59 ?_
        refine g_if_ne C (pc := 62) 103 dX12_readLine_62 (by decide) (fun c62 => ?_) (fun c62 => ?_)
        · exact absurd g21 c62
        · refine g_iload_n C (pc := 65) dX12_readLine_65 0 rfl ?_
          refine g_iconst C (pc := 66) 2 dX12_readLine_66 (by decide) ?_
          refine g_icmp_gt C (pc := 67) 103 dX12_readLine_67 (by decide) (fun c67 => ?_) (fun c67 => ?_)
          · have hc3 : 3 ≤ c := by
              rw [hv17] at c67
              have := (nI_ltI (a := 2) (by decide) (by omega)).mp c67
              omega
            obtain ⟨s9, hs9⟩ : ∃ s9 : PRs Nat, s9 = .inr (tkE tb L p) := ⟨_, rfl⟩
            have hfl0 : flD c D = false := by unfold flD; rw [if_neg (by omega), if_neg (by omega), if_neg (by omega)]
            have hsf : stF c D = D := by unfold stF; rw [if_neg (by omega), if_neg (by omega), if_neg (by omega)]
            first
            | (have hCn : Cn I31 L s9 := by rw [hs9]; exact ⟨g21, g22, hflt.1, hflt.2⟩
               have hTB : TbM I31 L tb := htb.lx gx
               have gl : FrL I I31 := gx.l)
            | (have hCn : Cn I55 L s9 := by rw [hs9]; exact ⟨g21, g22, hflt.1, hflt.2⟩
               have hTB : TbM I55 L tb := htb.lx gx
               have gl : FrL I I55 := gx.l)
            | (obtain ⟨K, hK⟩ : ∃ K, K = wr I 97 13 (I 97 13 ||| (1 <<< (v17 &&& 31))) := ⟨_, rfl⟩
               rw [← hK]
               have hCn : Cn K L s9 := by rw [hs9, hK]; exact ⟨by rw [wr_sn (by decide)]; exact a21, by rw [wr_sn (by decide)]; exact a17, hEL.2⟩
               have gl : FrL I K := by rw [hK]; exact ⟨fun z _ _ _ h4 _ _ => wr_sn h4, fun i h1 _ _ _ => wr_n h1⟩
               have hTB : TbM K L tb := htb.fl gl
               have hdK : DrM K (stF c D) := by
                 refine DrM_iff.mpr ⟨?_, ?_, ?_⟩
                 · rw [stF_d.1, stF_d.2, hK]
                   exact hdn.cg (wr_sn (by decide)) (wr_sn (by decide)) (wr_sn (by decide)) (wr_n (by decide)) (wr_n (by decide)) (wr_n (by decide))
                 · rw [hK, wr_ss, hv17]; exact tl_set htl hc3
                 · rw [stF_d.1, stF_d.2, hK, wr_sn (by decide)]; exact hhi
               have hRf : (rdLine tb L D (tkK tb L p) (tkF tb L p) (tkE tb L p)) = pb (lnR tb L c (stF c D) (tkE tb L p)) (sgn tb L) := by rw [rdLine_t, hln]; show (if c = 4 ∧ 6 ≤ rN (dF D) then _ else if flD c D = true then _ else _) = _; rw [if_neg (fun h => by have := h6 h.1; omega), if_neg (by rw [hfl0]; decide)])
            | (obtain ⟨K, hK⟩ : ∃ K, K = wr I88 97 13 (I88 97 13 ||| (1 <<< (v17 &&& 31))) := ⟨_, rfl⟩
               rw [← hK]
               have hCn : Cn K L s9 := by
                 rw [hs9, hK, ← h88]
                 exact ⟨by rw [wr_sn (by decide), wr_sn (by decide), wr_ss]; rfl, by rw [wr_sn (by decide), wr_ss]; exact a18, (show 1 ≤ 4 by decide), (show 4 ≤ 8 by decide)⟩
               have gl : FrL I K := by
                 rw [hK, ← h88]
                 exact ⟨fun z _ _ _ h4 _ h6 => by rw [wr_sn h4, wr_sn (by omega), wr_sn (by omega)], fun i h1 _ _ _ => by rw [wr_n h1, wr_n h1, wr_n h1]⟩
               have hTB : TbM K L tb := htb.fl gl)
            | (have hCn : Cn I L s9 := by rw [hs9]; exact ⟨a21, a17, hEL.2⟩
               have hTB : TbM I L tb := htb
               have gl : FrL I I := ⟨fun _ _ _ _ _ _ _ => rfl, fun _ _ _ _ _ => rfl⟩
               have hdK : DrM I (stF c D) := by rw [hsf]; exact hdr
               have hRf : (rdLine tb L D (tkK tb L p) (tkF tb L p) (tkE tb L p)) = pb (lnR tb L c (stF c D) (tkE tb L p)) (sgn tb L) := by rw [rdLine_t, hln]; show (if c = 4 ∧ 6 ≤ rN (dF D) then _ else if flD c D = true then _ else _) = _; rw [if_neg (fun h => by have := h6 h.1; omega), if_neg (by rw [hfl0]; decide)])
            refine g_aload_n C (pc := 103) dX12_readLine_103 1 rfl ?_
            refine g_callVV C (pc := 104) mf_X12_next lk_RX12_163 (nxt_any (s := s9) hn9 hms hTB hCn) (by decide) (Nat.le_refl _) rfl (by first | assumption | rfl | omega) rfl (by first | assumption | rfl | omega) (Nat.le_of_ble_eq_true rfl) dX12_readLine_104 (fun I104 h104 => ?_)
            obtain ⟨s104, l104⟩ := h104
            refine g_aload_n C (pc := 107) dX12_readLine_107 1 rfl ?_
            refine g_getI C (pc := 108) fl_RX12_117 (by decide) (by first | assumption | rfl | omega) (by first | assumption | rfl | omega) dX12_readLine_108 ?_
            refine g_if_le C (pc := 111) 115 dX12_readLine_111 (by decide) (fun c111 => ?_) (fun c111 => ?_)
            · rw [hs9] at s104
              have hf104 : I104 97 21 = 0 := by
                rcases s104.2 with ⟨-, h9⟩ | ⟨-, h9⟩
                · exact absurd (FT.gt h9) (Int32.not_lt.mpr c111)
                · exact h9.1
              obtain ⟨hp104, hk104⟩ : PT I104 tb L (tkE tb L p) ∧ tkK tb L (tkE tb L p) ≠ 0 := by
                rcases s104.2 with ⟨-, h9⟩ | ⟨h8, h9⟩
                · exact absurd hf104 (FT.pos h9)
                · exact ⟨h9, h8⟩
              have htb104 : TbM I104 L tb := hTB.lx l104
              have hd104 : DrM I104 (stF c D) := by
                obtain ⟨q1, q2, q3⟩ := DrM_iff.mp hdK
                exact DrM_iff.mpr ⟨q1.ly l104.y, by rw [l104.1 13 (by decide)]; exact q2, by rw [l104.1 14 (by decide)]; exact q3⟩
              refine g_aload_n C (pc := 115) dX12_readLine_115 1 rfl ?_
              refine g_iload_n C (pc := 116) dX12_readLine_116 0 rfl ?_
              refine g_callVV C (pc := 117) mf_X12_readLineOf lk_RX12_185 (c_X12_readLineOf n ρ I104 L tb (tkE tb L p) c (stF c D) v17 hn9 hms htb104 hp104 hk104 hEL.2 hd104 hc5 hv17 (fun h9 => by rw [stF_d.1]; exact h6 h9)) (by decide) (Nat.le_refl _) rfl (by first | assumption | rfl | omega) rfl (by first | assumption | rfl | omega) (Nat.le_of_ble_eq_true rfl) dX12_readLine_117 (fun I117 h117 => ?_)
              obtain ⟨s117, d117, l117⟩ := h117
              refine g_aload_n C (pc := 120) dX12_readLine_120 1 rfl ?_
              refine g_getI C (pc := 121) fl_RX12_117 (by decide) (by first | assumption | rfl | omega) (by first | assumption | rfl | omega) dX12_readLine_121 ?_
              refine g_if_ne C (pc := 124) 145 dX12_readLine_124 (by decide) (fun c124 => ?_) (fun c124 => ?_)
              · obtain ⟨e9, he9, hft9⟩ := sx_f s117 c124
                have hRe : (rdLine tb L D (tkK tb L p) (tkF tb L p) (tkE tb L p)) = .inl e9 := hRf.trans he9
                have hCn2 : Cn I117 L (pb (rdLine tb L D (tkK tb L p) (tkF tb L p) (tkE tb L p)) lr) := by rw [hRe]; exact hft9
                have hdf : ∀ J : Mem, J 97 21 = 0 → ∀ r, (rdLine tb L D (tkK tb L p) (tkF tb L p) (tkE tb L p)) = .inr r → DrM J r.1 := fun J _ r hr => by (rw [hRe] at hr; cases hr)
                have gl2 : FrL I I117 := (gl.trans l104.l).trans l117
                have hTB2 : TbM I117 L tb := htb.fl gl2
                refine g_aload_n C (pc := 145) dX12_readLine_145 1 rfl ?_
                refine g_callVV C (pc := 146) mf_X12_next lk_RX12_163 (nxt_any (s := pb (rdLine tb L D (tkK tb L p) (tkF tb L p) (tkE tb L p)) lr) hn9 hms hTB2 hCn2) (by decide) (Nat.le_refl _) rfl (by first | assumption | rfl | omega) rfl (by first | assumption | rfl | omega) (Nat.le_of_ble_eq_true rfl) dX12_readLine_146 (fun I146 h146 => ?_)
                obtain ⟨s146, l146⟩ := h146
                refine g_vret C hR (pc := 149) rfl dX12_readLine_149 ?_
                refine ⟨rfl, rfl, ?_⟩
                first
                | exact ⟨s146, hdf _, gl2.trans l146.l⟩
                | exact ⟨s146, hdf _ l146, gl2.trans l146.l⟩
              · obtain ⟨r9, hX9, hrL, hpt9, hk9⟩ := sx_r (R := lnR tb L c (stF c D) (tkE tb L p)) (k := fun r => r.2) s117 c124
                have hRr : (rdLine tb L D (tkK tb L p) (tkF tb L p) (tkE tb L p)) = pb (rdSgn tb L r9.2) fun e => .inr (r9.1, e) := by rw [hRf, hX9]; rfl
                have gl1 : FrL I I117 := (gl.trans l104.l).trans l117
                refine g_aload_n C (pc := 127) dX12_readLine_127 1 rfl ?_
                refine g_aload_n C (pc := 128) dX12_readLine_128 1 rfl ?_
                refine g_getI C (pc := 129) fl_RX12_141 (by decide) (by first | assumption | rfl | omega) (by first | assumption | rfl | omega) dX12_readLine_129 ?_
                refine g_iconst C (pc := 132) 3 dX12_readLine_132 (by decide) ?_
                refine g_icmp_ne C (pc := 133) 140 dX12_readLine_133 (by decide) (fun c133 => ?_) (fun c133 => ?_)
                · have hk3 : tkK tb L r9.2 ≠ 3 := fun h9 => c133 ((hpt9.sort 3 (by decide) (by decide)).mpr h9)
                  have hRe : (rdLine tb L D (tkK tb L p) (tkF tb L p) (tkE tb L p)) = .inl (2, tkF tb L r9.2) := by rw [hRr]; unfold rdSgn; rw [if_neg hk9, if_neg hk3]; rfl
                  refine g_iconst C (pc := 140) 0 dX12_readLine_140 (by decide) ?_
                  refine g_iconst C (pc := 141) 2 dX12_readLine_141 (by decide) ?_
                  refine g_callVV C (pc := 142) mf_X12_needs lk_RX12_155 (c_X12_needs n ρ I117 _ 2 hn9 hms) (by decide) (Nat.le_refl _) rfl (by first | assumption | rfl | omega) rfl (by first | assumption | rfl | omega) (Nat.le_of_ble_eq_true rfl) dX12_readLine_142 (fun I142 h142 => ?_)
                  obtain h142 := h142
                  first
                  | (rw [if_neg (fun h => absurd h.1 (by decide))] at h142
                     subst h142
                     have hCn2 : Cn I117 L (pb (rdLine tb L D (tkK tb L p) (tkF tb L p) (tkE tb L p)) lr) := by rw [hRe]; exact ⟨c124, hpt9.2.2.1, (tkE_le (tb := tb) hrL).2⟩
                     have hdf : ∀ J : Mem, Lx I117 J → J 97 21 = 0 → ∀ r, (rdLine tb L D (tkK tb L p) (tkF tb L p) (tkE tb L p)) = .inr r → DrM J r.1 := fun J hJ _ r hr => by
                       rw [hRe] at hr
                       cases hr
                       obtain ⟨q1, q2, q3⟩ := DrM_iff.mp (d117 c124 r9 hX9)
                       exact DrM_iff.mpr ⟨q1.ly hJ.y, by rw [hJ.1 13 (by decide)]; exact q2, by rw [hJ.1 14 (by decide)]; exact q3⟩
                     have gl2 : FrL I I117 := gl1
                     have hTB2 : TbM I117 L tb := htb.fl gl2)
                  | (rw [if_pos ⟨rfl, c124⟩] at h142
                     have hCn2 : Cn I142 L (pb (rdLine tb L D (tkK tb L p) (tkF tb L p) (tkE tb L p)) lr) := by
                       rw [hRe, ← h142]
                       exact ⟨by rw [wr_sn (by decide), wr_ss]; rfl, by rw [wr_ss]; exact hpt9.2.1, (show 1 ≤ 2 by decide), (show 2 ≤ 8 by decide)⟩
                     have hdf : ∀ J : Mem, J 97 21 = 0 → ∀ r, (rdLine tb L D (tkK tb L p) (tkF tb L p) (tkE tb L p)) = .inr r → DrM J r.1 := fun J _ r hr => by (rw [hRe] at hr; cases hr)
                     have gl2 : FrL I I142 := gl1.trans (by rw [← h142]; exact ((Lx.w (by decide) (by decide)).trans (Lx.w (by decide) (by decide))).l)
                     have hTB2 : TbM I142 L tb := htb.fl gl2)
                  refine g_aload_n C (pc := 145) dX12_readLine_145 1 rfl ?_
                  refine g_callVV C (pc := 146) mf_X12_next lk_RX12_163 (nxt_any (s := pb (rdLine tb L D (tkK tb L p) (tkF tb L p) (tkE tb L p)) lr) hn9 hms hTB2 hCn2) (by decide) (Nat.le_refl _) rfl (by first | assumption | rfl | omega) rfl (by first | assumption | rfl | omega) (Nat.le_of_ble_eq_true rfl) dX12_readLine_146 (fun I146 h146 => ?_)
                  obtain ⟨s146, l146⟩ := h146
                  refine g_vret C hR (pc := 149) rfl dX12_readLine_149 ?_
                  refine ⟨rfl, rfl, ?_⟩
                  first
                  | exact ⟨s146, hdf _, gl2.trans l146.l⟩
                  | exact ⟨s146, hdf _ l146, gl2.trans l146.l⟩
                · have hk3 : tkK tb L r9.2 = 3 := (hpt9.sort 3 (by decide) (by decide)).mp c133
                  have hRe : (rdLine tb L D (tkK tb L p) (tkF tb L p) (tkE tb L p)) = .inr (r9.1, tkE tb L r9.2) := by rw [hRr]; unfold rdSgn; rw [if_neg hk9, if_pos hk3]; rfl
                  refine g_iconst C (pc := 136) 1 dX12_readLine_136 (by decide) ?_
                  refine g_goto C (pc := 137) 141 dX12_readLine_137 (by decide) ?_
                  refine g_iconst C (pc := 141) 2 dX12_readLine_141 (by decide) ?_
                  refine g_callVV C (pc := 142) mf_X12_needs lk_RX12_155 (c_X12_needs n ρ I117 _ 2 hn9 hms) (by decide) (Nat.le_refl _) rfl (by first | assumption | rfl | omega) rfl (by first | assumption | rfl | omega) (Nat.le_of_ble_eq_true rfl) dX12_readLine_142 (fun I142 h142 => ?_)
                  obtain h142 := h142
                  first
                  | (rw [if_neg (fun h => absurd h.1 (by decide))] at h142
                     subst h142
                     have hCn2 : Cn I117 L (pb (rdLine tb L D (tkK tb L p) (tkF tb L p) (tkE tb L p)) lr) := by rw [hRe]; exact ⟨c124, hpt9.2.2.1, (tkE_le (tb := tb) hrL).2⟩
                     have hdf : ∀ J : Mem, Lx I117 J → J 97 21 = 0 → ∀ r, (rdLine tb L D (tkK tb L p) (tkF tb L p) (tkE tb L p)) = .inr r → DrM J r.1 := fun J hJ _ r hr => by
                       rw [hRe] at hr
                       cases hr
                       obtain ⟨q1, q2, q3⟩ := DrM_iff.mp (d117 c124 r9 hX9)
                       exact DrM_iff.mpr ⟨q1.ly hJ.y, by rw [hJ.1 13 (by decide)]; exact q2, by rw [hJ.1 14 (by decide)]; exact q3⟩
                     have gl2 : FrL I I117 := gl1
                     have hTB2 : TbM I117 L tb := htb.fl gl2)
                  | (rw [if_pos ⟨rfl, c124⟩] at h142
                     have hCn2 : Cn I142 L (pb (rdLine tb L D (tkK tb L p) (tkF tb L p) (tkE tb L p)) lr) := by
                       rw [hRe, ← h142]
                       exact ⟨by rw [wr_sn (by decide), wr_ss]; rfl, by rw [wr_ss]; exact hpt9.2.1, (show 1 ≤ 2 by decide), (show 2 ≤ 8 by decide)⟩
                     have hdf : ∀ J : Mem, J 97 21 = 0 → ∀ r, (rdLine tb L D (tkK tb L p) (tkF tb L p) (tkE tb L p)) = .inr r → DrM J r.1 := fun J _ r hr => by (rw [hRe] at hr; cases hr)
                     have gl2 : FrL I I142 := gl1.trans (by rw [← h142]; exact ((Lx.w (by decide) (by decide)).trans (Lx.w (by decide) (by decide))).l)
                     have hTB2 : TbM I142 L tb := htb.fl gl2)
                  refine g_aload_n C (pc := 145) dX12_readLine_145 1 rfl ?_
                  refine g_callVV C (pc := 146) mf_X12_next lk_RX12_163 (nxt_any (s := pb (rdLine tb L D (tkK tb L p) (tkF tb L p) (tkE tb L p)) lr) hn9 hms hTB2 hCn2) (by decide) (Nat.le_refl _) rfl (by first | assumption | rfl | omega) rfl (by first | assumption | rfl | omega) (Nat.le_of_ble_eq_true rfl) dX12_readLine_146 (fun I146 h146 => ?_)
                  obtain ⟨s146, l146⟩ := h146
                  refine g_vret C hR (pc := 149) rfl dX12_readLine_149 ?_
                  refine ⟨rfl, rfl, ?_⟩
                  first
                  | exact ⟨s146, hdf _, gl2.trans l146.l⟩
                  | exact ⟨s146, hdf _ l146, gl2.trans l146.l⟩
            · skip
              refine g_vret C hR (pc := 114) rfl dX12_readLine_114 ?_
              refine ⟨rfl, rfl, ?_⟩
              first
              | (rw [hs9] at s104
                 exact ⟨by rw [hR0]; exact s104, fun _ r hr => by (rw [hR0] at hr; cases hr), gl.trans l104.l⟩)
              | (have hp1 := s104
                 rw [hs9] at hp1
                 have hF0 : tkK tb L (tkE tb L p) = 0 ∧ FT I104 (1, tkF tb L (tkE tb L p)) := by
                   rcases hp1.2 with h9 | ⟨-, h9⟩
                   · exact h9
                   · exfalso; rw [h9.1] at c111; exact absurd c111 (by decide)
                 have hRe : (rdLine tb L D (tkK tb L p) (tkF tb L p) (tkE tb L p)) = .inl (1, tkF tb L (tkE tb L p)) := by rw [hRf, lnR_0 hc5 hF0.1]; rfl
                 exact ⟨by rw [hRe]; exact hF0.2, fun h9 => absurd h9 (FT.pos hF0.2), gl.trans l104.l⟩)
          · have hc3 : c < 3 := by
              rw [hv17] at c67
              have := (nI_leI (b := 2) (by omega) (by decide)).mp c67
              omega
            have hbt : bt (I 97 13 >>> (v17 &&& 31)) 0 = flD c D := by
              rw [hv17]
              refine (b_sshr c (by omega) _ (by decide)).trans ?_
              rw [if_pos (by omega)]; exact tl_at htl hc3
            refine g_aload_n C (pc := 70) dX12_readLine_70 1 rfl ?_
            refine g_aload_n C (pc := 71) dX12_readLine_71 1 rfl ?_
            refine g_getI C (pc := 72) fl_RX12_93 (by decide) (by first | assumption | rfl | omega) (by first | assumption | rfl | omega) dX12_readLine_72 ?_
            refine g_iload_n C (pc := 75) dX12_readLine_75 0 rfl ?_
            refine g_ishr C (pc := 76) dX12_readLine_76 ?_
            refine g_iconst C (pc := 77) 1 dX12_readLine_77 (by decide) ?_
            refine g_iand C (pc := 78) dX12_readLine_78 ?_
            refine g_if_ne C (pc := 79) 86 dX12_readLine_79 (by decide) (fun c79 => ?_) (fun c79 => ?_)
            · have hfl1 : flD c D = true := by
                cases h8 : flD c D with
                | true => rfl
                | false => exact absurd (and_1.mpr (hbt.trans h8)) c79
              obtain ⟨s9, hs9⟩ : ∃ s9 : PRs Nat, s9 = .inl (4, tkF tb L p) := ⟨_, rfl⟩
              have hR0 : (rdLine tb L D (tkK tb L p) (tkF tb L p) (tkE tb L p)) = .inl (4, tkF tb L p) := by rw [rdLine_t, hln]; show (if c = 4 ∧ 6 ≤ rN (dF D) then _ else if flD c D = true then _ else _) = _; rw [if_neg (fun h => by omega), if_pos hfl1]
              refine g_iconst C (pc := 86) 0 dX12_readLine_86 (by decide) ?_
              refine g_iconst C (pc := 87) 4 dX12_readLine_87 (by decide) ?_
              refine g_callVV C (pc := 88) mf_X12_needs lk_RX12_155 (c_X12_needs n ρ _ _ 4 hn9 hms) (by decide) (Nat.le_refl _) rfl (by first | assumption | rfl | omega) rfl (by first | assumption | rfl | omega) (Nat.le_of_ble_eq_true rfl) dX12_readLine_88 (fun I88 h88 => ?_)
              obtain h88 := h88
              first
              | (rw [if_neg (fun h => absurd h.1 (by decide))] at h88
                 subst h88)
              | (rw [if_pos ⟨rfl, a21⟩] at h88)
              refine g_aload_n C (pc := 91) dX12_readLine_91 1 rfl ?_
              refine g_dup C (pc := 92) dX12_readLine_92 rfl ?_
              refine g_getI C (pc := 93) fl_RX12_93 (by decide) (by first | assumption | rfl | omega) (by first | assumption | rfl | omega) dX12_readLine_93 ?_
              refine g_iconst C (pc := 96) 1 dX12_readLine_96 (by decide) ?_
              refine g_iload_n C (pc := 97) dX12_readLine_97 0 rfl ?_
              refine g_ishl C (pc := 98) dX12_readLine_98 ?_
              refine g_ior C (pc := 99) dX12_readLine_99 ?_
              refine g_putI C (pc := 100) fl_RX12_93 (by decide) fp_11_13 (Or.inl rfl) ⟨rfl, rfl⟩ (by first | assumption | rfl | omega) (by first | assumption | rfl | omega) hn9 dX12_readLine_100 ?_
              first
              | (have hCn : Cn I31 L s9 := by rw [hs9]; exact ⟨g21, g22, hflt.1, hflt.2⟩
                 have hTB : TbM I31 L tb := htb.lx gx
                 have gl : FrL I I31 := gx.l)
              | (have hCn : Cn I55 L s9 := by rw [hs9]; exact ⟨g21, g22, hflt.1, hflt.2⟩
                 have hTB : TbM I55 L tb := htb.lx gx
                 have gl : FrL I I55 := gx.l)
              | (obtain ⟨K, hK⟩ : ∃ K, K = wr I 97 13 (I 97 13 ||| (1 <<< (v17 &&& 31))) := ⟨_, rfl⟩
                 rw [← hK]
                 have hCn : Cn K L s9 := by rw [hs9, hK]; exact ⟨by rw [wr_sn (by decide)]; exact a21, by rw [wr_sn (by decide)]; exact a17, hEL.2⟩
                 have gl : FrL I K := by rw [hK]; exact ⟨fun z _ _ _ h4 _ _ => wr_sn h4, fun i h1 _ _ _ => wr_n h1⟩
                 have hTB : TbM K L tb := htb.fl gl
                 have hdK : DrM K (stF c D) := by
                   refine DrM_iff.mpr ⟨?_, ?_, ?_⟩
                   · rw [stF_d.1, stF_d.2, hK]
                     exact hdn.cg (wr_sn (by decide)) (wr_sn (by decide)) (wr_sn (by decide)) (wr_n (by decide)) (wr_n (by decide)) (wr_n (by decide))
                   · rw [hK, wr_ss, hv17]; exact tl_set htl hc3
                   · rw [stF_d.1, stF_d.2, hK, wr_sn (by decide)]; exact hhi
                 have hRf : (rdLine tb L D (tkK tb L p) (tkF tb L p) (tkE tb L p)) = pb (lnR tb L c (stF c D) (tkE tb L p)) (sgn tb L) := by rw [rdLine_t, hln]; show (if c = 4 ∧ 6 ≤ rN (dF D) then _ else if flD c D = true then _ else _) = _; rw [if_neg (fun h => by have := h6 h.1; omega), if_neg (by rw [hfl0]; decide)])
              | (obtain ⟨K, hK⟩ : ∃ K, K = wr I88 97 13 (I88 97 13 ||| (1 <<< (v17 &&& 31))) := ⟨_, rfl⟩
                 rw [← hK]
                 have hCn : Cn K L s9 := by
                   rw [hs9, hK, ← h88]
                   exact ⟨by rw [wr_sn (by decide), wr_sn (by decide), wr_ss]; rfl, by rw [wr_sn (by decide), wr_ss]; exact a18, (show 1 ≤ 4 by decide), (show 4 ≤ 8 by decide)⟩
                 have gl : FrL I K := by
                   rw [hK, ← h88]
                   exact ⟨fun z _ _ _ h4 _ h6 => by rw [wr_sn h4, wr_sn (by omega), wr_sn (by omega)], fun i h1 _ _ _ => by rw [wr_n h1, wr_n h1, wr_n h1]⟩
                 have hTB : TbM K L tb := htb.fl gl)
              | (have hCn : Cn I L s9 := by rw [hs9]; exact ⟨a21, a17, hEL.2⟩
                 have hTB : TbM I L tb := htb
                 have gl : FrL I I := ⟨fun _ _ _ _ _ _ _ => rfl, fun _ _ _ _ _ => rfl⟩
                 have hdK : DrM I (stF c D) := by rw [hsf]; exact hdr
                 have hRf : (rdLine tb L D (tkK tb L p) (tkF tb L p) (tkE tb L p)) = pb (lnR tb L c (stF c D) (tkE tb L p)) (sgn tb L) := by rw [rdLine_t, hln]; show (if c = 4 ∧ 6 ≤ rN (dF D) then _ else if flD c D = true then _ else _) = _; rw [if_neg (fun h => by have := h6 h.1; omega), if_neg (by rw [hfl0]; decide)])
              refine g_aload_n C (pc := 103) dX12_readLine_103 1 rfl ?_
              refine g_callVV C (pc := 104) mf_X12_next lk_RX12_163 (nxt_any (s := s9) hn9 hms hTB hCn) (by decide) (Nat.le_refl _) rfl (by first | assumption | rfl | omega) rfl (by first | assumption | rfl | omega) (Nat.le_of_ble_eq_true rfl) dX12_readLine_104 (fun I104 h104 => ?_)
              obtain ⟨s104, l104⟩ := h104
              refine g_aload_n C (pc := 107) dX12_readLine_107 1 rfl ?_
              refine g_getI C (pc := 108) fl_RX12_117 (by decide) (by first | assumption | rfl | omega) (by first | assumption | rfl | omega) dX12_readLine_108 ?_
              refine g_if_le C (pc := 111) 115 dX12_readLine_111 (by decide) (fun c111 => ?_) (fun c111 => ?_)
              · rw [hs9] at s104; exact absurd (FT.gt s104) (Int32.not_lt.mpr c111)
              · skip
                refine g_vret C hR (pc := 114) rfl dX12_readLine_114 ?_
                refine ⟨rfl, rfl, ?_⟩
                first
                | (rw [hs9] at s104
                   exact ⟨by rw [hR0]; exact s104, fun _ r hr => by (rw [hR0] at hr; cases hr), gl.trans l104.l⟩)
                | (have hp1 := s104
                   rw [hs9] at hp1
                   have hF0 : tkK tb L (tkE tb L p) = 0 ∧ FT I104 (1, tkF tb L (tkE tb L p)) := by
                     rcases hp1.2 with h9 | ⟨-, h9⟩
                     · exact h9
                     · exfalso; rw [h9.1] at c111; exact absurd c111 (by decide)
                   have hRe : (rdLine tb L D (tkK tb L p) (tkF tb L p) (tkE tb L p)) = .inl (1, tkF tb L (tkE tb L p)) := by rw [hRf, lnR_0 hc5 hF0.1]; rfl
                   exact ⟨by rw [hRe]; exact hF0.2, fun h9 => absurd h9 (FT.pos hF0.2), gl.trans l104.l⟩)
            · have hfl0 : flD c D = false := hbt.symm.trans (and_1.mp c79)
              obtain ⟨s9, hs9⟩ : ∃ s9 : PRs Nat, s9 = .inr (tkE tb L p) := ⟨_, rfl⟩
              refine g_iconst C (pc := 82) 1 dX12_readLine_82 (by decide) ?_
              refine g_goto C (pc := 83) 87 dX12_readLine_83 (by decide) ?_
              refine g_iconst C (pc := 87) 4 dX12_readLine_87 (by decide) ?_
              refine g_callVV C (pc := 88) mf_X12_needs lk_RX12_155 (c_X12_needs n ρ _ _ 4 hn9 hms) (by decide) (Nat.le_refl _) rfl (by first | assumption | rfl | omega) rfl (by first | assumption | rfl | omega) (Nat.le_of_ble_eq_true rfl) dX12_readLine_88 (fun I88 h88 => ?_)
              obtain h88 := h88
              first
              | (rw [if_neg (fun h => absurd h.1 (by decide))] at h88
                 subst h88)
              | (rw [if_pos ⟨rfl, a21⟩] at h88)
              refine g_aload_n C (pc := 91) dX12_readLine_91 1 rfl ?_
              refine g_dup C (pc := 92) dX12_readLine_92 rfl ?_
              refine g_getI C (pc := 93) fl_RX12_93 (by decide) (by first | assumption | rfl | omega) (by first | assumption | rfl | omega) dX12_readLine_93 ?_
              refine g_iconst C (pc := 96) 1 dX12_readLine_96 (by decide) ?_
              refine g_iload_n C (pc := 97) dX12_readLine_97 0 rfl ?_
              refine g_ishl C (pc := 98) dX12_readLine_98 ?_
              refine g_ior C (pc := 99) dX12_readLine_99 ?_
              refine g_putI C (pc := 100) fl_RX12_93 (by decide) fp_11_13 (Or.inl rfl) ⟨rfl, rfl⟩ (by first | assumption | rfl | omega) (by first | assumption | rfl | omega) hn9 dX12_readLine_100 ?_
              first
              | (have hCn : Cn I31 L s9 := by rw [hs9]; exact ⟨g21, g22, hflt.1, hflt.2⟩
                 have hTB : TbM I31 L tb := htb.lx gx
                 have gl : FrL I I31 := gx.l)
              | (have hCn : Cn I55 L s9 := by rw [hs9]; exact ⟨g21, g22, hflt.1, hflt.2⟩
                 have hTB : TbM I55 L tb := htb.lx gx
                 have gl : FrL I I55 := gx.l)
              | (obtain ⟨K, hK⟩ : ∃ K, K = wr I 97 13 (I 97 13 ||| (1 <<< (v17 &&& 31))) := ⟨_, rfl⟩
                 rw [← hK]
                 have hCn : Cn K L s9 := by rw [hs9, hK]; exact ⟨by rw [wr_sn (by decide)]; exact a21, by rw [wr_sn (by decide)]; exact a17, hEL.2⟩
                 have gl : FrL I K := by rw [hK]; exact ⟨fun z _ _ _ h4 _ _ => wr_sn h4, fun i h1 _ _ _ => wr_n h1⟩
                 have hTB : TbM K L tb := htb.fl gl
                 have hdK : DrM K (stF c D) := by
                   refine DrM_iff.mpr ⟨?_, ?_, ?_⟩
                   · rw [stF_d.1, stF_d.2, hK]
                     exact hdn.cg (wr_sn (by decide)) (wr_sn (by decide)) (wr_sn (by decide)) (wr_n (by decide)) (wr_n (by decide)) (wr_n (by decide))
                   · rw [hK, wr_ss, hv17]; exact tl_set htl hc3
                   · rw [stF_d.1, stF_d.2, hK, wr_sn (by decide)]; exact hhi
                 have hRf : (rdLine tb L D (tkK tb L p) (tkF tb L p) (tkE tb L p)) = pb (lnR tb L c (stF c D) (tkE tb L p)) (sgn tb L) := by rw [rdLine_t, hln]; show (if c = 4 ∧ 6 ≤ rN (dF D) then _ else if flD c D = true then _ else _) = _; rw [if_neg (fun h => by have := h6 h.1; omega), if_neg (by rw [hfl0]; decide)])
              | (obtain ⟨K, hK⟩ : ∃ K, K = wr I88 97 13 (I88 97 13 ||| (1 <<< (v17 &&& 31))) := ⟨_, rfl⟩
                 rw [← hK]
                 have hCn : Cn K L s9 := by
                   rw [hs9, hK, ← h88]
                   exact ⟨by rw [wr_sn (by decide), wr_sn (by decide), wr_ss]; rfl, by rw [wr_sn (by decide), wr_ss]; exact a18, (show 1 ≤ 4 by decide), (show 4 ≤ 8 by decide)⟩
                 have gl : FrL I K := by
                   rw [hK, ← h88]
                   exact ⟨fun z _ _ _ h4 _ h6 => by rw [wr_sn h4, wr_sn (by omega), wr_sn (by omega)], fun i h1 _ _ _ => by rw [wr_n h1, wr_n h1, wr_n h1]⟩
                 have hTB : TbM K L tb := htb.fl gl)
              | (have hCn : Cn I L s9 := by rw [hs9]; exact ⟨a21, a17, hEL.2⟩
                 have hTB : TbM I L tb := htb
                 have gl : FrL I I := ⟨fun _ _ _ _ _ _ _ => rfl, fun _ _ _ _ _ => rfl⟩
                 have hdK : DrM I (stF c D) := by rw [hsf]; exact hdr
                 have hRf : (rdLine tb L D (tkK tb L p) (tkF tb L p) (tkE tb L p)) = pb (lnR tb L c (stF c D) (tkE tb L p)) (sgn tb L) := by rw [rdLine_t, hln]; show (if c = 4 ∧ 6 ≤ rN (dF D) then _ else if flD c D = true then _ else _) = _; rw [if_neg (fun h => by have := h6 h.1; omega), if_neg (by rw [hfl0]; decide)])
              refine g_aload_n C (pc := 103) dX12_readLine_103 1 rfl ?_
              refine g_callVV C (pc := 104) mf_X12_next lk_RX12_163 (nxt_any (s := s9) hn9 hms hTB hCn) (by decide) (Nat.le_refl _) rfl (by first | assumption | rfl | omega) rfl (by first | assumption | rfl | omega) (Nat.le_of_ble_eq_true rfl) dX12_readLine_104 (fun I104 h104 => ?_)
              obtain ⟨s104, l104⟩ := h104
              refine g_aload_n C (pc := 107) dX12_readLine_107 1 rfl ?_
              refine g_getI C (pc := 108) fl_RX12_117 (by decide) (by first | assumption | rfl | omega) (by first | assumption | rfl | omega) dX12_readLine_108 ?_
              refine g_if_le C (pc := 111) 115 dX12_readLine_111 (by decide) (fun c111 => ?_) (fun c111 => ?_)
              · rw [hs9] at s104
                have hf104 : I104 97 21 = 0 := by
                  rcases s104.2 with ⟨-, h9⟩ | ⟨-, h9⟩
                  · exact absurd (FT.gt h9) (Int32.not_lt.mpr c111)
                  · exact h9.1
                obtain ⟨hp104, hk104⟩ : PT I104 tb L (tkE tb L p) ∧ tkK tb L (tkE tb L p) ≠ 0 := by
                  rcases s104.2 with ⟨-, h9⟩ | ⟨h8, h9⟩
                  · exact absurd hf104 (FT.pos h9)
                  · exact ⟨h9, h8⟩
                have htb104 : TbM I104 L tb := hTB.lx l104
                have hd104 : DrM I104 (stF c D) := by
                  obtain ⟨q1, q2, q3⟩ := DrM_iff.mp hdK
                  exact DrM_iff.mpr ⟨q1.ly l104.y, by rw [l104.1 13 (by decide)]; exact q2, by rw [l104.1 14 (by decide)]; exact q3⟩
                refine g_aload_n C (pc := 115) dX12_readLine_115 1 rfl ?_
                refine g_iload_n C (pc := 116) dX12_readLine_116 0 rfl ?_
                refine g_callVV C (pc := 117) mf_X12_readLineOf lk_RX12_185 (c_X12_readLineOf n ρ I104 L tb (tkE tb L p) c (stF c D) v17 hn9 hms htb104 hp104 hk104 hEL.2 hd104 hc5 hv17 (fun h9 => by rw [stF_d.1]; exact h6 h9)) (by decide) (Nat.le_refl _) rfl (by first | assumption | rfl | omega) rfl (by first | assumption | rfl | omega) (Nat.le_of_ble_eq_true rfl) dX12_readLine_117 (fun I117 h117 => ?_)
                obtain ⟨s117, d117, l117⟩ := h117
                refine g_aload_n C (pc := 120) dX12_readLine_120 1 rfl ?_
                refine g_getI C (pc := 121) fl_RX12_117 (by decide) (by first | assumption | rfl | omega) (by first | assumption | rfl | omega) dX12_readLine_121 ?_
                refine g_if_ne C (pc := 124) 145 dX12_readLine_124 (by decide) (fun c124 => ?_) (fun c124 => ?_)
                · obtain ⟨e9, he9, hft9⟩ := sx_f s117 c124
                  have hRe : (rdLine tb L D (tkK tb L p) (tkF tb L p) (tkE tb L p)) = .inl e9 := hRf.trans he9
                  have hCn2 : Cn I117 L (pb (rdLine tb L D (tkK tb L p) (tkF tb L p) (tkE tb L p)) lr) := by rw [hRe]; exact hft9
                  have hdf : ∀ J : Mem, J 97 21 = 0 → ∀ r, (rdLine tb L D (tkK tb L p) (tkF tb L p) (tkE tb L p)) = .inr r → DrM J r.1 := fun J _ r hr => by (rw [hRe] at hr; cases hr)
                  have gl2 : FrL I I117 := (gl.trans l104.l).trans l117
                  have hTB2 : TbM I117 L tb := htb.fl gl2
                  refine g_aload_n C (pc := 145) dX12_readLine_145 1 rfl ?_
                  refine g_callVV C (pc := 146) mf_X12_next lk_RX12_163 (nxt_any (s := pb (rdLine tb L D (tkK tb L p) (tkF tb L p) (tkE tb L p)) lr) hn9 hms hTB2 hCn2) (by decide) (Nat.le_refl _) rfl (by first | assumption | rfl | omega) rfl (by first | assumption | rfl | omega) (Nat.le_of_ble_eq_true rfl) dX12_readLine_146 (fun I146 h146 => ?_)
                  obtain ⟨s146, l146⟩ := h146
                  refine g_vret C hR (pc := 149) rfl dX12_readLine_149 ?_
                  refine ⟨rfl, rfl, ?_⟩
                  first
                  | exact ⟨s146, hdf _, gl2.trans l146.l⟩
                  | exact ⟨s146, hdf _ l146, gl2.trans l146.l⟩
                · obtain ⟨r9, hX9, hrL, hpt9, hk9⟩ := sx_r (R := lnR tb L c (stF c D) (tkE tb L p)) (k := fun r => r.2) s117 c124
                  have hRr : (rdLine tb L D (tkK tb L p) (tkF tb L p) (tkE tb L p)) = pb (rdSgn tb L r9.2) fun e => .inr (r9.1, e) := by rw [hRf, hX9]; rfl
                  have gl1 : FrL I I117 := (gl.trans l104.l).trans l117
                  refine g_aload_n C (pc := 127) dX12_readLine_127 1 rfl ?_
                  refine g_aload_n C (pc := 128) dX12_readLine_128 1 rfl ?_
                  refine g_getI C (pc := 129) fl_RX12_141 (by decide) (by first | assumption | rfl | omega) (by first | assumption | rfl | omega) dX12_readLine_129 ?_
                  refine g_iconst C (pc := 132) 3 dX12_readLine_132 (by decide) ?_
                  refine g_icmp_ne C (pc := 133) 140 dX12_readLine_133 (by decide) (fun c133 => ?_) (fun c133 => ?_)
                  · have hk3 : tkK tb L r9.2 ≠ 3 := fun h9 => c133 ((hpt9.sort 3 (by decide) (by decide)).mpr h9)
                    have hRe : (rdLine tb L D (tkK tb L p) (tkF tb L p) (tkE tb L p)) = .inl (2, tkF tb L r9.2) := by rw [hRr]; unfold rdSgn; rw [if_neg hk9, if_neg hk3]; rfl
                    refine g_iconst C (pc := 140) 0 dX12_readLine_140 (by decide) ?_
                    refine g_iconst C (pc := 141) 2 dX12_readLine_141 (by decide) ?_
                    refine g_callVV C (pc := 142) mf_X12_needs lk_RX12_155 (c_X12_needs n ρ I117 _ 2 hn9 hms) (by decide) (Nat.le_refl _) rfl (by first | assumption | rfl | omega) rfl (by first | assumption | rfl | omega) (Nat.le_of_ble_eq_true rfl) dX12_readLine_142 (fun I142 h142 => ?_)
                    obtain h142 := h142
                    first
                    | (rw [if_neg (fun h => absurd h.1 (by decide))] at h142
                       subst h142
                       have hCn2 : Cn I117 L (pb (rdLine tb L D (tkK tb L p) (tkF tb L p) (tkE tb L p)) lr) := by rw [hRe]; exact ⟨c124, hpt9.2.2.1, (tkE_le (tb := tb) hrL).2⟩
                       have hdf : ∀ J : Mem, Lx I117 J → J 97 21 = 0 → ∀ r, (rdLine tb L D (tkK tb L p) (tkF tb L p) (tkE tb L p)) = .inr r → DrM J r.1 := fun J hJ _ r hr => by
                         rw [hRe] at hr
                         cases hr
                         obtain ⟨q1, q2, q3⟩ := DrM_iff.mp (d117 c124 r9 hX9)
                         exact DrM_iff.mpr ⟨q1.ly hJ.y, by rw [hJ.1 13 (by decide)]; exact q2, by rw [hJ.1 14 (by decide)]; exact q3⟩
                       have gl2 : FrL I I117 := gl1
                       have hTB2 : TbM I117 L tb := htb.fl gl2)
                    | (rw [if_pos ⟨rfl, c124⟩] at h142
                       have hCn2 : Cn I142 L (pb (rdLine tb L D (tkK tb L p) (tkF tb L p) (tkE tb L p)) lr) := by
                         rw [hRe, ← h142]
                         exact ⟨by rw [wr_sn (by decide), wr_ss]; rfl, by rw [wr_ss]; exact hpt9.2.1, (show 1 ≤ 2 by decide), (show 2 ≤ 8 by decide)⟩
                       have hdf : ∀ J : Mem, J 97 21 = 0 → ∀ r, (rdLine tb L D (tkK tb L p) (tkF tb L p) (tkE tb L p)) = .inr r → DrM J r.1 := fun J _ r hr => by (rw [hRe] at hr; cases hr)
                       have gl2 : FrL I I142 := gl1.trans (by rw [← h142]; exact ((Lx.w (by decide) (by decide)).trans (Lx.w (by decide) (by decide))).l)
                       have hTB2 : TbM I142 L tb := htb.fl gl2)
                    refine g_aload_n C (pc := 145) dX12_readLine_145 1 rfl ?_
                    refine g_callVV C (pc := 146) mf_X12_next lk_RX12_163 (nxt_any (s := pb (rdLine tb L D (tkK tb L p) (tkF tb L p) (tkE tb L p)) lr) hn9 hms hTB2 hCn2) (by decide) (Nat.le_refl _) rfl (by first | assumption | rfl | omega) rfl (by first | assumption | rfl | omega) (Nat.le_of_ble_eq_true rfl) dX12_readLine_146 (fun I146 h146 => ?_)
                    obtain ⟨s146, l146⟩ := h146
                    refine g_vret C hR (pc := 149) rfl dX12_readLine_149 ?_
                    refine ⟨rfl, rfl, ?_⟩
                    first
                    | exact ⟨s146, hdf _, gl2.trans l146.l⟩
                    | exact ⟨s146, hdf _ l146, gl2.trans l146.l⟩
                  · have hk3 : tkK tb L r9.2 = 3 := (hpt9.sort 3 (by decide) (by decide)).mp c133
                    have hRe : (rdLine tb L D (tkK tb L p) (tkF tb L p) (tkE tb L p)) = .inr (r9.1, tkE tb L r9.2) := by rw [hRr]; unfold rdSgn; rw [if_neg hk9, if_pos hk3]; rfl
                    refine g_iconst C (pc := 136) 1 dX12_readLine_136 (by decide) ?_
                    refine g_goto C (pc := 137) 141 dX12_readLine_137 (by decide) ?_
                    refine g_iconst C (pc := 141) 2 dX12_readLine_141 (by decide) ?_
                    refine g_callVV C (pc := 142) mf_X12_needs lk_RX12_155 (c_X12_needs n ρ I117 _ 2 hn9 hms) (by decide) (Nat.le_refl _) rfl (by first | assumption | rfl | omega) rfl (by first | assumption | rfl | omega) (Nat.le_of_ble_eq_true rfl) dX12_readLine_142 (fun I142 h142 => ?_)
                    obtain h142 := h142
                    first
                    | (rw [if_neg (fun h => absurd h.1 (by decide))] at h142
                       subst h142
                       have hCn2 : Cn I117 L (pb (rdLine tb L D (tkK tb L p) (tkF tb L p) (tkE tb L p)) lr) := by rw [hRe]; exact ⟨c124, hpt9.2.2.1, (tkE_le (tb := tb) hrL).2⟩
                       have hdf : ∀ J : Mem, Lx I117 J → J 97 21 = 0 → ∀ r, (rdLine tb L D (tkK tb L p) (tkF tb L p) (tkE tb L p)) = .inr r → DrM J r.1 := fun J hJ _ r hr => by
                         rw [hRe] at hr
                         cases hr
                         obtain ⟨q1, q2, q3⟩ := DrM_iff.mp (d117 c124 r9 hX9)
                         exact DrM_iff.mpr ⟨q1.ly hJ.y, by rw [hJ.1 13 (by decide)]; exact q2, by rw [hJ.1 14 (by decide)]; exact q3⟩
                       have gl2 : FrL I I117 := gl1
                       have hTB2 : TbM I117 L tb := htb.fl gl2)
                    | (rw [if_pos ⟨rfl, c124⟩] at h142
                       have hCn2 : Cn I142 L (pb (rdLine tb L D (tkK tb L p) (tkF tb L p) (tkE tb L p)) lr) := by
                         rw [hRe, ← h142]
                         exact ⟨by rw [wr_sn (by decide), wr_ss]; rfl, by rw [wr_ss]; exact hpt9.2.1, (show 1 ≤ 2 by decide), (show 2 ≤ 8 by decide)⟩
                       have hdf : ∀ J : Mem, J 97 21 = 0 → ∀ r, (rdLine tb L D (tkK tb L p) (tkF tb L p) (tkE tb L p)) = .inr r → DrM J r.1 := fun J _ r hr => by (rw [hRe] at hr; cases hr)
                       have gl2 : FrL I I142 := gl1.trans (by rw [← h142]; exact ((Lx.w (by decide) (by decide)).trans (Lx.w (by decide) (by decide))).l)
                       have hTB2 : TbM I142 L tb := htb.fl gl2)
                    refine g_aload_n C (pc := 145) dX12_readLine_145 1 rfl ?_
                    refine g_callVV C (pc := 146) mf_X12_next lk_RX12_163 (nxt_any (s := pb (rdLine tb L D (tkK tb L p) (tkF tb L p) (tkE tb L p)) lr) hn9 hms hTB2 hCn2) (by decide) (Nat.le_refl _) rfl (by first | assumption | rfl | omega) rfl (by first | assumption | rfl | omega) (Nat.le_of_ble_eq_true rfl) dX12_readLine_146 (fun I146 h146 => ?_)
                    obtain ⟨s146, l146⟩ := h146
                    refine g_vret C hR (pc := 149) rfl dX12_readLine_149 ?_
                    refine ⟨rfl, rfl, ?_⟩
                    first
                    | exact ⟨s146, hdf _, gl2.trans l146.l⟩
                    | exact ⟨s146, hdf _ l146, gl2.trans l146.l⟩
              · skip
                refine g_vret C hR (pc := 114) rfl dX12_readLine_114 ?_
                refine ⟨rfl, rfl, ?_⟩
                first
                | (rw [hs9] at s104
                   exact ⟨by rw [hR0]; exact s104, fun _ r hr => by (rw [hR0] at hr; cases hr), gl.trans l104.l⟩)
                | (have hp1 := s104
                   rw [hs9] at hp1
                   have hF0 : tkK tb L (tkE tb L p) = 0 ∧ FT I104 (1, tkF tb L (tkE tb L p)) := by
                     rcases hp1.2 with h9 | ⟨-, h9⟩
                     · exact h9
                     · exfalso; rw [h9.1] at c111; exact absurd c111 (by decide)
                   have hRe : (rdLine tb L D (tkK tb L p) (tkF tb L p) (tkE tb L p)) = .inl (1, tkF tb L (tkE tb L p)) := by rw [hRf, lnR_0 hc5 hF0.1]; rfl
                   exact ⟨by rw [hRe]; exact hF0.2, fun h9 => absurd h9 (FT.pos hF0.2), gl.trans l104.l⟩)
      · have hc4 : c = 4 := (nI_eq (b := 4) (by omega) (by decide)).mp (hv17.symm.trans c37)
        refine g_aload_n C (pc := 40) dX12_readLine_40 1 rfl ?_
        refine g_getI C (pc := 41) fl_RX12_90 (by decide) (by first | assumption | rfl | omega) (by first | assumption | rfl | omega) dX12_readLine_41 ?_
        refine g_bipush C (pc := 44) 6 dX12_readLine_44 (by decide) ?_
        refine g_icmp_ge C (pc := 46) 53 dX12_readLine_46 (by decide) (fun c46 => ?_) (fun c46 => ?_)
        · have h69 : 6 ≤ rN (dF D) := by
            rw [hN10] at c46
            exact (nI_leI (a := 6) (by decide) (by omega)).mp c46
          obtain ⟨s9, hs9⟩ : ∃ s9 : PRs Nat, s9 = .inl (5, tkF tb L p) := ⟨_, rfl⟩
          have hR0 : (rdLine tb L D (tkK tb L p) (tkF tb L p) (tkE tb L p)) = .inl (5, tkF tb L p) := by rw [rdLine_t, hln]; show (if c = 4 ∧ 6 ≤ rN (dF D) then _ else _) = _; rw [if_pos ⟨hc4, h69⟩]
          have hflt : 1 ≤ 5 ∧ 5 ≤ 8 := by decide
          refine g_iconst C (pc := 53) 0 dX12_readLine_53 (by decide) ?_
          refine g_iconst C (pc := 54) 5 dX12_readLine_54 (by decide) ?_
          refine g_callVV C (pc := 55) mf_X12_needs lk_RX12_155 (c_X12_needs n ρ _ _ 5 hn9 hms) (by decide) (Nat.le_refl _) rfl (by first | assumption | rfl | omega) rfl (by first | assumption | rfl | omega) (Nat.le_of_ble_eq_true rfl) dX12_readLine_55 (fun I55 h55 => ?_)
          obtain h55 := h55
          first
          | (rw [if_neg (fun h => absurd h.1 (by decide))] at h55
             subst h55)
          | (rw [if_pos ⟨rfl, a21⟩] at h55
             have g21 : I55 97 21 = nI 5 := by rw [← h55, wr_sn (by decide), wr_ss]; rfl
             have g22 : I55 97 22 = nI (tkF tb L p) := by rw [← h55, wr_ss]; exact a18
             have gx : Lx I I55 := by rw [← h55]; exact (Lx.w (by decide) (by decide)).trans (Lx.w (by decide) (by decide)))
          refine g_aload_n C (pc := 58) dX12_readLine_58 1 rfl ?_
          refine g_getI C (pc := 59) fl_RX12_117 (by decide) (by first | assumption | rfl | omega) (by first | assumption | rfl | omega) dX12_readLine_59 ?_
          refine g_if_ne C (pc := 62) 103 dX12_readLine_62 (by decide) (fun c62 => ?_) (fun c62 => ?_)
          · skip
            first
            | (have hCn : Cn I31 L s9 := by rw [hs9]; exact ⟨g21, g22, hflt.1, hflt.2⟩
               have hTB : TbM I31 L tb := htb.lx gx
               have gl : FrL I I31 := gx.l)
            | (have hCn : Cn I55 L s9 := by rw [hs9]; exact ⟨g21, g22, hflt.1, hflt.2⟩
               have hTB : TbM I55 L tb := htb.lx gx
               have gl : FrL I I55 := gx.l)
            | (obtain ⟨K, hK⟩ : ∃ K, K = wr I 97 13 (I 97 13 ||| (1 <<< (v17 &&& 31))) := ⟨_, rfl⟩
               rw [← hK]
               have hCn : Cn K L s9 := by rw [hs9, hK]; exact ⟨by rw [wr_sn (by decide)]; exact a21, by rw [wr_sn (by decide)]; exact a17, hEL.2⟩
               have gl : FrL I K := by rw [hK]; exact ⟨fun z _ _ _ h4 _ _ => wr_sn h4, fun i h1 _ _ _ => wr_n h1⟩
               have hTB : TbM K L tb := htb.fl gl
               have hdK : DrM K (stF c D) := by
                 refine DrM_iff.mpr ⟨?_, ?_, ?_⟩
                 · rw [stF_d.1, stF_d.2, hK]
                   exact hdn.cg (wr_sn (by decide)) (wr_sn (by decide)) (wr_sn (by decide)) (wr_n (by decide)) (wr_n (by decide)) (wr_n (by decide))
                 · rw [hK, wr_ss, hv17]; exact tl_set htl hc3
                 · rw [stF_d.1, stF_d.2, hK, wr_sn (by decide)]; exact hhi
               have hRf : (rdLine tb L D (tkK tb L p) (tkF tb L p) (tkE tb L p)) = pb (lnR tb L c (stF c D) (tkE tb L p)) (sgn tb L) := by rw [rdLine_t, hln]; show (if c = 4 ∧ 6 ≤ rN (dF D) then _ else if flD c D = true then _ else _) = _; rw [if_neg (fun h => by have := h6 h.1; omega), if_neg (by rw [hfl0]; decide)])
            | (obtain ⟨K, hK⟩ : ∃ K, K = wr I88 97 13 (I88 97 13 ||| (1 <<< (v17 &&& 31))) := ⟨_, rfl⟩
               rw [← hK]
               have hCn : Cn K L s9 := by
                 rw [hs9, hK, ← h88]
                 exact ⟨by rw [wr_sn (by decide), wr_sn (by decide), wr_ss]; rfl, by rw [wr_sn (by decide), wr_ss]; exact a18, (show 1 ≤ 4 by decide), (show 4 ≤ 8 by decide)⟩
               have gl : FrL I K := by
                 rw [hK, ← h88]
                 exact ⟨fun z _ _ _ h4 _ h6 => by rw [wr_sn h4, wr_sn (by omega), wr_sn (by omega)], fun i h1 _ _ _ => by rw [wr_n h1, wr_n h1, wr_n h1]⟩
               have hTB : TbM K L tb := htb.fl gl)
            | (have hCn : Cn I L s9 := by rw [hs9]; exact ⟨a21, a17, hEL.2⟩
               have hTB : TbM I L tb := htb
               have gl : FrL I I := ⟨fun _ _ _ _ _ _ _ => rfl, fun _ _ _ _ _ => rfl⟩
               have hdK : DrM I (stF c D) := by rw [hsf]; exact hdr
               have hRf : (rdLine tb L D (tkK tb L p) (tkF tb L p) (tkE tb L p)) = pb (lnR tb L c (stF c D) (tkE tb L p)) (sgn tb L) := by rw [rdLine_t, hln]; show (if c = 4 ∧ 6 ≤ rN (dF D) then _ else if flD c D = true then _ else _) = _; rw [if_neg (fun h => by have := h6 h.1; omega), if_neg (by rw [hfl0]; decide)])
            refine g_aload_n C (pc := 103) dX12_readLine_103 1 rfl ?_
            refine g_callVV C (pc := 104) mf_X12_next lk_RX12_163 (nxt_any (s := s9) hn9 hms hTB hCn) (by decide) (Nat.le_refl _) rfl (by first | assumption | rfl | omega) rfl (by first | assumption | rfl | omega) (Nat.le_of_ble_eq_true rfl) dX12_readLine_104 (fun I104 h104 => ?_)
            obtain ⟨s104, l104⟩ := h104
            refine g_aload_n C (pc := 107) dX12_readLine_107 1 rfl ?_
            refine g_getI C (pc := 108) fl_RX12_117 (by decide) (by first | assumption | rfl | omega) (by first | assumption | rfl | omega) dX12_readLine_108 ?_
            refine g_if_le C (pc := 111) 115 dX12_readLine_111 (by decide) (fun c111 => ?_) (fun c111 => ?_)
            · rw [hs9] at s104; exact absurd (FT.gt s104) (Int32.not_lt.mpr c111)
            · skip
              refine g_vret C hR (pc := 114) rfl dX12_readLine_114 ?_
              refine ⟨rfl, rfl, ?_⟩
              first
              | (rw [hs9] at s104
                 exact ⟨by rw [hR0]; exact s104, fun _ r hr => by (rw [hR0] at hr; cases hr), gl.trans l104.l⟩)
              | (have hp1 := s104
                 rw [hs9] at hp1
                 have hF0 : tkK tb L (tkE tb L p) = 0 ∧ FT I104 (1, tkF tb L (tkE tb L p)) := by
                   rcases hp1.2 with h9 | ⟨-, h9⟩
                   · exact h9
                   · exfalso; rw [h9.1] at c111; exact absurd c111 (by decide)
                 have hRe : (rdLine tb L D (tkK tb L p) (tkF tb L p) (tkE tb L p)) = .inl (1, tkF tb L (tkE tb L p)) := by rw [hRf, lnR_0 hc5 hF0.1]; rfl
                 exact ⟨by rw [hRe]; exact hF0.2, fun h9 => absurd h9 (FT.pos hF0.2), gl.trans l104.l⟩)
          · rw [g21] at c62; exact absurd c62 (by decide)
        · have h6 : c = 4 → rN (dF D) < 6 := fun _ => by
            rw [hN10] at c46
            exact (nI_ltI (b := 6) (by omega) (by decide)).mp c46
          refine g_iconst C (pc := 49) 1 dX12_readLine_49 (by decide) ?_
          refine g_goto C (pc := 50) 54 dX12_readLine_50 (by decide) ?_
          refine g_iconst C (pc := 54) 5 dX12_readLine_54 (by decide) ?_
          refine g_callVV C (pc := 55) mf_X12_needs lk_RX12_155 (c_X12_needs n ρ _ _ 5 hn9 hms) (by decide) (Nat.le_refl _) rfl (by first | assumption | rfl | omega) rfl (by first | assumption | rfl | omega) (Nat.le_of_ble_eq_true rfl) dX12_readLine_55 (fun I55 h55 => ?_)
          obtain h55 := h55
          first
          | (rw [if_neg (fun h => absurd h.1 (by decide))] at h55
             subst h55)
          | (rw [if_pos ⟨rfl, a21⟩] at h55
             have g21 : I55 97 21 = nI 5 := by rw [← h55, wr_sn (by decide), wr_ss]; rfl
             have g22 : I55 97 22 = nI (tkF tb L p) := by rw [← h55, wr_ss]; exact a18
             have gx : Lx I I55 := by rw [← h55]; exact (Lx.w (by decide) (by decide)).trans (Lx.w (by decide) (by decide)))
          refine g_aload_n C (pc := 58) dX12_readLine_58 1 rfl ?_
          refine g_getI C (pc := 59) fl_RX12_117 (by decide) (by first | assumption | rfl | omega) (by first | assumption | rfl | omega) dX12_readLine_59 ?_
          refine g_if_ne C (pc := 62) 103 dX12_readLine_62 (by decide) (fun c62 => ?_) (fun c62 => ?_)
          · exact absurd g21 c62
          · refine g_iload_n C (pc := 65) dX12_readLine_65 0 rfl ?_
            refine g_iconst C (pc := 66) 2 dX12_readLine_66 (by decide) ?_
            refine g_icmp_gt C (pc := 67) 103 dX12_readLine_67 (by decide) (fun c67 => ?_) (fun c67 => ?_)
            · have hc3 : 3 ≤ c := by
                rw [hv17] at c67
                have := (nI_ltI (a := 2) (by decide) (by omega)).mp c67
                omega
              obtain ⟨s9, hs9⟩ : ∃ s9 : PRs Nat, s9 = .inr (tkE tb L p) := ⟨_, rfl⟩
              have hfl0 : flD c D = false := by unfold flD; rw [if_neg (by omega), if_neg (by omega), if_neg (by omega)]
              have hsf : stF c D = D := by unfold stF; rw [if_neg (by omega), if_neg (by omega), if_neg (by omega)]
              first
              | (have hCn : Cn I31 L s9 := by rw [hs9]; exact ⟨g21, g22, hflt.1, hflt.2⟩
                 have hTB : TbM I31 L tb := htb.lx gx
                 have gl : FrL I I31 := gx.l)
              | (have hCn : Cn I55 L s9 := by rw [hs9]; exact ⟨g21, g22, hflt.1, hflt.2⟩
                 have hTB : TbM I55 L tb := htb.lx gx
                 have gl : FrL I I55 := gx.l)
              | (obtain ⟨K, hK⟩ : ∃ K, K = wr I 97 13 (I 97 13 ||| (1 <<< (v17 &&& 31))) := ⟨_, rfl⟩
                 rw [← hK]
                 have hCn : Cn K L s9 := by rw [hs9, hK]; exact ⟨by rw [wr_sn (by decide)]; exact a21, by rw [wr_sn (by decide)]; exact a17, hEL.2⟩
                 have gl : FrL I K := by rw [hK]; exact ⟨fun z _ _ _ h4 _ _ => wr_sn h4, fun i h1 _ _ _ => wr_n h1⟩
                 have hTB : TbM K L tb := htb.fl gl
                 have hdK : DrM K (stF c D) := by
                   refine DrM_iff.mpr ⟨?_, ?_, ?_⟩
                   · rw [stF_d.1, stF_d.2, hK]
                     exact hdn.cg (wr_sn (by decide)) (wr_sn (by decide)) (wr_sn (by decide)) (wr_n (by decide)) (wr_n (by decide)) (wr_n (by decide))
                   · rw [hK, wr_ss, hv17]; exact tl_set htl hc3
                   · rw [stF_d.1, stF_d.2, hK, wr_sn (by decide)]; exact hhi
                 have hRf : (rdLine tb L D (tkK tb L p) (tkF tb L p) (tkE tb L p)) = pb (lnR tb L c (stF c D) (tkE tb L p)) (sgn tb L) := by rw [rdLine_t, hln]; show (if c = 4 ∧ 6 ≤ rN (dF D) then _ else if flD c D = true then _ else _) = _; rw [if_neg (fun h => by have := h6 h.1; omega), if_neg (by rw [hfl0]; decide)])
              | (obtain ⟨K, hK⟩ : ∃ K, K = wr I88 97 13 (I88 97 13 ||| (1 <<< (v17 &&& 31))) := ⟨_, rfl⟩
                 rw [← hK]
                 have hCn : Cn K L s9 := by
                   rw [hs9, hK, ← h88]
                   exact ⟨by rw [wr_sn (by decide), wr_sn (by decide), wr_ss]; rfl, by rw [wr_sn (by decide), wr_ss]; exact a18, (show 1 ≤ 4 by decide), (show 4 ≤ 8 by decide)⟩
                 have gl : FrL I K := by
                   rw [hK, ← h88]
                   exact ⟨fun z _ _ _ h4 _ h6 => by rw [wr_sn h4, wr_sn (by omega), wr_sn (by omega)], fun i h1 _ _ _ => by rw [wr_n h1, wr_n h1, wr_n h1]⟩
                 have hTB : TbM K L tb := htb.fl gl)
              | (have hCn : Cn I L s9 := by rw [hs9]; exact ⟨a21, a17, hEL.2⟩
                 have hTB : TbM I L tb := htb
                 have gl : FrL I I := ⟨fun _ _ _ _ _ _ _ => rfl, fun _ _ _ _ _ => rfl⟩
                 have hdK : DrM I (stF c D) := by rw [hsf]; exact hdr
                 have hRf : (rdLine tb L D (tkK tb L p) (tkF tb L p) (tkE tb L p)) = pb (lnR tb L c (stF c D) (tkE tb L p)) (sgn tb L) := by rw [rdLine_t, hln]; show (if c = 4 ∧ 6 ≤ rN (dF D) then _ else if flD c D = true then _ else _) = _; rw [if_neg (fun h => by have := h6 h.1; omega), if_neg (by rw [hfl0]; decide)])
              refine g_aload_n C (pc := 103) dX12_readLine_103 1 rfl ?_
              refine g_callVV C (pc := 104) mf_X12_next lk_RX12_163 (nxt_any (s := s9) hn9 hms hTB hCn) (by decide) (Nat.le_refl _) rfl (by first | assumption | rfl | omega) rfl (by first | assumption | rfl | omega) (Nat.le_of_ble_eq_true rfl) dX12_readLine_104 (fun I104 h104 => ?_)
              obtain ⟨s104, l104⟩ := h104
              refine g_aload_n C (pc := 107) dX12_readLine_107 1 rfl ?_
              refine g_getI C (pc := 108) fl_RX12_117 (by decide) (by first | assumption | rfl | omega) (by first | assumption | rfl | omega) dX12_readLine_108 ?_
              refine g_if_le C (pc := 111) 115 dX12_readLine_111 (by decide) (fun c111 => ?_) (fun c111 => ?_)
              · rw [hs9] at s104
                have hf104 : I104 97 21 = 0 := by
                  rcases s104.2 with ⟨-, h9⟩ | ⟨-, h9⟩
                  · exact absurd (FT.gt h9) (Int32.not_lt.mpr c111)
                  · exact h9.1
                obtain ⟨hp104, hk104⟩ : PT I104 tb L (tkE tb L p) ∧ tkK tb L (tkE tb L p) ≠ 0 := by
                  rcases s104.2 with ⟨-, h9⟩ | ⟨h8, h9⟩
                  · exact absurd hf104 (FT.pos h9)
                  · exact ⟨h9, h8⟩
                have htb104 : TbM I104 L tb := hTB.lx l104
                have hd104 : DrM I104 (stF c D) := by
                  obtain ⟨q1, q2, q3⟩ := DrM_iff.mp hdK
                  exact DrM_iff.mpr ⟨q1.ly l104.y, by rw [l104.1 13 (by decide)]; exact q2, by rw [l104.1 14 (by decide)]; exact q3⟩
                refine g_aload_n C (pc := 115) dX12_readLine_115 1 rfl ?_
                refine g_iload_n C (pc := 116) dX12_readLine_116 0 rfl ?_
                refine g_callVV C (pc := 117) mf_X12_readLineOf lk_RX12_185 (c_X12_readLineOf n ρ I104 L tb (tkE tb L p) c (stF c D) v17 hn9 hms htb104 hp104 hk104 hEL.2 hd104 hc5 hv17 (fun h9 => by rw [stF_d.1]; exact h6 h9)) (by decide) (Nat.le_refl _) rfl (by first | assumption | rfl | omega) rfl (by first | assumption | rfl | omega) (Nat.le_of_ble_eq_true rfl) dX12_readLine_117 (fun I117 h117 => ?_)
                obtain ⟨s117, d117, l117⟩ := h117
                refine g_aload_n C (pc := 120) dX12_readLine_120 1 rfl ?_
                refine g_getI C (pc := 121) fl_RX12_117 (by decide) (by first | assumption | rfl | omega) (by first | assumption | rfl | omega) dX12_readLine_121 ?_
                refine g_if_ne C (pc := 124) 145 dX12_readLine_124 (by decide) (fun c124 => ?_) (fun c124 => ?_)
                · obtain ⟨e9, he9, hft9⟩ := sx_f s117 c124
                  have hRe : (rdLine tb L D (tkK tb L p) (tkF tb L p) (tkE tb L p)) = .inl e9 := hRf.trans he9
                  have hCn2 : Cn I117 L (pb (rdLine tb L D (tkK tb L p) (tkF tb L p) (tkE tb L p)) lr) := by rw [hRe]; exact hft9
                  have hdf : ∀ J : Mem, J 97 21 = 0 → ∀ r, (rdLine tb L D (tkK tb L p) (tkF tb L p) (tkE tb L p)) = .inr r → DrM J r.1 := fun J _ r hr => by (rw [hRe] at hr; cases hr)
                  have gl2 : FrL I I117 := (gl.trans l104.l).trans l117
                  have hTB2 : TbM I117 L tb := htb.fl gl2
                  refine g_aload_n C (pc := 145) dX12_readLine_145 1 rfl ?_
                  refine g_callVV C (pc := 146) mf_X12_next lk_RX12_163 (nxt_any (s := pb (rdLine tb L D (tkK tb L p) (tkF tb L p) (tkE tb L p)) lr) hn9 hms hTB2 hCn2) (by decide) (Nat.le_refl _) rfl (by first | assumption | rfl | omega) rfl (by first | assumption | rfl | omega) (Nat.le_of_ble_eq_true rfl) dX12_readLine_146 (fun I146 h146 => ?_)
                  obtain ⟨s146, l146⟩ := h146
                  refine g_vret C hR (pc := 149) rfl dX12_readLine_149 ?_
                  refine ⟨rfl, rfl, ?_⟩
                  first
                  | exact ⟨s146, hdf _, gl2.trans l146.l⟩
                  | exact ⟨s146, hdf _ l146, gl2.trans l146.l⟩
                · obtain ⟨r9, hX9, hrL, hpt9, hk9⟩ := sx_r (R := lnR tb L c (stF c D) (tkE tb L p)) (k := fun r => r.2) s117 c124
                  have hRr : (rdLine tb L D (tkK tb L p) (tkF tb L p) (tkE tb L p)) = pb (rdSgn tb L r9.2) fun e => .inr (r9.1, e) := by rw [hRf, hX9]; rfl
                  have gl1 : FrL I I117 := (gl.trans l104.l).trans l117
                  refine g_aload_n C (pc := 127) dX12_readLine_127 1 rfl ?_
                  refine g_aload_n C (pc := 128) dX12_readLine_128 1 rfl ?_
                  refine g_getI C (pc := 129) fl_RX12_141 (by decide) (by first | assumption | rfl | omega) (by first | assumption | rfl | omega) dX12_readLine_129 ?_
                  refine g_iconst C (pc := 132) 3 dX12_readLine_132 (by decide) ?_
                  refine g_icmp_ne C (pc := 133) 140 dX12_readLine_133 (by decide) (fun c133 => ?_) (fun c133 => ?_)
                  · have hk3 : tkK tb L r9.2 ≠ 3 := fun h9 => c133 ((hpt9.sort 3 (by decide) (by decide)).mpr h9)
                    have hRe : (rdLine tb L D (tkK tb L p) (tkF tb L p) (tkE tb L p)) = .inl (2, tkF tb L r9.2) := by rw [hRr]; unfold rdSgn; rw [if_neg hk9, if_neg hk3]; rfl
                    refine g_iconst C (pc := 140) 0 dX12_readLine_140 (by decide) ?_
                    refine g_iconst C (pc := 141) 2 dX12_readLine_141 (by decide) ?_
                    refine g_callVV C (pc := 142) mf_X12_needs lk_RX12_155 (c_X12_needs n ρ I117 _ 2 hn9 hms) (by decide) (Nat.le_refl _) rfl (by first | assumption | rfl | omega) rfl (by first | assumption | rfl | omega) (Nat.le_of_ble_eq_true rfl) dX12_readLine_142 (fun I142 h142 => ?_)
                    obtain h142 := h142
                    first
                    | (rw [if_neg (fun h => absurd h.1 (by decide))] at h142
                       subst h142
                       have hCn2 : Cn I117 L (pb (rdLine tb L D (tkK tb L p) (tkF tb L p) (tkE tb L p)) lr) := by rw [hRe]; exact ⟨c124, hpt9.2.2.1, (tkE_le (tb := tb) hrL).2⟩
                       have hdf : ∀ J : Mem, Lx I117 J → J 97 21 = 0 → ∀ r, (rdLine tb L D (tkK tb L p) (tkF tb L p) (tkE tb L p)) = .inr r → DrM J r.1 := fun J hJ _ r hr => by
                         rw [hRe] at hr
                         cases hr
                         obtain ⟨q1, q2, q3⟩ := DrM_iff.mp (d117 c124 r9 hX9)
                         exact DrM_iff.mpr ⟨q1.ly hJ.y, by rw [hJ.1 13 (by decide)]; exact q2, by rw [hJ.1 14 (by decide)]; exact q3⟩
                       have gl2 : FrL I I117 := gl1
                       have hTB2 : TbM I117 L tb := htb.fl gl2)
                    | (rw [if_pos ⟨rfl, c124⟩] at h142
                       have hCn2 : Cn I142 L (pb (rdLine tb L D (tkK tb L p) (tkF tb L p) (tkE tb L p)) lr) := by
                         rw [hRe, ← h142]
                         exact ⟨by rw [wr_sn (by decide), wr_ss]; rfl, by rw [wr_ss]; exact hpt9.2.1, (show 1 ≤ 2 by decide), (show 2 ≤ 8 by decide)⟩
                       have hdf : ∀ J : Mem, J 97 21 = 0 → ∀ r, (rdLine tb L D (tkK tb L p) (tkF tb L p) (tkE tb L p)) = .inr r → DrM J r.1 := fun J _ r hr => by (rw [hRe] at hr; cases hr)
                       have gl2 : FrL I I142 := gl1.trans (by rw [← h142]; exact ((Lx.w (by decide) (by decide)).trans (Lx.w (by decide) (by decide))).l)
                       have hTB2 : TbM I142 L tb := htb.fl gl2)
                    refine g_aload_n C (pc := 145) dX12_readLine_145 1 rfl ?_
                    refine g_callVV C (pc := 146) mf_X12_next lk_RX12_163 (nxt_any (s := pb (rdLine tb L D (tkK tb L p) (tkF tb L p) (tkE tb L p)) lr) hn9 hms hTB2 hCn2) (by decide) (Nat.le_refl _) rfl (by first | assumption | rfl | omega) rfl (by first | assumption | rfl | omega) (Nat.le_of_ble_eq_true rfl) dX12_readLine_146 (fun I146 h146 => ?_)
                    obtain ⟨s146, l146⟩ := h146
                    refine g_vret C hR (pc := 149) rfl dX12_readLine_149 ?_
                    refine ⟨rfl, rfl, ?_⟩
                    first
                    | exact ⟨s146, hdf _, gl2.trans l146.l⟩
                    | exact ⟨s146, hdf _ l146, gl2.trans l146.l⟩
                  · have hk3 : tkK tb L r9.2 = 3 := (hpt9.sort 3 (by decide) (by decide)).mp c133
                    have hRe : (rdLine tb L D (tkK tb L p) (tkF tb L p) (tkE tb L p)) = .inr (r9.1, tkE tb L r9.2) := by rw [hRr]; unfold rdSgn; rw [if_neg hk9, if_pos hk3]; rfl
                    refine g_iconst C (pc := 136) 1 dX12_readLine_136 (by decide) ?_
                    refine g_goto C (pc := 137) 141 dX12_readLine_137 (by decide) ?_
                    refine g_iconst C (pc := 141) 2 dX12_readLine_141 (by decide) ?_
                    refine g_callVV C (pc := 142) mf_X12_needs lk_RX12_155 (c_X12_needs n ρ I117 _ 2 hn9 hms) (by decide) (Nat.le_refl _) rfl (by first | assumption | rfl | omega) rfl (by first | assumption | rfl | omega) (Nat.le_of_ble_eq_true rfl) dX12_readLine_142 (fun I142 h142 => ?_)
                    obtain h142 := h142
                    first
                    | (rw [if_neg (fun h => absurd h.1 (by decide))] at h142
                       subst h142
                       have hCn2 : Cn I117 L (pb (rdLine tb L D (tkK tb L p) (tkF tb L p) (tkE tb L p)) lr) := by rw [hRe]; exact ⟨c124, hpt9.2.2.1, (tkE_le (tb := tb) hrL).2⟩
                       have hdf : ∀ J : Mem, Lx I117 J → J 97 21 = 0 → ∀ r, (rdLine tb L D (tkK tb L p) (tkF tb L p) (tkE tb L p)) = .inr r → DrM J r.1 := fun J hJ _ r hr => by
                         rw [hRe] at hr
                         cases hr
                         obtain ⟨q1, q2, q3⟩ := DrM_iff.mp (d117 c124 r9 hX9)
                         exact DrM_iff.mpr ⟨q1.ly hJ.y, by rw [hJ.1 13 (by decide)]; exact q2, by rw [hJ.1 14 (by decide)]; exact q3⟩
                       have gl2 : FrL I I117 := gl1
                       have hTB2 : TbM I117 L tb := htb.fl gl2)
                    | (rw [if_pos ⟨rfl, c124⟩] at h142
                       have hCn2 : Cn I142 L (pb (rdLine tb L D (tkK tb L p) (tkF tb L p) (tkE tb L p)) lr) := by
                         rw [hRe, ← h142]
                         exact ⟨by rw [wr_sn (by decide), wr_ss]; rfl, by rw [wr_ss]; exact hpt9.2.1, (show 1 ≤ 2 by decide), (show 2 ≤ 8 by decide)⟩
                       have hdf : ∀ J : Mem, J 97 21 = 0 → ∀ r, (rdLine tb L D (tkK tb L p) (tkF tb L p) (tkE tb L p)) = .inr r → DrM J r.1 := fun J _ r hr => by (rw [hRe] at hr; cases hr)
                       have gl2 : FrL I I142 := gl1.trans (by rw [← h142]; exact ((Lx.w (by decide) (by decide)).trans (Lx.w (by decide) (by decide))).l)
                       have hTB2 : TbM I142 L tb := htb.fl gl2)
                    refine g_aload_n C (pc := 145) dX12_readLine_145 1 rfl ?_
                    refine g_callVV C (pc := 146) mf_X12_next lk_RX12_163 (nxt_any (s := pb (rdLine tb L D (tkK tb L p) (tkF tb L p) (tkE tb L p)) lr) hn9 hms hTB2 hCn2) (by decide) (Nat.le_refl _) rfl (by first | assumption | rfl | omega) rfl (by first | assumption | rfl | omega) (Nat.le_of_ble_eq_true rfl) dX12_readLine_146 (fun I146 h146 => ?_)
                    obtain ⟨s146, l146⟩ := h146
                    refine g_vret C hR (pc := 149) rfl dX12_readLine_149 ?_
                    refine ⟨rfl, rfl, ?_⟩
                    first
                    | exact ⟨s146, hdf _, gl2.trans l146.l⟩
                    | exact ⟨s146, hdf _ l146, gl2.trans l146.l⟩
              · skip
                refine g_vret C hR (pc := 114) rfl dX12_readLine_114 ?_
                refine ⟨rfl, rfl, ?_⟩
                first
                | (rw [hs9] at s104
                   exact ⟨by rw [hR0]; exact s104, fun _ r hr => by (rw [hR0] at hr; cases hr), gl.trans l104.l⟩)
                | (have hp1 := s104
                   rw [hs9] at hp1
                   have hF0 : tkK tb L (tkE tb L p) = 0 ∧ FT I104 (1, tkF tb L (tkE tb L p)) := by
                     rcases hp1.2 with h9 | ⟨-, h9⟩
                     · exact h9
                     · exfalso; rw [h9.1] at c111; exact absurd c111 (by decide)
                   have hRe : (rdLine tb L D (tkK tb L p) (tkF tb L p) (tkE tb L p)) = .inl (1, tkF tb L (tkE tb L p)) := by rw [hRf, lnR_0 hc5 hF0.1]; rfl
                   exact ⟨by rw [hRe]; exact hF0.2, fun h9 => absurd h9 (FT.pos hF0.2), gl.trans l104.l⟩)
            · rw [hv17, hc4] at c67; exact absurd c67 (by decide)
