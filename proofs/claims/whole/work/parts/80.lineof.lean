theorem bind_g {α β : Type} {R : PRs α} {f : α → PRs β} {q : β} (h : pb R f = .inr q) : ∃ p, R = .inr p ∧ f p = .inr q := by
  cases R with
  | inl e => cases h
  | inr p => exact ⟨p, rfl, h⟩
def LnO (tb : Nat → Nat) (L : Nat) (R : PRs (DT × Nat)) (I I1 : Mem) : Prop := Sx I1 tb L (pb R lr) ∧ (I1 97 21 = 0 → ∀ r, R = .inr r → DrM I1 r.1) ∧ FrL I I1
theorem fin0 {I I36 I46 : Mem} {tb : Nat → Nat} {L p : Nat} {D : DT} {v36 v46 : Int32} (hp : p ≤ L) (hdr : DrM I D) (s46 : Sx I46 tb L (pb (pb (pb (pb (.inr p) (rdNum tb L 2 5)) nd) (rdNum tb L 2 5)) nd)) (n36 : ∀ q, pb (.inr p) (rdNum tb L 2 5) = .inr q → v36 = nI q.1) (n46 : ∀ q, pb (pb (pb (.inr p) (rdNum tb L 2 5)) nd) (rdNum tb L 2 5) = .inr q → v46 = nI q.1) (l36 : Lx I I36) (l46 : Lx (wr I36 97 8 v36) I46) : LnO tb L (lnR tb L 0 D p) I (wr I46 97 9 v46) := by
  have y : ∀ z, z ≠ 8 → z ≠ 9 → z < 17 ∨ 22 < z → wr I46 97 9 v46 97 z = I 97 z := fun z h8 h9 hz => by rw [wr_sn h9, l46.1 z hz, wr_sn h8, l36.1 z hz]
  have yn : ∀ i, i ≠ 97 → wr I46 97 9 v46 i = I i := fun i hi => by rw [wr_n hi, l46.2 i hi, wr_n hi, l36.2 i hi]
  refine ⟨?_, fun _ r hr => ?_, ⟨fun z h8 h9 _ _ _ hz => y z h8 h9 hz, fun i h1 _ _ _ => yn i h1⟩⟩
  · have e : pb (lnR tb L 0 D p) lr = pb (pb (pb (pb (.inr p) (rdNum tb L 2 5)) nd) (rdNum tb L 2 5)) nd := by
      show pb (pb (rdNum tb L 2 5 p) _) lr = pb (pb (pb (rdNum tb L 2 5 p) nd) (rdNum tb L 2 5)) nd
      cases rdNum tb L 2 5 p with
      | inl e => rfl
      | inr w =>
        show pb (pb (rdNum tb L 2 5 w.2.2) _) lr = pb (rdNum tb L 2 5 w.2.2) nd
        cases rdNum tb L 2 5 w.2.2 with
        | inl e => rfl
        | inr h => rfl
    rw [e]; exact s46.cg (fun z h1 h2 => wr_sn (by omega))
  · replace hr : pb (rdNum tb L 2 5 p) (fun w => pb (rdNum tb L 2 5 w.2.2) fun h => .inr ((stW (dF D) w.1 h.1, dB D, dBd D, dOd D, dTn D), h.2.2)) = .inr r := hr
    obtain ⟨w, h1, hr⟩ := bind_g hr
    obtain ⟨h, h2, hr⟩ := bind_g hr
    cases hr
    have hv1 := n36 w h1
    have hv2 := n46 h (by show pb (pb (rdNum tb L 2 5 p) nd) (rdNum tb L 2 5) = .inr h; rw [h1]; exact h2)
    obtain ⟨a1, a2, -, a4⟩ := rdNum_ok hp h1
    obtain ⟨b1, b2, -, -⟩ := rdNum_ok a4 h2
    obtain ⟨hdn, htl, hhi⟩ := DrM_iff.mp hdr
    obtain ⟨hrw, hbw, ⟨hW8, hH9, hN10⟩, hpc, hst, hod, ht18⟩ := hdn
    obtain ⟨f1, f2, f3, f4, f5⟩ := hrw
    refine DrM_iff.mpr ⟨⟨⟨a1, a2, b1, b2, f5⟩, hbw, ⟨?_, ?_, ?_⟩, fun z hz => ?_, fun i hi => ?_, fun w9 hw => ?_, ?_⟩, ?_, ?_⟩
    · rw [wr_sn (by decide), l46.1 8 (by decide), wr_ss]; exact hv1
    · rw [wr_ss]; exact hv2
    · rw [y 10 (by decide) (by decide) (by decide)]; exact hN10
    · rw [yn 103 (by decide), yn 104 (by decide), yn 102 (by decide)]; exact hpc z hz
    · rw [yn 102 (by decide)]; exact hst i hi
    · rw [yn 102 (by decide)]; exact hod w9 hw
    · rw [yn 102 (by decide)]; exact ht18
    · rw [y 13 (by decide) (by decide) (by decide)]; exact htl
    · rw [y 14 (by decide) (by decide) (by decide)]; exact hhi
theorem fin1 {I I1 : Mem} {tb : Nat → Nat} {L p : Nat} {D : DT} (hdr : DrM I D) (s1 : Sx I1 tb L (pb (odT tb L (rOd (dF D)) 0 p) no)) (n1 : ∀ q, odT tb L (rOd (dF D)) 0 p = .inr q → ∀ w, w < 5 → I1 102 (13 + w) = nI (q.1 w) ∧ q.1 w ≤ 9) (z1 : ∀ z, z < 17 ∨ 22 < z → I1 97 z = I 97 z) (f1 : ∀ i, i ≠ 97 → i ≠ 102 → I1 i = I i) (o1 : ∀ z, z < 13 ∨ 18 ≤ z → I1 102 z = I 102 z) : LnO tb L (lnR tb L 1 D p) I I1 := by
  refine ⟨?_, fun _ r hr => ?_, ⟨fun z _ _ _ _ _ hz => z1 z hz, fun i h1 h2 _ _ => f1 i h1 h2⟩⟩
  · have e : pb (lnR tb L 1 D p) lr = pb (odT tb L (rOd (dF D)) 0 p) no := by
      show pb (pb (odT tb L (rOd (dF D)) 0 p) _) lr = _
      cases odT tb L (rOd (dF D)) 0 p with
      | inl e => rfl
      | inr w => rfl
    rw [e]; exact s1
  · replace hr : pb (odT tb L (rOd (dF D)) 0 p) (fun q => .inr ((stO (dF D) q.1, dB D, dBd D, dOd D, dTn D), q.2.2)) = .inr r := hr
    obtain ⟨q, h1, hr⟩ := bind_g hr
    cases hr
    have hv := n1 q h1
    obtain ⟨hdn, htl, hhi⟩ := DrM_iff.mp hdr
    obtain ⟨hrw, hbw, ⟨hW8, hH9, hN10⟩, hpc, hst, hod, ⟨t1, t2, t3, t4⟩⟩ := hdn
    obtain ⟨g1, g2, g3, g4, g5, g6, g7, g8⟩ := hrw
    refine DrM_iff.mpr ⟨⟨⟨g1, g2, g3, g4, g5, g6, fun w hw => (hv w hw).2, g8⟩, hbw, ⟨?_, ?_, ?_⟩, fun z hz => ?_, fun i hi => ?_, fun w9 hw => (hv w9 hw).1, ?_, ?_, ?_, ?_⟩, ?_, ?_⟩
    · rw [z1 8 (by decide)]; exact hW8
    · rw [z1 9 (by decide)]; exact hH9
    · rw [z1 10 (by decide)]; exact hN10
    · have h9 : z < 6 := Nat.lt_of_lt_of_le hz g5
      rw [f1 103 (by decide) (by decide), f1 104 (by decide) (by decide), o1 z (by omega), o1 (6 + z) (by omega)]; exact hpc z hz
    · rw [o1 12 (by decide)]; exact hst i hi
    · rw [o1 18 (by decide)]; exact t1
    · rw [o1 19 (by decide)]; exact t2
    · rw [o1 20 (by decide)]; exact t3
    · rw [o1 37 (by decide)]; exact t4
    · rw [z1 13 (by decide)]; exact htl
    · rw [z1 14 (by decide)]; exact hhi
theorem fin2 {I I1 : Mem} {tb : Nat → Nat} {L p : Nat} {D : DT} {v : Int32} (hp : p ≤ L) (hdr : DrM I D) (s1 : Sx I1 tb L (pb (pb (.inr p) (rdNum tb L 0 1)) nd)) (n1 : ∀ q, pb (.inr p) (rdNum tb L 0 1) = .inr q → v = nI q.1) (l1 : Lx I I1) : LnO tb L (lnR tb L 2 D p) I (wr I1 102 18 v) := by
  have y : ∀ z, z < 17 ∨ 22 < z → wr I1 102 18 v 97 z = I 97 z := fun z hz => by rw [wr_n (by decide), l1.1 z hz]
  have yn : ∀ i, i ≠ 97 → i ≠ 102 → wr I1 102 18 v i = I i := fun i hi h2 => by rw [wr_n h2, l1.2 i hi]
  have yo : ∀ z, z ≠ 18 → wr I1 102 18 v 102 z = I 102 z := fun z hz => by rw [wr_sn hz, l1.2 102 (by decide)]
  refine ⟨?_, fun _ r hr => ?_, ⟨fun z _ _ _ _ _ hz => y z hz, fun i h1 h2 _ _ => yn i h1 h2⟩⟩
  · have e : pb (lnR tb L 2 D p) lr = pb (pb (.inr p) (rdNum tb L 0 1)) nd := by
      show pb (pb (rdNum tb L 0 1 p) _) lr = pb (rdNum tb L 0 1 p) nd
      cases rdNum tb L 0 1 p with
      | inl e => rfl
      | inr w => rfl
    rw [e]; exact s1.cg (fun z _ _ => by rw [wr_n (by decide)])
  · replace hr : pb (rdNum tb L 0 1 p) (fun s => .inr ((dF D, stM (dB D) s.1, dBd D, dOd D, dTn D), s.2.2)) = .inr r := hr
    obtain ⟨q, h1, hr⟩ := bind_g hr
    cases hr
    have hv := n1 q h1
    obtain ⟨-, a2, -, -⟩ := rdNum_ok hp h1
    obtain ⟨hdn, htl, hhi⟩ := DrM_iff.mp hdr
    obtain ⟨hrw, hbw, ⟨hW8, hH9, hN10⟩, hpc, hst, hod, ⟨t1, t2, t3, t4⟩⟩ := hdn
    have hn6 : rN (dF D) ≤ 6 := hrw.2.2.2.2.1
    refine DrM_iff.mpr ⟨⟨hrw, ⟨by show q.1 < 2; omega, hbw.2⟩, ⟨?_, ?_, ?_⟩, fun z hz => ?_, fun i hi => ?_, fun w9 hw => ?_, ?_, ?_, ?_, ?_⟩, ?_, ?_⟩
    · rw [y 8 (by decide)]; exact hW8
    · rw [y 9 (by decide)]; exact hH9
    · rw [y 10 (by decide)]; exact hN10
    · replace hz : z < rN (dF D) := hz
      rw [yn 103 (by decide) (by decide), yn 104 (by decide) (by decide), yo z (by omega), yo (6 + z) (by omega)]; exact hpc z hz
    · rw [yo 12 (by decide)]; exact hst i hi
    · rw [yo (13 + w9) (by omega)]; exact hod w9 hw
    · rw [wr_ss]; exact hv
    · rw [yo 19 (by decide)]; exact t2
    · rw [yo 20 (by decide)]; exact t3
    · rw [yo 37 (by decide)]; exact t4
    · rw [y 13 (by decide)]; exact htl
    · rw [y 14 (by decide)]; exact hhi
theorem fin3 {I I1 : Mem} {tb : Nat → Nat} {L p : Nat} {D : DT} {v w : Int32} (hp : p ≤ L) (hdr : DrM I D) (s1 : Sx I1 tb L (pb (pb (.inr p) (rdFree tb L D)) nd)) (n1 : ∀ q, pb (.inr p) (rdFree tb L D) = .inr q → v = nI q.1 ∧ I1 97 14 = (if I 97 14 < nI q.1 then nI q.1 else I 97 14)) (l1 : Ly I I1) (hw : I1 97 21 = 0 → w = 1 <<< (v &&& 31)) : LnO tb L (lnR tb L 3 D p) I (wr I1 102 12 (I1 102 12 ||| w)) := by
  have y : ∀ z, z ≠ 14 → z < 17 ∨ 22 < z → wr I1 102 12 (I1 102 12 ||| w) 97 z = I 97 z := fun z h hz => by rw [wr_n (by decide), l1.1 z h hz]
  have yn : ∀ i, i ≠ 97 → i ≠ 102 → wr I1 102 12 (I1 102 12 ||| w) i = I i := fun i hi h2 => by rw [wr_n h2, l1.2 i hi]
  have yo : ∀ z, z ≠ 12 → wr I1 102 12 (I1 102 12 ||| w) 102 z = I 102 z := fun z hz => by rw [wr_sn hz, l1.2 102 (by decide)]
  refine ⟨?_, fun hf r hr => ?_, ⟨fun z _ _ _ _ h hz => y z h hz, fun i h1 h2 _ _ => yn i h1 h2⟩⟩
  · have e : pb (lnR tb L 3 D p) lr = pb (pb (.inr p) (rdFree tb L D)) nd := by
      show pb (pb (rdFree tb L D p) _) lr = pb (rdFree tb L D p) nd
      cases rdFree tb L D p with
      | inl e => rfl
      | inr w => rfl
    rw [e]; exact s1.cg (fun z _ _ => by rw [wr_n (by decide)])
  · replace hr : pb (rdFree tb L D p) (fun q => .inr ((stS (dF D) (fun i => rS (dF D) i || decide (i = q.1)), dB D, dBd D, dOd D, dTn D), q.2.2)) = .inr r := hr
    obtain ⟨q, h1, hr⟩ := bind_g hr
    cases hr
    obtain ⟨hv, h14⟩ := n1 q h1
    obtain ⟨a2, -, -, -, -⟩ := rdFree_ok hp h1
    rw [wr_n (by decide)] at hf
    have hw9 := hw hf
    obtain ⟨hdn, htl, hhi⟩ := DrM_iff.mp hdr
    obtain ⟨hrw, hbw, ⟨hW8, hH9, hN10⟩, hpc, hst, hod, ⟨t1, t2, t3, t4⟩⟩ := hdn
    have hn6 : rN (dF D) ≤ 6 := hrw.2.2.2.2.1
    obtain ⟨g1, g2, g3, g4, g5, g6, g7, g8⟩ := id hrw
    refine DrM_iff.mpr ⟨⟨⟨g1, g2, g3, g4, g5, g6, g7, fun i hi => ?_⟩, hbw, ⟨?_, ?_, ?_⟩, fun z hz => ?_, fun i hi => ?_, fun w9 hw => ?_, ?_, ?_, ?_, ?_⟩, ?_, ?_⟩
    · replace hi : (rS (dF D) i || decide (i = q.1)) = true := hi
      rw [Bool.or_eq_true, decide_eq_true_eq] at hi
      rcases hi with h | h
      · exact g8 i h
      · omega
    · rw [y 8 (by decide) (by decide)]; exact hW8
    · rw [y 9 (by decide) (by decide)]; exact hH9
    · rw [y 10 (by decide) (by decide)]; exact hN10
    · replace hz : z < rN (dF D) := hz
      rw [yn 103 (by decide) (by decide), yn 104 (by decide) (by decide), yo z (by omega), yo (6 + z) (by omega)]; exact hpc z hz
    · rw [wr_ss, b_or, l1.2 102 (by decide), hst i hi, hw9, bit_at (q := q.1) (by omega) hv hi]
      show _ = (rS (dF D) i || decide (i = q.1))
      congr 1
      by_cases h9 : i = q.1
      · rw [decide_eq_true h9, h9]; exact beq_self_eq_true _
      · rw [decide_eq_false h9]
        simpa using fun h8 => h9 h8.symm
    · rw [yo (13 + w9) (by omega)]; exact hod w9 hw
    · rw [yo 18 (by decide)]; exact t1
    · rw [yo 19 (by decide)]; exact t2
    · rw [yo 20 (by decide)]; exact t3
    · rw [yo 37 (by decide)]; exact t4
    · rw [y 13 (by decide) (by decide)]; exact htl
    · rw [wr_n (by decide), h14]
      exact hi_up hhi (by omega) (fun i => use_st) rfl
set_option maxHeartbeats 1600000 in
theorem c_X12_readLineOf (n : Nat) (ρ : Rho) (I : Mem) (L : Nat) (tb : Nat → Nat) (p c : Nat) (D : DT) (x : Int32) (hn9 : n ≤ 999) (hms : MS n ρ) (htb : TbM I L tb) (hpt : PT I tb L p) (hk0 : tkK tb L p ≠ 0) (hp : p ≤ L) (hdr : DrM I D) (hc5 : c < 5) (hx : x = nI c) (hc4 : c = 4 → rN (dF D) < 6) : MV yX12_readLineOf cX12_readLineOf 3 none 4 [.ref 97, .int x] n ρ I (fun I1 => LnO tb L (lnR tb L c D p) I I1) := by
  refine MG.of (by decide +kernel) (Nat.le_of_ble_eq_true rfl) hn9 ?_
  intro κ C hR
  show G κ n ρ 0 [(0, .ref 97), (1, .int x)] [] I
  obtain ⟨mn, ⟨m0, m1, m5, m6, m7, m11, m12, m15⟩, ⟨m23, m24, m26, m27, m28, m30, m31, m32, m33⟩, ⟨m38, m39, m40, m42⟩⟩ := id hms
  have htt : ∀ p, p < L → tb p < 256 := fun p hp => (htb.2.2 p hp).2
  have hL3 := htb.2.1
  obtain ⟨hdn, htl, hhi⟩ := DrM_iff.mp hdr
  obtain ⟨hrw, hbw, ⟨hW8, hH9, hN10⟩, hpc, hst, hod, ht18⟩ := id hdn
  have hn6 : rN (dF D) ≤ 6 := hrw.2.2.2.2.1
  obtain ⟨a21, a18, a17, a19, a20⟩ := id hpt
  have hEL := tkE_le (tb := tb) hp
  have hFL := tkF_le (tb := tb) hp
  refine g_iload_n C (pc := 0) dX12_readLineOf_0 1 rfl ?_
  refine g_tsw C (pc := 1) dX12_readLineOf_1 (by decide) (by decide) (by decide) (by decide) (swK_cons (fun c1_0 => ?_) (swK_cons (fun c1_1 => ?_) (swK_cons (fun c1_2 => ?_) (swK_cons (fun c1_3 => ?_) swK_nil)))) (fun c1_d => ?_)
  · show G κ n ρ 32 _ _ _
    have hce : c = 0 := (nI_eq (b := 0) (by omega) (by decide)).mp (hx.symm.trans c1_0)
    subst hce
    refine g_aload_n C (pc := 32) dX12_readLineOf_32 0 rfl ?_
    refine g_aload_n C (pc := 33) dX12_readLineOf_33 0 rfl ?_
    refine g_iconst C (pc := 34) 2 dX12_readLineOf_34 (by decide) ?_
    refine g_iconst C (pc := 35) 5 dX12_readLineOf_35 (by decide) ?_
    refine g_callVI C (pc := 36) mf_X12_readNumber lk_RX12_170 (c_X12_readNumber n ρ I L tb (.inr p) 2 5 _ _ hn9 hms htb (hpt.sx hk0 hp) rfl rfl (by decide) (by decide)) (by decide) (Nat.le_refl _) rfl (by first | assumption | rfl | omega) rfl (by first | assumption | rfl | omega) (Nat.le_of_ble_eq_true rfl) dX12_readLineOf_36 (fun v36 I36 h36 => ?_)
    obtain ⟨s36, n36, l36⟩ := h36
    refine g_putI C (pc := 39) fl_RX12_83 (by decide) fp_11_8 (Or.inl rfl) ⟨rfl, rfl⟩ (by first | assumption | rfl | omega) (by first | assumption | rfl | omega) hn9 dX12_readLineOf_39 ?_
    refine g_aload_n C (pc := 42) dX12_readLineOf_42 0 rfl ?_
    refine g_aload_n C (pc := 43) dX12_readLineOf_43 0 rfl ?_
    refine g_iconst C (pc := 44) 2 dX12_readLineOf_44 (by decide) ?_
    refine g_iconst C (pc := 45) 5 dX12_readLineOf_45 (by decide) ?_
    refine g_callVI C (pc := 46) mf_X12_readNumber lk_RX12_170 (c_X12_readNumber n ρ _ L tb (pb (pb (.inr p) (rdNum tb L 2 5)) nd) 2 5 _ _ hn9 hms ((htb.lx l36).cg (wr_sn (by decide)) (wr_n (by decide))) (s36.cg (fun z _ _ => wr_sn (by omega))) rfl rfl (by decide) (by decide)) (by decide) (Nat.le_refl _) rfl (by first | assumption | rfl | omega) rfl (by first | assumption | rfl | omega) (Nat.le_of_ble_eq_true rfl) dX12_readLineOf_46 (fun v46 I46 h46 => ?_)
    obtain ⟨s46, n46, l46⟩ := h46
    refine g_putI C (pc := 49) fl_RX12_87 (by decide) fp_11_9 (Or.inl rfl) ⟨rfl, rfl⟩ (by first | assumption | rfl | omega) (by first | assumption | rfl | omega) hn9 dX12_readLineOf_49 ?_
    refine g_goto C (pc := 52) 114 dX12_readLineOf_52 (by decide) ?_
    refine g_vret C hR (pc := 114) rfl dX12_readLineOf_114 ?_
    refine ⟨rfl, rfl, ?_⟩
    first
    | exact fin0 hp hdr s46 n36 n46 l36 l46
    | exact fin1 hdr s56 n56 z56 f56 o56
    | exact fin2 hp hdr s71 n71 l71
    | exact fin3 hp hdr s79 n79 l79 (fun h9 => absurd h9 c95)
    | (rw [ev82]; exact fin3 hp hdr s79 n79 l79 (fun _ => rfl))
    | (subst hce; exact ⟨s111, d111, l111⟩)
  · show G κ n ρ 55 _ _ _
    have hce : c = 1 := (nI_eq (b := 1) (by omega) (by decide)).mp (hx.symm.trans c1_1)
    subst hce
    refine g_aload_n C (pc := 55) dX12_readLineOf_55 0 rfl ?_
    refine g_callVV C (pc := 56) mf_X12_readOdds lk_RX12_176 (c_X12_readOdds n ρ I L tb (rOd (dF D)) 0 p hn9 hms htb (hpt.sx hk0 hp)) (by decide) (Nat.le_refl _) rfl (by first | assumption | rfl | omega) rfl (by first | assumption | rfl | omega) (Nat.le_of_ble_eq_true rfl) dX12_readLineOf_56 (fun I56 h56 => ?_)
    obtain ⟨s56, n56, z56, f56, o56⟩ := h56
    refine g_goto C (pc := 59) 114 dX12_readLineOf_59 (by decide) ?_
    refine g_vret C hR (pc := 114) rfl dX12_readLineOf_114 ?_
    refine ⟨rfl, rfl, ?_⟩
    first
    | exact fin0 hp hdr s46 n36 n46 l36 l46
    | exact fin1 hdr s56 n56 z56 f56 o56
    | exact fin2 hp hdr s71 n71 l71
    | exact fin3 hp hdr s79 n79 l79 (fun h9 => absurd h9 c95)
    | (rw [ev82]; exact fin3 hp hdr s79 n79 l79 (fun _ => rfl))
    | (subst hce; exact ⟨s111, d111, l111⟩)
  · show G κ n ρ 62 _ _ _
    have hce : c = 2 := (nI_eq (b := 2) (by omega) (by decide)).mp (hx.symm.trans c1_2)
    subst hce
    refine g_aload_n C (pc := 62) dX12_readLineOf_62 0 rfl ?_
    refine g_getR C (pc := 63) fl_RX12_23 (by decide) (by first | assumption | rfl | omega) (by first | assumption | rfl | omega) (by first | assumption | rfl | omega) dX12_readLineOf_63 ?_
    refine g_bipush C (pc := 66) 18 dX12_readLineOf_66 (by decide) ?_
    refine g_aload_n C (pc := 68) dX12_readLineOf_68 0 rfl ?_
    refine g_iconst C (pc := 69) 0 dX12_readLineOf_69 (by decide) ?_
    refine g_iconst C (pc := 70) 1 dX12_readLineOf_70 (by decide) ?_
    refine g_callVI C (pc := 71) mf_X12_readNumber lk_RX12_170 (c_X12_readNumber n ρ I L tb (.inr p) 0 1 _ _ hn9 hms htb (hpt.sx hk0 hp) rfl rfl (by decide) (by decide)) (by decide) (Nat.le_refl _) rfl (by first | assumption | rfl | omega) rfl (by first | assumption | rfl | omega) (Nat.le_of_ble_eq_true rfl) dX12_readLineOf_71 (fun v71 I71 h71 => ?_)
    obtain ⟨s71, n71, l71⟩ := h71
    refine g_iast C (pc := 74) (by first | assumption | rfl | omega) (by first | assumption | rfl | omega) hn9 (vp_in_nI (n := 18) (by decide) (by decide)) dX12_readLineOf_74 ?_
    refine g_goto C (pc := 75) 114 dX12_readLineOf_75 (by decide) ?_
    refine g_vret C hR (pc := 114) rfl dX12_readLineOf_114 ?_
    refine ⟨rfl, rfl, ?_⟩
    first
    | exact fin0 hp hdr s46 n36 n46 l36 l46
    | exact fin1 hdr s56 n56 z56 f56 o56
    | exact fin2 hp hdr s71 n71 l71
    | exact fin3 hp hdr s79 n79 l79 (fun h9 => absurd h9 c95)
    | (rw [ev82]; exact fin3 hp hdr s79 n79 l79 (fun _ => rfl))
    | (subst hce; exact ⟨s111, d111, l111⟩)
  · show G κ n ρ 78 _ _ _
    have hce : c = 3 := (nI_eq (b := 3) (by omega) (by decide)).mp (hx.symm.trans c1_3)
    subst hce
    refine g_aload_n C (pc := 78) dX12_readLineOf_78 0 rfl ?_
    refine g_callVI C (pc := 79) mf_X12_readFree lk_RX12_173 (c_X12_readFree n ρ I L tb (.inr p) D hn9 hms htb (hpt.sx hk0 hp) hdn) (by decide) (Nat.le_refl _) rfl (by first | assumption | rfl | omega) rfl (by first | assumption | rfl | omega) (Nat.le_of_ble_eq_true rfl) dX12_readLineOf_79 (fun v79 I79 h79 => ?_)
    obtain ⟨s79, n79, l79⟩ := h79
    refine g_istore_n C (pc := 82) dX12_readLineOf_82 (by decide) (fun v82 => [(2, .int v82), (0, .ref 97), (1, .int x)]) (fun _ => rfl) (fun v82 ev82 => ?_)
    refine g_aload_n C (pc := 83) dX12_readLineOf_83 1 rfl ?_
    refine g_getR C (pc := 84) fl_RX12_23 (by decide) (by first | assumption | rfl | omega) (by first | assumption | rfl | omega) (by first | assumption | rfl | omega) dX12_readLineOf_84 ?_
    refine g_bipush C (pc := 87) 12 dX12_readLineOf_87 (by decide) ?_
    refine g_dup2 C (pc := 89) dX12_readLineOf_89 rfl rfl ?_
    refine g_iald C (pc := 90) (by first | assumption | rfl | omega) (by first | assumption | rfl | omega) (vp_in_nI (n := 12) (by decide) (by decide)) dX12_readLineOf_90 ?_
    refine g_aload_n C (pc := 91) dX12_readLineOf_91 1 rfl ?_
    refine g_getI C (pc := 92) fl_RX12_117 (by decide) (by first | assumption | rfl | omega) (by first | assumption | rfl | omega) dX12_readLineOf_92 ?_
    refine g_if_ne C (pc := 95) 104 dX12_readLineOf_95 (by decide) (fun c95 => ?_) (fun c95 => ?_)
    · refine g_iconst C (pc := 104) 0 dX12_readLineOf_104 (by decide) ?_
      refine g_ior C (pc := 105) dX12_readLineOf_105 ?_
      refine g_iast C (pc := 106) (by first | assumption | rfl | omega) (by first | assumption | rfl | omega) hn9 (vp_in_nI (n := 12) (by decide) (by decide)) dX12_readLineOf_106 ?_
      refine g_goto C (pc := 107) 114 dX12_readLineOf_107 (by decide) ?_
      refine g_vret C hR (pc := 114) rfl dX12_readLineOf_114 ?_
      refine ⟨rfl, rfl, ?_⟩
      first
      | exact fin0 hp hdr s46 n36 n46 l36 l46
      | exact fin1 hdr s56 n56 z56 f56 o56
      | exact fin2 hp hdr s71 n71 l71
      | exact fin3 hp hdr s79 n79 l79 (fun h9 => absurd h9 c95)
      | (rw [ev82]; exact fin3 hp hdr s79 n79 l79 (fun _ => rfl))
      | (subst hce; exact ⟨s111, d111, l111⟩)
    · refine g_iconst C (pc := 98) 1 dX12_readLineOf_98 (by decide) ?_
      refine g_iload_n C (pc := 99) dX12_readLineOf_99 0 rfl ?_
      refine g_ishl C (pc := 100) dX12_readLineOf_100 ?_
      refine g_goto C (pc := 101) 105 dX12_readLineOf_101 (by decide) ?_
      refine g_ior C (pc := 105) dX12_readLineOf_105 ?_
      refine g_iast C (pc := 106) (by first | assumption | rfl | omega) (by first | assumption | rfl | omega) hn9 (vp_in_nI (n := 12) (by decide) (by decide)) dX12_readLineOf_106 ?_
      refine g_goto C (pc := 107) 114 dX12_readLineOf_107 (by decide) ?_
      refine g_vret C hR (pc := 114) rfl dX12_readLineOf_114 ?_
      refine ⟨rfl, rfl, ?_⟩
      first
      | exact fin0 hp hdr s46 n36 n46 l36 l46
      | exact fin1 hdr s56 n56 z56 f56 o56
      | exact fin2 hp hdr s71 n71 l71
      | exact fin3 hp hdr s79 n79 l79 (fun h9 => absurd h9 c95)
      | (rw [ev82]; exact fin3 hp hdr s79 n79 l79 (fun _ => rfl))
      | (subst hce; exact ⟨s111, d111, l111⟩)
  · show G κ n ρ 110 _ _ _
    have hce : c = 4 := by
      rw [hx] at c1_d
      rcases c1_d with h8 | h8
      · exact absurd h8 (nI_pos (by omega))
      · have := (nI_leI (a := 4) (by decide) (by omega)).mp h8
        omega
    refine g_aload_n C (pc := 110) dX12_readLineOf_110 0 rfl ?_
    refine g_callVV C (pc := 111) mf_X12_readPiece lk_RX12_179 (c_X12_readPiece n ρ I L tb p D hn9 hms htb hpt hk0 hp hdr (hc4 hce)) (by decide) (Nat.le_refl _) rfl (by first | assumption | rfl | omega) rfl (by first | assumption | rfl | omega) (Nat.le_of_ble_eq_true rfl) dX12_readLineOf_111 (fun I111 h111 => ?_)
    obtain ⟨s111, d111, l111⟩ := h111
    refine g_vret C hR (pc := 114) rfl dX12_readLineOf_114 ?_
    refine ⟨rfl, rfl, ?_⟩
    first
    | exact fin0 hp hdr s46 n36 n46 l36 l46
    | exact fin1 hdr s56 n56 z56 f56 o56
    | exact fin2 hp hdr s71 n71 l71
    | exact fin3 hp hdr s79 n79 l79 (fun h9 => absurd h9 c95)
    | (rw [ev82]; exact fin3 hp hdr s79 n79 l79 (fun _ => rfl))
    | (subst hce; exact ⟨s111, d111, l111⟩)
