section GA
variable {κ : Kap} {y : MethodName} {cc : ByteArray} {nL d n1 n : Nat} {ρ : Rho} {pc : Nat} {lv : List (Nat × Value)} {st : List Value} {I : Mem} {P : Option Value → Rho → Mem → Prop}
variable {y' : MethodName} {cc' : ByteArray} {nL' d' k idx cnt : Nat} {ret' : Option FieldType}
/-- a call of an abstract method -/
def LinkA (own : String) (idx : Nat) (y : MethodName) : Prop := Cond.methodLink own idx declN ∈ GW ∧ Cond.sameMethod declN.cls declN.cls declN.name declN.desc ∈ GW ∧ Cond.selects y.cls declN y ∈ GW ∧ Cond.instanceMethod y ∈ GW
theorem g_callA (C : Cx κ y cc nL d n1) (hM : MF y' cc' nL' ret' cnt) (hL : LinkA y.cls idx y') (hds : (parseMethodDescriptor declN.desc).map (fun d => d.parameters.length) = some cnt) {i c N : Nat} {As : List Value} (hc : MG y' cc' nL' ret' d' k (.ref i :: As) n ρ I P) (hd : d' < d) (hk : n + k ≤ n1) (hn : As.length = cnt) (hs : shp i = (c + 10, N)) (hcl : (vwCl[c]?).map (fun q => q.1) = some y'.cls) (hi : i < n) (hst : (st.map fun v => v.category).sum ≤ 8) (dg : decode cc pc = .ok (.invokevirtual idx, 3))
    (K : ∀ (r : Option Value) (ρ' : Rho) (I' : Mem), P r ρ' I' → G κ (n + k) ρ' (pc + 3) lv (r.toList ++ st) I') : G κ n ρ pc lv (As.reverse ++ .ref i :: st) I := by
  obtain ⟨p, l, e, R, s, m, args, below, meth, cd, Q, dC, dI, dA, ad, n0⟩ := κ
  obtain ⟨hx, hb, hml, hown, hts, hlk, hnm, hKt, hSt, h01, h19, hrc, hrs, hfr, hlo, hb0⟩ := C
  intro h0 H locs ls hW hS hl
  have hf : n - n0 + k ≤ R.cells ∧ sl n - sl n0 + (sl (n + k) - sl n) ≤ R.slots := by
    have q1 := sl_mono (Nat.le_add_right n k)
    have q2 := sl_mono hk
    have q3 := sl_mono h0
    omega
  obtain ⟨q, hq, hqc⟩ := Option.map_eq_some_iff.mp hcl
  obtain ⟨cell, g1, g2, g3, -⟩ := atI_obj (hW.2 i hi) hs
  have hrecv : ∃ cell : Cell, H[ad i]? = some cell ∧ cell.vm.isStatics = false ∧ s.vm.findClass y'.cls = some cell.cls := ⟨cell, g1, by rw [g3]; rfl, by rw [g2, ← hqc]; exact (hKt.1.1 c q hq).2.1⟩
  have hp : PreV s H y'.cls (ad i) (PcM dC dI dA ad (.ref i :: As) n ρ I) (As.map (cvV ad)) := ⟨PcM.blind, hrecv, fun U hU hWm => ⟨rfl, by rw [hU]; exact hW, hKt.moved hWm, by rw [hU]; exact hSt.moved hWm hS, by rw [hU]; exact Nat.le_trans hb0 hS.1⟩⟩
  have hstk : (As.reverse ++ .ref i :: st).map (cvV ad) = (As.map (cvV ad)).reverse ++ .ref (ad i) :: st.map (cvV ad) := by simp [cvV]
  have hroom : 2 * (F0 m pc ls ((As.reverse ++ .ref i :: st).map (cvV ad))).monitorRoom + ((st.map (cvV ad)).map fun v => v.category).sum ≤ 8 := by
    refine lv_room (rest := ((As.reverse ++ .ref i :: st).map (cvV ad))) ?_
    rw [List.map_map]
    have : ((fun v => v.category) ∘ cvV ad) = fun v : Value => v.category := by funext v; exact cvV_cat ad v
    rw [this]; exact hst
  have hrun : va_Run p l e R s m args below meth cd H locs (n - n0) (sl n - sl n0) k (sl (n + k) - sl n) (F0 m pc ls ((As.reverse ++ .ref i :: st).map (cvV ad))) (st.map (cvV ad)) (QcM dC dI dA ad (n + k) P (Value.ref (ad i) :: As.map (cvV ad)).toArray) (fun q => ad 0 ≤ q) := by
    obtain ⟨hlink, hsame, hsel, hinst⟩ := hL
    exact va_runU (own := y.cls) (C := y'.cls) (owner := declN.cls) (x := declN) ⟨hx, hb, hml, hown, hts⟩ (hc l dC dI dA ad) (va_cwA cnt hts (GW_goodIn (fun w hw => by
      unfold va_wsU at hw
      rcases List.mem_append.mp hw with hw | hw
      · simp only [List.mem_cons, List.not_mem_nil, or_false] at hw
        rcases hw with rfl | rfl | rfl | rfl | rfl
        · exact hlink
        · exact hsame
        · exact hsel
        · exact hinst
        · exact hM.2.2.1
      · exact GW_ws hM w hw)) rfl rfl rfl hKt.2.2.2.1 ⟨by decide, by decide, hds⟩ (room_of hd hfr hlo hM.2.2.2)) hp rfl (by rw [List.length_map]; exact hn) (hl.1.trans hml) hstk hroom dg hf
  refine run_go hrun hS fun r ρ' I' H1 locs1 hP hW1 hS1 => ?_
  have q1 := sl_mono (Nat.le_add_right n k)
  have q3 := sl_mono h0
  have e1 : n - n0 + k = n + k - n0 := by omega
  have e2 : sl n - sl n0 + (sl (n + k) - sl n) = sl (n + k) - sl n0 := by omega
  have e3 : (r.map (cvV ad)).toList ++ st.map (cvV ad) = (r.toList ++ st).map (cvV ad) := by cases r <;> simp
  rw [e1, e2, e3]
  exact K r ρ' I' hP (by omega) H1 locs1 ls hW1 hS1 hl
theorem g_callAI (C : Cx κ y cc nL d n1) (hM : MF y' cc' nL' ret' cnt) (hL : LinkA y.cls idx y') (hds : (parseMethodDescriptor declN.desc).map (fun d => d.parameters.length) = some cnt) {i c N : Nat} {As : List Value} {P : Int32 → Mem → Prop} (hc : MI y' cc' nL' ret' d' (.ref i :: As) n ρ I P) (hd : d' < d) (hk : n ≤ n1) (hn : As.length = cnt) (hs : shp i = (c + 10, N)) (hcl : (vwCl[c]?).map (fun q => q.1) = some y'.cls) (hi : i < n) (hst : (st.map fun v => v.category).sum ≤ 8) (dg : decode cc pc = .ok (.invokevirtual idx, 3))
    (K : ∀ (v : Int32) (I' : Mem), P v I' → G κ n ρ (pc + 3) lv (.int v :: st) I') : G κ n ρ pc lv (As.reverse ++ .ref i :: st) I :=
  g_callA C hM hL hds (k := 0) hc hd hk hn hs hcl hi hst dg (by rintro r ρ' I' ⟨rfl, v, rfl, h⟩; exact K v I' h)
end GA
set_option maxRecDepth 50000 in
theorem la_X0 : LinkA RX11 381 yX0_mayCome := ⟨GW_in 911 rfl rfl, GW_in 913 rfl rfl, GW_in 914 rfl rfl, GW_in 915 rfl rfl⟩
set_option maxRecDepth 50000 in
theorem la_X4 : LinkA RX11 381 yX4_mayCome := ⟨GW_in 911 rfl rfl, GW_in 913 rfl rfl, GW_in 924 rfl rfl, GW_in 925 rfl rfl⟩
def CntC (k : Nat) : Prop := ∀ (n : Nat) (ρ : Rho) (I : Mem) (q a r h h0 t dE cE NE nLE : Nat) (yE : MethodName) (cE9 : ByteArray) (Wt : Prop) (F : RT) (wt : Option Nat) (g : BT → Bool) (mc : Nat → BT → Bool) (b : BT) (xk : Int32), n ≤ 999 → (RwS n ρ q h0) → (Ch n ρ 3 h0) → (h0 + 5 < q) → (Wt → I q 5 = oI wt ∧ ∀ p, wt = some p → p < rN F) → (I q 4 = 0 ∨ I q 4 = 1) → (Rf n ρ r) → (Ch n ρ k h) → (h0 = h + 6 * t) → (t + k ≤ 3) → (RR I r F) → (RW F) → (BR I (h + 1) F b) → (BW F b) → (r + 3 + 18 < h0) → (Prn F g mc) → (MF yE cE9 nLE (some .boolean) 2) → (LinkA RX11 381 yE) → (shp a = (cE + 10, NE)) → ((vwCl[cE]?).map (fun q => q.1) = some yE.cls) → (a < n) → (dE < 12) → (∀ (J : Mem) (s k9 : Nat) (b9 : BT) (x9 : Int32), (∀ i, i ≠ q → i ≠ q + 4 → ¬ (h0 - 18 ≤ i ∧ i ≤ h0 + 5) → J i = I i) → St n ρ s → BR J s F b9 → BW F b9 → k9 ≤ 3 → x9 = nI k9 → MI yE cE9 nLE (some .boolean) dE [.ref a, .ref s, .int x9] n ρ J (fun v J1 => v = bI (mc k9 b9 = true) ∧ J = J1)) → (xk = nI k) → MI yX11_countRows cX11_countRows 9 (some .int) (12 + 2 * k) [.ref q, .ref a, .ref r, .ref h, .int xk] n ρ I (fun v I1 => v = nI (fnd F g k b).length ∧ NtP Wt I I1 q h0 t wt (fnd F g k b) ∧ ∀ i, i ≠ q → i ≠ q + 4 → ¬ Sc k h i → I1 i = I i)
set_option maxHeartbeats 400000 in
theorem c_X6_note (n : Nat) (ρ : Rho) (I : Mem) (q h0 s : Nat) (F : RT) (b : BT) (wt : Option Nat) (Wt : Prop) (hn9 : n ≤ 999) (hrow : RwS n ρ q h0) (hc0 : Ch n ρ 3 h0) (hq9 : h0 + 5 < q) (hWt : Wt → I q 5 = oI wt ∧ ∀ p, wt = some p → p < rN F) (h01 : I q 4 = 0 ∨ I q 4 = 1) (hst : St n ρ s) (hrw : RW F) (hbr : BR I s F b) (hbw : BW F b) : MV yX6_note cX6_note 5 none 1 [.ref q, .ref s] n ρ I (fun I1 => (Wt → ∀ i, i < 32 → bt (I1 q 6) i = (bt (I q 6) i || plB wt b i)) ∧ (∀ z, z ≠ 4 → z ≠ 6 → I1 q z = I q z) ∧ I1 q 4 = 1 ∧ (I q 4 = 1 → I1 (q + 4) = I (q + 4)) ∧ (I q 4 = 0 → ∀ x, x < 3 → I1 (q + 4) x = I (h0 - 6 * x) 3) ∧ ∀ i, i ≠ q → i ≠ q + 4 → I1 i = I i) := by
  refine MG.of (by decide +kernel) (Nat.le_of_ble_eq_true rfl) hn9 ?_
  intro κ C hR
  show G κ n ρ 0 [(0, .ref q), (1, .ref s)] [] I
  obtain ⟨hs0, hs1, hs2, hs3, hsn, hr0, hr1, hr2⟩ := id hst
  obtain ⟨hw0, hw1, hw2, hw3, hwn⟩ := id hrow
  have hnp : rN F ≤ 6 := hrw.2.2.2.2.1
  refine g_aload_n C (pc := 0) dX6_note_0 1 rfl ?_
  refine g_aload_n C (pc := 1) dX6_note_1 0 rfl ?_
  refine g_getI C (pc := 2) fl_RX6_57 (by decide) (by first | assumption | rfl | omega) (by first | assumption | rfl | omega) dX6_note_2 ?_
  refine g_callVI C (pc := 5) mf_X8_placeOf lk_RX6_60 (c_X8_placeOf n ρ I s _ hn9 hst) (by decide) (Nat.le_refl _) rfl (by first | assumption | rfl | omega) rfl (by first | assumption | rfl | omega) (Nat.le_of_ble_eq_true rfl) dX6_note_5 (fun v5 I5 h5 => ?_)
  obtain ⟨e5, rfl⟩ := h5
  have hv5 : Wt → v5 = oI (wt.bind (bP b)) := by
    intro hw
    obtain ⟨hwt, hwtp⟩ := hWt hw
    rw [e5, hwt]
    cases h9 : wt with
    | none => rw [if_neg (by decide)]; rfl
    | some p =>
      have hp := hwtp p h9
      exact (at6 (N := 6) 6 rfl (by decide) (by omega)).trans (hbr.2.1 p hp).1
  have hb25 : Wt → ∀ a, wt.bind (bP b) = some a → a < 25 := by
    intro hw a h9
    obtain ⟨hwt, hwtp⟩ := hWt hw
    cases h8 : wt with
    | none => rw [h8] at h9; cases h9
    | some p => rw [h8] at h9; exact (hbw.2.1 p (hwtp p h8)).1 a h9
  refine g_istore_n C (pc := 8) dX6_note_8 (by decide) (fun v8 => [(2, .int v8), (0, .ref q), (1, .ref s)]) (fun _ => rfl) (fun v8 ev8 => ?_)
  refine g_aload_n C (pc := 9) dX6_note_9 1 rfl ?_
  refine g_dup C (pc := 10) dX6_note_10 rfl ?_
  refine g_getI C (pc := 11) fl_RX6_37 (by decide) (by first | assumption | rfl | omega) (by first | assumption | rfl | omega) dX6_note_11 ?_
  refine g_iload_n C (pc := 14) dX6_note_14 0 rfl ?_
  refine g_bipush C (pc := 15) (-4) dX6_note_15 (by decide) ?_
  refine g_icmp_ne C (pc := 17) 25 dX6_note_17 (by decide) (fun c17 => ?_) (fun c17 => ?_)
  · have hpa9 : Wt → ∃ a, wt.bind (bP b) = some a := by
      intro hw
      cases h9 : wt.bind (bP b) with
      | none => exact absurd (by rw [ev8, hv5 hw, h9]; rfl) c17
      | some a => exact ⟨a, rfl⟩
    refine g_iload_n C (pc := 25) dX6_note_25 0 rfl ?_
    refine g_callSI C (pc := 26) mf_X5_bitOf lk_RX6_65 (c_X5_bitOf n ρ I _ hn9) (by decide) (Nat.le_refl _) rfl (Nat.le_of_ble_eq_true rfl) dX6_note_26 (fun v26 I26 h26 => ?_)
    obtain ⟨e26, rfl⟩ := h26
    have hbitB : Wt → ∀ i, i < 32 → bt v26 i = plB wt b i := by
      intro hw i hi
      obtain ⟨a9, hpa⟩ := hpa9 hw
      unfold plB
      rw [hpa, e26, ev8, hv5 hw, bitO_at (hb25 hw) hi, hpa]
      by_cases h9 : a9 = i
      · simp [h9]
      · simp [h9, Ne.symm h9]
    refine g_ior C (pc := 29) dX6_note_29 ?_
    refine g_putI C (pc := 30) fl_RX6_37 (by decide) fp_5_6 (Or.inl rfl) ⟨rfl, rfl⟩ (by first | assumption | rfl | omega) (by first | assumption | rfl | omega) hn9 dX6_note_30 ?_
    refine g_aload_n C (pc := 33) dX6_note_33 1 rfl ?_
    refine g_getI C (pc := 34) fl_RX6_33 (by decide) (by first | assumption | rfl | omega) (by first | assumption | rfl | omega) dX6_note_34 ?_
    refine g_if_eq C (pc := 37) 41 dX6_note_37 (by decide) (fun c37 => ?_) (fun c37 => ?_)
    · rw [wr_sn (by decide)] at c37
      have hz0 : I q 4 = 0 := c37
      refine g_aload_n C (pc := 41) dX6_note_41 1 rfl ?_
      refine g_iconst C (pc := 42) 1 dX6_note_42 (by decide) ?_
      refine g_putI C (pc := 43) fl_RX6_33 (by decide) fp_5_4 (Or.inl rfl) ⟨rfl, rfl⟩ (by first | assumption | rfl | omega) (by first | assumption | rfl | omega) hn9 dX6_note_43 ?_
      refine g_aload_n C (pc := 46) dX6_note_46 1 rfl ?_
      refine g_getR C (pc := 47) fl_RX6_29 (by decide) (by first | assumption | rfl | omega) (by first | assumption | rfl | omega) (by first | assumption | rfl | omega) dX6_note_47 ?_
      refine g_astore_n C (pc := 50) dX6_note_50 (by decide) (lv' := [(3, .ref h0), (2, .int v8), (0, .ref q), (1, .ref s)]) rfl ?_
      refine g_iconst C (pc := 51) 0 dX6_note_51 (by decide) ?_
      refine g_istore C (pc := 52) dX6_note_52 (by decide) (fun v52 => [(4, .int v52), (3, .ref h0), (2, .int v8), (0, .ref q), (1, .ref s)]) (fun _ => rfl) (fun v52 ev52 => ?_)
      have L54 : ∀ (k9 : Nat) (j : Nat) (wz4 : Int32) (J : Mem) (hw4 : wz4 = nI j) (hj : j ≤ 3) (hP : Wt → ∀ i, i < 32 → bt (J q 6) i = (bt (I q 6) i || plB wt b i)) (hZ : ∀ z, z ≠ 4 → z ≠ 6 → J q z = I q z) (h4 : J q 4 = 1) (hL : ∀ x, x < j → J (q + 4) x = I (h0 - 6 * x) 3) (hF : ∀ i, i ≠ q → i ≠ q + 4 → J i = I i), 3 - j < k9 → G κ n ρ 54 [(4, .int wz4), (3, .ref (h0 - 6 * j)), (0, .ref q)] [] J := by
        intro k9
        induction k9 with
        | zero => intro j wz4 J hw4 hj hP hZ h4 hL hF hm54; exact absurd hm54 (Nat.not_lt_zero _)
        | succ k9 ih54 =>
          intro j wz4 J hw4 hj hP hZ h4 hL hF hm54
          subst hw4
          refine g_iload C (pc := 54) dX6_note_54 0 rfl ?_
          refine g_aload_n C (pc := 56) dX6_note_56 2 rfl ?_
          refine g_getR C (pc := 57) fl_RX6_25 (by decide) (by first | assumption | rfl | omega) (by first | assumption | rfl | omega) (by first | assumption | rfl | omega) dX6_note_57 ?_
          refine g_alen C (pc := 60) 3 (by first | assumption | rfl | omega) (by decide) (by first | assumption | rfl | omega) rfl dX6_note_60 ?_
          refine g_icmp_ge C (pc := 61) 90 dX6_note_61 (by decide) (fun c61 => ?_) (fun c61 => ?_)
          · replace c61 := (nI_leI (a := 3) (b := j) (by decide) (by omega)).mp c61
            refine g_vret C hR (pc := 90) rfl dX6_note_90 ?_
            refine ⟨rfl, rfl, ?_⟩
            exact ⟨hP, hZ, h4, fun h9 => absurd (hz0.symm.trans h9) (by decide), fun _ x hx => hL x (by omega), hF⟩
          · replace c61 := (nI_ltI (a := j) (b := 3) (by omega) (by decide)).mp c61
            have hat := hc0.at j c61
            obtain ⟨hp0, hpn9, -⟩ := id hat.1
            refine g_aload_n C (pc := 64) dX6_note_64 1 rfl ?_
            refine g_ifnull C (pc := 65) dX6_note_65 ?_
            refine g_aload_n C (pc := 68) dX6_note_68 2 rfl ?_
            refine g_getR C (pc := 69) fl_RX6_25 (by decide) (by first | assumption | rfl | omega) (by first | assumption | rfl | omega) (by first | assumption | rfl | omega) dX6_note_69 ?_
            refine g_iload C (pc := 72) dX6_note_72 0 rfl ?_
            refine g_aload_n C (pc := 74) dX6_note_74 1 rfl ?_
            refine g_getI C (pc := 75) fl_RX6_70 (by decide) (by first | assumption | rfl | omega) (by first | assumption | rfl | omega) dX6_note_75 ?_
            refine g_iast C (pc := 78) (by first | assumption | rfl | omega) (by first | assumption | rfl | omega) hn9 (vp_in_nI (by omega) (by decide)) dX6_note_78 ?_
            refine g_aload_n C (pc := 79) dX6_note_79 1 rfl ?_
            refine g_getR C (pc := 80) fl_RX6_73 (by decide) (by first | assumption | rfl | omega) (by first | assumption | rfl | omega) hat.2.1 dX6_note_80 ?_
            refine g_astore_n C (pc := 83) dX6_note_83 (by decide) (lv' := [(3, .ref (h0 - 6 * (j + 1))), (4, .int (nI j)), (0, .ref q)]) rfl ?_
            refine g_iinc C (pc := 84) (1) dX6_note_84 1 rfl (by decide) (by decide) (fun v84 => [(4, .int v84), (3, .ref (h0 - 6 * (j + 1))), (0, .ref q)]) (fun _ => rfl) (fun v84 ev84 => ?_)
            refine g_goto C (pc := 87) 54 dX6_note_87 (by decide) ?_
            refine g_lv C [0, 1, 2] rfl (ih54 (j + 1) _ _ ?_ ?_ ?_ ?_ ?_ ?_ ?_ (by omega))
            · subst_vars; exact nI_1 _
            · omega
            · rw [wr_n (by omega)]; exact hP
            · intro z h5 h6; rw [wr_n (by omega)]; exact hZ z h5 h6
            · rw [wr_n (by omega)]; exact h4
            · intro x hx
              rw [nI_clamp (by omega)]
              rcases Nat.lt_or_ge x j with h1 | h1
              · rw [wr_sn (by omega)]; exact hL x h1
              · have : x = j := by omega
                subst this
                rw [wr_ss, hF _ (by omega) (by omega)]
            · intro i h1 h2; rw [wr_n h2]; exact hF i h1 h2
      refine g_lv C [0, 1, 3] rfl (L54 (_ + 1) 0 _ _ ?_ ?_ ?_ ?_ ?_ ?_ ?_ (by first | omega | exact Nat.lt_succ_self _))
      · subst_vars; rfl
      · exact Nat.zero_le _
      · intro hw i hi; rw [wr_sn (by decide), wr_ss, b_or]; first | rw [hbitA hw i hi] | rw [hbitB hw i hi]
      · intro z h4 h6; rw [wr_sn h4, wr_sn h6]
      · exact wr_ss
      · intro x hx; omega
      · intro i h1 h2; rw [wr_n h1, wr_n h1]
    · rw [wr_sn (by decide)] at c37
      have hz1 : I q 4 = 1 := h01.resolve_left c37
      refine g_vret C hR (pc := 40) rfl dX6_note_40 ?_
      refine ⟨rfl, rfl, ?_⟩
      refine ⟨fun hw i hi => ?_, fun z h5 h6 => by rw [wr_sn h6], by rw [wr_sn (by decide)]; exact hz1, fun _ => by rw [wr_n (by omega)], fun h9 => absurd (hz1.symm.trans h9) (by decide), fun i h1 h2 => by rw [wr_n h1]⟩
      rw [wr_ss, b_or]
      first | rw [hbitA hw i hi] | rw [hbitB hw i hi]
  · have hbitA : Wt → ∀ i, i < 32 → bt 33554432 i = plB wt b i := by
      intro hw i hi
      have hpn : wt.bind (bP b) = none := (oI_none (fun a h9 => by have := hb25 hw a h9; omega)).mp (by rw [← hv5 hw, ← ev8]; exact c17)
      unfold plB
      rw [hpn]
      exact (by decide +kernel : ∀ i, i < 32 → bt 33554432 i = decide (i = 25)) i hi
    refine g_ldc C (pc := 20) _ gk_RX6_64 dX6_note_20 ?_
    refine g_goto C (pc := 22) 29 dX6_note_22 (by decide) ?_
    refine g_ior C (pc := 29) dX6_note_29 ?_
    refine g_putI C (pc := 30) fl_RX6_37 (by decide) fp_5_6 (Or.inl rfl) ⟨rfl, rfl⟩ (by first | assumption | rfl | omega) (by first | assumption | rfl | omega) hn9 dX6_note_30 ?_
    refine g_aload_n C (pc := 33) dX6_note_33 1 rfl ?_
    refine g_getI C (pc := 34) fl_RX6_33 (by decide) (by first | assumption | rfl | omega) (by first | assumption | rfl | omega) dX6_note_34 ?_
    refine g_if_eq C (pc := 37) 41 dX6_note_37 (by decide) (fun c37 => ?_) (fun c37 => ?_)
    · rw [wr_sn (by decide)] at c37
      have hz0 : I q 4 = 0 := c37
      refine g_aload_n C (pc := 41) dX6_note_41 1 rfl ?_
      refine g_iconst C (pc := 42) 1 dX6_note_42 (by decide) ?_
      refine g_putI C (pc := 43) fl_RX6_33 (by decide) fp_5_4 (Or.inl rfl) ⟨rfl, rfl⟩ (by first | assumption | rfl | omega) (by first | assumption | rfl | omega) hn9 dX6_note_43 ?_
      refine g_aload_n C (pc := 46) dX6_note_46 1 rfl ?_
      refine g_getR C (pc := 47) fl_RX6_29 (by decide) (by first | assumption | rfl | omega) (by first | assumption | rfl | omega) (by first | assumption | rfl | omega) dX6_note_47 ?_
      refine g_astore_n C (pc := 50) dX6_note_50 (by decide) (lv' := [(3, .ref h0), (2, .int v8), (0, .ref q), (1, .ref s)]) rfl ?_
      refine g_iconst C (pc := 51) 0 dX6_note_51 (by decide) ?_
      refine g_istore C (pc := 52) dX6_note_52 (by decide) (fun v52 => [(4, .int v52), (3, .ref h0), (2, .int v8), (0, .ref q), (1, .ref s)]) (fun _ => rfl) (fun v52 ev52 => ?_)
      have L54 : ∀ (k9 : Nat) (j : Nat) (wz4 : Int32) (J : Mem) (hw4 : wz4 = nI j) (hj : j ≤ 3) (hP : Wt → ∀ i, i < 32 → bt (J q 6) i = (bt (I q 6) i || plB wt b i)) (hZ : ∀ z, z ≠ 4 → z ≠ 6 → J q z = I q z) (h4 : J q 4 = 1) (hL : ∀ x, x < j → J (q + 4) x = I (h0 - 6 * x) 3) (hF : ∀ i, i ≠ q → i ≠ q + 4 → J i = I i), 3 - j < k9 → G κ n ρ 54 [(4, .int wz4), (3, .ref (h0 - 6 * j)), (0, .ref q)] [] J := by
        intro k9
        induction k9 with
        | zero => intro j wz4 J hw4 hj hP hZ h4 hL hF hm54; exact absurd hm54 (Nat.not_lt_zero _)
        | succ k9 ih54 =>
          intro j wz4 J hw4 hj hP hZ h4 hL hF hm54
          subst hw4
          refine g_iload C (pc := 54) dX6_note_54 0 rfl ?_
          refine g_aload_n C (pc := 56) dX6_note_56 2 rfl ?_
          refine g_getR C (pc := 57) fl_RX6_25 (by decide) (by first | assumption | rfl | omega) (by first | assumption | rfl | omega) (by first | assumption | rfl | omega) dX6_note_57 ?_
          refine g_alen C (pc := 60) 3 (by first | assumption | rfl | omega) (by decide) (by first | assumption | rfl | omega) rfl dX6_note_60 ?_
          refine g_icmp_ge C (pc := 61) 90 dX6_note_61 (by decide) (fun c61 => ?_) (fun c61 => ?_)
          · replace c61 := (nI_leI (a := 3) (b := j) (by decide) (by omega)).mp c61
            refine g_vret C hR (pc := 90) rfl dX6_note_90 ?_
            refine ⟨rfl, rfl, ?_⟩
            exact ⟨hP, hZ, h4, fun h9 => absurd (hz0.symm.trans h9) (by decide), fun _ x hx => hL x (by omega), hF⟩
          · replace c61 := (nI_ltI (a := j) (b := 3) (by omega) (by decide)).mp c61
            have hat := hc0.at j c61
            obtain ⟨hp0, hpn9, -⟩ := id hat.1
            refine g_aload_n C (pc := 64) dX6_note_64 1 rfl ?_
            refine g_ifnull C (pc := 65) dX6_note_65 ?_
            refine g_aload_n C (pc := 68) dX6_note_68 2 rfl ?_
            refine g_getR C (pc := 69) fl_RX6_25 (by decide) (by first | assumption | rfl | omega) (by first | assumption | rfl | omega) (by first | assumption | rfl | omega) dX6_note_69 ?_
            refine g_iload C (pc := 72) dX6_note_72 0 rfl ?_
            refine g_aload_n C (pc := 74) dX6_note_74 1 rfl ?_
            refine g_getI C (pc := 75) fl_RX6_70 (by decide) (by first | assumption | rfl | omega) (by first | assumption | rfl | omega) dX6_note_75 ?_
            refine g_iast C (pc := 78) (by first | assumption | rfl | omega) (by first | assumption | rfl | omega) hn9 (vp_in_nI (by omega) (by decide)) dX6_note_78 ?_
            refine g_aload_n C (pc := 79) dX6_note_79 1 rfl ?_
            refine g_getR C (pc := 80) fl_RX6_73 (by decide) (by first | assumption | rfl | omega) (by first | assumption | rfl | omega) hat.2.1 dX6_note_80 ?_
            refine g_astore_n C (pc := 83) dX6_note_83 (by decide) (lv' := [(3, .ref (h0 - 6 * (j + 1))), (4, .int (nI j)), (0, .ref q)]) rfl ?_
            refine g_iinc C (pc := 84) (1) dX6_note_84 1 rfl (by decide) (by decide) (fun v84 => [(4, .int v84), (3, .ref (h0 - 6 * (j + 1))), (0, .ref q)]) (fun _ => rfl) (fun v84 ev84 => ?_)
            refine g_goto C (pc := 87) 54 dX6_note_87 (by decide) ?_
            refine g_lv C [0, 1, 2] rfl (ih54 (j + 1) _ _ ?_ ?_ ?_ ?_ ?_ ?_ ?_ (by omega))
            · subst_vars; exact nI_1 _
            · omega
            · rw [wr_n (by omega)]; exact hP
            · intro z h5 h6; rw [wr_n (by omega)]; exact hZ z h5 h6
            · rw [wr_n (by omega)]; exact h4
            · intro x hx
              rw [nI_clamp (by omega)]
              rcases Nat.lt_or_ge x j with h1 | h1
              · rw [wr_sn (by omega)]; exact hL x h1
              · have : x = j := by omega
                subst this
                rw [wr_ss, hF _ (by omega) (by omega)]
            · intro i h1 h2; rw [wr_n h2]; exact hF i h1 h2
      refine g_lv C [0, 1, 3] rfl (L54 (_ + 1) 0 _ _ ?_ ?_ ?_ ?_ ?_ ?_ ?_ (by first | omega | exact Nat.lt_succ_self _))
      · subst_vars; rfl
      · exact Nat.zero_le _
      · intro hw i hi; rw [wr_sn (by decide), wr_ss, b_or]; first | rw [hbitA hw i hi] | rw [hbitB hw i hi]
      · intro z h4 h6; rw [wr_sn h4, wr_sn h6]
      · exact wr_ss
      · intro x hx; omega
      · intro i h1 h2; rw [wr_n h1, wr_n h1]
    · rw [wr_sn (by decide)] at c37
      have hz1 : I q 4 = 1 := h01.resolve_left c37
      refine g_vret C hR (pc := 40) rfl dX6_note_40 ?_
      refine ⟨rfl, rfl, ?_⟩
      refine ⟨fun hw i hi => ?_, fun z h5 h6 => by rw [wr_sn h6], by rw [wr_sn (by decide)]; exact hz1, fun _ => by rw [wr_n (by omega)], fun h9 => absurd (hz1.symm.trans h9) (by decide), fun i h1 h2 => by rw [wr_n h1]⟩
      rw [wr_ss, b_or]
      first | rw [hbitA hw i hi] | rw [hbitB hw i hi]
set_option maxHeartbeats 400000 in
theorem c_X11_countRows (n : Nat) (ρ : Rho) (I : Mem) (q a r h h0 t k dE cE NE nLE : Nat) (yE : MethodName) (cE9 : ByteArray) (Wt : Prop) (F : RT) (wt : Option Nat) (g : BT → Bool) (mc : Nat → BT → Bool) (b : BT) (xk : Int32) (hn9 : n ≤ 999) (hrow : RwS n ρ q h0) (hc0 : Ch n ρ 3 h0) (hq9 : h0 + 5 < q) (hWt : Wt → I q 5 = oI wt ∧ ∀ p, wt = some p → p < rN F) (h01 : I q 4 = 0 ∨ I q 4 = 1) (hrf : Rf n ρ r) (hch : Ch n ρ k h) (hh0 : h0 = h + 6 * t) (htk : t + k ≤ 3) (hrr : RR I r F) (hrw : RW F) (hbr : BR I (h + 1) F b) (hbw : BW F b) (hrh : r + 3 + 18 < h0) (hprn : Prn F g mc) (hMF : MF yE cE9 nLE (some .boolean) 2) (hLA : LinkA RX11 381 yE) (hsa : shp a = (cE + 10, NE)) (hcla : (vwCl[cE]?).map (fun q => q.1) = some yE.cls) (han : a < n) (hdE : dE < 12) (hE : ∀ (J : Mem) (s k9 : Nat) (b9 : BT) (x9 : Int32), (∀ i, i ≠ q → i ≠ q + 4 → ¬ (h0 - 18 ≤ i ∧ i ≤ h0 + 5) → J i = I i) → St n ρ s → BR J s F b9 → BW F b9 → k9 ≤ 3 → x9 = nI k9 → MI yE cE9 nLE (some .boolean) dE [.ref a, .ref s, .int x9] n ρ J (fun v J1 => v = bI (mc k9 b9 = true) ∧ J = J1)) (hxk : xk = nI k) (hRec : 0 < k → CntC (k - 1)) : MI yX11_countRows cX11_countRows 9 (some .int) (12 + 2 * k) [.ref q, .ref a, .ref r, .ref h, .int xk] n ρ I (fun v I1 => v = nI (fnd F g k b).length ∧ NtP Wt I I1 q h0 t wt (fnd F g k b) ∧ ∀ i, i ≠ q → i ≠ q + 4 → ¬ Sc k h i → I1 i = I i) := by
  refine MG.of (by decide +kernel) (Nat.le_of_ble_eq_true rfl) hn9 ?_
  intro κ C hR
  show G κ n ρ 0 [(0, .ref q), (1, .ref a), (2, .ref r), (3, .ref h), (4, .int xk)] [] I
  subst hxk
  have hsp := hch.sp
  obtain ⟨hp0, hpn, hp1, hp2, hp3, hp4⟩ := id hsp
  obtain ⟨hs0, hs1, hs2, hs3, hsn, hr0, hr1, hr2⟩ := id hp4
  obtain ⟨hq0, hq1, hq2, hq3, hqn, ht0, ht1, ht2⟩ := id hrf
  have hnp : rN F ≤ 6 := hrw.2.2.2.2.1
  have hN := hrr.2.2.1
  obtain ⟨hw0, hw1, hw2, hw3, hwn⟩ := id hrow
  have hge := hch.ge
  refine g_aload_n C (pc := 0) dX11_countRows_0 1 rfl ?_
  refine g_aload_n C (pc := 1) dX11_countRows_1 3 rfl ?_
  refine g_getR C (pc := 2) fl_RX11_210 (by decide) (by first | assumption | rfl | omega) (by first | assumption | rfl | omega) (by first | assumption | rfl | omega) dX11_countRows_2 ?_
  refine g_iload C (pc := 5) dX11_countRows_5 4 rfl ?_
  refine g_callAI C (pc := 7) hMF hLA (by decide +kernel) (hE I (h + 1) k b _ (fun i _ _ _ => rfl) hp4 hbr hbw (by omega) rfl) (by omega) (Nat.le_refl _) rfl hsa hcla han (Nat.le_of_ble_eq_true rfl) dX11_countRows_7 (fun v7 I7 h7 => ?_)
  obtain ⟨e7, rfl⟩ := h7
  refine g_if_ne C (pc := 10) 15 dX11_countRows_10 (by decide) (fun c10 => ?_) (fun c10 => ?_)
  · have hmc : mc k b = true := by
      rw [e7] at c10
      exact bI_1.mp c10
    refine g_iload C (pc := 15) dX11_countRows_15 4 rfl ?_
    refine g_if_gt C (pc := 17) 30 dX11_countRows_17 (by decide) (fun c17 => ?_) (fun c17 => ?_)
    · have hk0 : 0 < k := (nI_ltI (a := 0) (b := k) (by decide) (by omega)).mp c17
      have hnx := hch.nx hk0
      obtain ⟨k0, hkk⟩ : ∃ k0, k = k0 + 1 := ⟨k - 1, by omega⟩
      have hgo := hch.go hkk
      refine g_aload_n C (pc := 30) dX11_countRows_30 3 rfl ?_
      refine g_getR C (pc := 31) fl_RX11_371 (by decide) (by first | assumption | rfl | omega) (by first | assumption | rfl | omega) (by first | assumption | rfl | omega) dX11_countRows_31 ?_
      refine g_ifnull C (pc := 34) dX11_countRows_34 ?_
      refine g_aload_n C (pc := 37) dX11_countRows_37 3 rfl ?_
      refine g_getR C (pc := 38) fl_RX11_210 (by decide) (by first | assumption | rfl | omega) (by first | assumption | rfl | omega) (by first | assumption | rfl | omega) dX11_countRows_38 ?_
      refine g_aload_n C (pc := 41) dX11_countRows_41 2 rfl ?_
      refine g_callVI C (pc := 42) mf_X8_lostSide lk_RX11_131 (c_X8_lostSide n ρ I (h + 1) r (rN F) hn9 hp4 hrf hN hnp) (by omega) (Nat.le_refl _) rfl (by first | assumption | rfl | omega) rfl (by first | assumption | rfl | omega) (Nat.le_of_ble_eq_true rfl) dX11_countRows_42 (fun v42 I42 h42 => ?_)
      obtain ⟨e42, rfl⟩ := h42
      replace e42 := e42.trans (lostI hrr hrw hbr hbw)
      refine g_bipush C (pc := 45) (-4) dX11_countRows_45 (by decide) ?_
      refine g_icmp_eq C (pc := 47) 52 dX11_countRows_47 (by decide) (fun c47 => ?_) (fun c47 => ?_)
      · have hno : lostP F b = none := by
          rw [e42] at c47
          exact lostB_none.mp ((oI_none (fun z hz => by have := lostB_lt hrw z hz; omega)).mp c47)
        refine g_iconst C (pc := 52) 0 dX11_countRows_52 (by decide) ?_
        refine g_istore C (pc := 53) dX11_countRows_53 (by decide) (fun v53 => [(5, .int v53), (0, .ref q), (1, .ref a), (2, .ref r), (3, .ref h), (4, .int (nI k))]) (fun _ => rfl) (fun v53 ev53 => ?_)
        refine g_iconst C (pc := 55) 0 dX11_countRows_55 (by decide) ?_
        refine g_istore C (pc := 56) dX11_countRows_56 (by decide) (fun v56 => [(6, .int v56), (5, .int v53), (0, .ref q), (1, .ref a), (2, .ref r), (3, .ref h), (4, .int (nI k))]) (fun _ => rfl) (fun v56 ev56 => ?_)
        have L58 : ∀ (k9 : Nat) (j : Nat) (wz6 : Int32) (wz5 : Int32) (J : Mem) (hw6 : wz6 = nI j) (hj : j ≤ 5) (hS : wz5 = nI (fndW F b (fnd F g (k - 1)) j).length) (hNt : NtP Wt I J q h0 t wt (fndW F b (fnd F g (k - 1)) j)) (hJ : ∀ i, i ≠ q → i ≠ q + 4 → ¬ Sc k h i → J i = I i), 5 - j < k9 → G κ n ρ 58 [(6, .int wz6), (5, .int wz5), (0, .ref q), (1, .ref a), (2, .ref r), (3, .ref h), (4, .int (nI k))] [] J := by
          intro k9
          induction k9 with
          | zero => intro j wz6 wz5 J hw6 hj hS hNt hJ hm58; exact absurd hm58 (Nat.not_lt_zero _)
          | succ k9 ih58 =>
            intro j wz6 wz5 J hw6 hj hS hNt hJ hm58
            subst hw6
            have hrrJ : RR J r F := hrr.cong (fun i hi => hJ _ (by omega) (by omega) (by unfold Sc; omega))
            have hbrJ : BR J (h + 1) F b := hbr.cong (fun i hi => hJ _ (by omega) (by omega) (by unfold Sc; omega))
            refine g_iload C (pc := 58) dX11_countRows_58 0 rfl ?_
            refine g_iconst C (pc := 60) 5 dX11_countRows_60 (by decide) ?_
            refine g_icmp_ge C (pc := 61) 171 dX11_countRows_61 (by decide) (fun c61 => ?_) (fun c61 => ?_)
            · replace c61 := (nI_leI (a := 5) (b := j) (by decide) (by omega)).mp c61
              refine g_iload C (pc := 171) dX11_countRows_171 1 rfl ?_
              refine g_iret C hR (pc := 173) rfl dX11_countRows_173 ?_
              refine ⟨rfl, _, rfl, ?_⟩
              have hj5 : j = 5 := by omega
              subst hj5
              have hz : fnd F g k b = fndW F b (fnd F g (k - 1)) 5 := by rw [hkk, fnd, if_pos hno]; rfl
              rw [hz]; exact ⟨hS, hNt, hJ⟩
            · replace c61 := (nI_ltI (a := j) (b := 5) (by omega) (by decide)).mp c61
              refine g_aload_n C (pc := 64) dX11_countRows_64 5 rfl ?_
              refine g_getR C (pc := 65) fl_RX11_210 (by decide) (by first | assumption | rfl | omega) (by first | assumption | rfl | omega) (by first | assumption | rfl | omega) dX11_countRows_65 ?_
              refine g_aload_n C (pc := 68) dX11_countRows_68 4 rfl ?_
              refine g_iload C (pc := 69) dX11_countRows_69 0 rfl ?_
              refine g_aload_n C (pc := 71) dX11_countRows_71 5 rfl ?_
              refine g_getR C (pc := 72) fl_RX11_296 (by decide) (by first | assumption | rfl | omega) (by first | assumption | rfl | omega) (by first | assumption | rfl | omega) dX11_countRows_72 ?_
              refine g_callVI C (pc := 75) mf_X8_listMoves lk_RX11_300 (c_X8_listMoves n ρ J (h + 1) r j (h + 5) F b hn9 hp4 hrf hrrJ hrw hbrJ hbw (by omega) hp3 (by omega) (fun i hi => ⟨by omega, by omega⟩)) (by omega) (Nat.le_refl _) rfl (by first | assumption | rfl | omega) rfl (by first | assumption | rfl | omega) (Nat.le_of_ble_eq_true rfl) dX11_countRows_75 (fun v75 I75 h75 => ?_)
              obtain ⟨e75, f75, g75⟩ := h75
              have hml := mvs_len (F := F) (b := b) (w := j) hnp
              have hcm := cntM_le (F := F) (b := b) (w := j) hnp
              refine g_istore C (pc := 78) dX11_countRows_78 (by decide) (fun v78 => [(7, .int v78), (6, .int (nI j)), (5, .int wz5), (0, .ref q), (1, .ref a), (2, .ref r), (3, .ref h), (4, .int (nI k))]) (fun _ => rfl) (fun v78 ev78 => ?_)
              refine g_iconst C (pc := 80) 0 dX11_countRows_80 (by decide) ?_
              refine g_istore C (pc := 81) dX11_countRows_81 (by decide) (fun v81 => [(8, .int v81), (7, .int v78), (6, .int (nI j)), (5, .int wz5), (0, .ref q), (1, .ref a), (2, .ref r), (3, .ref h), (4, .int (nI k))]) (fun _ => rfl) (fun v81 ev81 => ?_)
              have L83 : ∀ (k9 : Nat) (i0 : Nat) (wz8 : Int32) (wz5 : Int32) (K : Mem) (hw8 : wz8 = nI i0) (hi0 : i0 ≤ cntM F b j) (hS2 : wz5 = nI (fndW F b (fnd F g (k - 1)) j ++ fndI F b (fnd F g (k - 1)) j i0).length) (hNt2 : NtP Wt I K q h0 t wt (fndW F b (fnd F g (k - 1)) j ++ fndI F b (fnd F g (k - 1)) j i0)) (hK : ∀ i, i ≠ q → i ≠ q + 4 → ¬ Sc k h i → K i = I i) (hC : ∀ (q m : Nat), (mvs F b j)[q]? = some m → K (h + 5) q = nI m), cntM F b j - i0 < k9 → G κ n ρ 83 [(8, .int wz8), (7, .int v78), (5, .int wz5), (6, .int (nI j)), (0, .ref q), (1, .ref a), (2, .ref r), (3, .ref h), (4, .int (nI k))] [] K := by
                intro k9
                induction k9 with
                | zero => intro i0 wz8 wz5 K hw8 hi0 hS2 hNt2 hK hC hm83; exact absurd hm83 (Nat.not_lt_zero _)
                | succ k9 ih83 =>
                  intro i0 wz8 wz5 K hw8 hi0 hS2 hNt2 hK hC hm83
                  subst hw8
                  have hrrK : RR K r F := hrr.cong (fun i hi => hK _ (by omega) (by omega) (by unfold Sc; omega))
                  have hbrK : BR K (h + 1) F b := hbr.cong (fun i hi => hK _ (by omega) (by omega) (by unfold Sc; omega))
                  refine g_iload C (pc := 83) dX11_countRows_83 0 rfl ?_
                  refine g_iload C (pc := 85) dX11_countRows_85 1 rfl ?_
                  refine g_icmp_lt C (pc := 87) 95 dX11_countRows_87 (by decide) (fun c87 => ?_) (fun c87 => ?_)
                  · have hlt : i0 < cntM F b j := by
                      rw [ev78, e75] at c87
                      have := (nI_ltI (by omega) (by omega)).mp c87
                      unfold cntM; split <;> omega
                    refine g_aload_n C (pc := 95) dX11_countRows_95 7 rfl ?_
                    refine g_bipush C (pc := 96) 100 dX11_countRows_96 (by decide) ?_
                    refine g_iload C (pc := 98) dX11_countRows_98 3 rfl ?_
                    refine g_imul C (pc := 100) dX11_countRows_100 ?_
                    refine g_iload C (pc := 101) dX11_countRows_101 1 rfl ?_
                    refine g_if_le C (pc := 103) 111 dX11_countRows_103 (by decide) (fun c103 => ?_) (fun c103 => ?_)
                    · have hlen0 : (mvs F b j).length = 0 := by
                        rw [ev78, e75] at c103
                        have := (nI_leI (b := 0) (by omega) (by decide)).mp c103
                        omega
                      have hlb : 100 * nI j + 99 = nI (lblN F b j i0) := by
                        unfold lblN
                        rw [if_pos hlen0, show (100 : Int32) = nI 100 from rfl, pk_mul, show (99 : Int32) = nI 99 from rfl, nI_add]
                      refine g_bipush C (pc := 111) 99 dX11_countRows_111 (by decide) ?_
                      refine g_iadd C (pc := 113) dX11_countRows_113 ?_
                      refine g_putI C (pc := 114) fl_RX11_390 (by decide) fp_8_3 (Or.inl rfl) ⟨rfl, rfl⟩ (by first | assumption | rfl | omega) (by first | assumption | rfl | omega) hn9 dX11_countRows_114 ?_
                      obtain ⟨K1, hK1⟩ : ∃ K1, K1 = wr K h 3 (nI (lblN F b j i0)) := ⟨_, rfl⟩
                      rw [hlb, ← hK1]
                      have hrr1 : RR K1 r F := hrrK.cong (fun i hi => by rw [hK1, wr_n (by omega)])
                      have hbr1 : BR K1 (h + 1) F b := hbrK.cong (fun i hi => by rw [hK1, wr_n (by omega)])
                      refine g_aload_n C (pc := 117) dX11_countRows_117 7 rfl ?_
                      refine g_aload_n C (pc := 118) dX11_countRows_118 6 rfl ?_
                      refine g_iload C (pc := 119) dX11_countRows_119 3 rfl ?_
                      refine g_iload C (pc := 121) dX11_countRows_121 1 rfl ?_
                      refine g_if_le C (pc := 123) 135 dX11_countRows_123 (by decide) (fun c123 => ?_) (fun c123 => ?_)
                      · refine g_bipush C (pc := 135) (-4) dX11_countRows_135 (by decide) ?_
                        refine g_callVV C (pc := 137) mf_X9_tread lk_RX11_378 (c_X9_tread n ρ _ h (h - 6) r j F b ((mvs F b j)[i0]?) _ hn9 hsp hnx hgo.1 (fun i k h1 h2 => by omega) (fun i k h1 h2 => by omega) hrf hrr1 hrw hbr1 hbw (by omega) (fun m hm => ⟨(mvs_ok hm).1, (mvs_ok hm).2.1⟩) (by first | (rw [List.eq_nil_of_length_eq_zero hlen0]; rfl) | (rw [e129, List.getElem?_eq_getElem (by omega), hK1, wr_n (by omega), hC i0 _ (List.getElem?_eq_getElem (by omega))]; rfl))) (by omega) (Nat.le_refl _) rfl (by first | assumption | rfl | omega) rfl (by first | assumption | rfl | omega) (Nat.le_of_ble_eq_true rfl) dX11_countRows_137 (fun I137 h137 => ?_)
                        obtain ⟨h137, g137⟩ := h137
                        have hrr4 : RR I137 r F := hrr1.cong (fun i hi => g137 _ (by omega) (by omega) (by omega) (by omega))
                        have hfr4 : ∀ i, i ≠ q → i ≠ q + 4 → ¬ Sc k h i → I137 i = I i := fun i i1 i2 i3 => by
                          have hS9 : ¬ ((h - 6 * k ≤ i ∧ i < h) ∨ i = h ∨ i = h + 5) := i3
                          rw [g137 i (by omega) (by omega) (by omega) (by omega), hK1, wr_n (by omega)]; exact hK i i1 i2 i3
                        have hK01 : K q 4 = 0 ∨ K q 4 = 1 := by
                          cases h9 : fndW F b (fnd F g (k - 1)) j ++ fndI F b (fnd F g (k - 1)) j i0 with
                          | nil => rw [(hNt2.2.2.1 h9).1]; exact h01
                          | cons r9 L9 => exact Or.inr (hNt2.2.2.2 r9 L9 h9).1
                        refine g_iload C (pc := 140) dX11_countRows_140 2 rfl ?_
                        refine g_aload_n C (pc := 142) dX11_countRows_142 4 rfl ?_
                        refine g_aload_n C (pc := 143) dX11_countRows_143 5 rfl ?_
                        refine g_aload_n C (pc := 144) dX11_countRows_144 6 rfl ?_
                        refine g_aload_n C (pc := 145) dX11_countRows_145 7 rfl ?_
                        refine g_getR C (pc := 146) fl_RX11_371 (by decide) (by first | assumption | rfl | omega) (by first | assumption | rfl | omega) (by first | assumption | rfl | omega) dX11_countRows_146 ?_
                        refine g_iload C (pc := 149) dX11_countRows_149 8 rfl ?_
                        refine g_iconst C (pc := 151) 1 dX11_countRows_151 (by decide) ?_
                        refine g_isub C (pc := 152) dX11_countRows_152 ?_
                        refine g_callSI C (pc := 153) mf_X11_countRows lk_RX11_393 (hRec hk0 n ρ I137 q a r (h - 6) h0 (t + 1) dE cE NE nLE yE cE9 Wt F wt g mc _ _ hn9 hrow hc0 hq9 (fun hw => ⟨by rw [g137 q (by omega) (by omega) (by omega) (by omega), hK1, wr_n (by omega), hNt2.2.1 5 (by decide) (by decide)]; exact (hWt hw).1, (hWt hw).2⟩) (by rw [g137 q (by omega) (by omega) (by omega) (by omega), hK1, wr_n (by omega)]; exact hK01) hrf hgo.2 (by omega) (by omega) hrr4 hrw h137 (playB_W hbw (fun m hm => ⟨(mvs_ok hm).1, (mvs_ok hm).2.1⟩)) (by omega) hprn hMF hLA hsa hcla han hdE (fun J9 s9 k9 b9 x9 a1 a2 a3 a4 a5 a6 => hE J9 s9 k9 b9 x9 (fun i i1 i2 i3 => (a1 i i1 i2 i3).trans (hfr4 i i1 i2 (fun e9 => i3 (by unfold Sc at e9; omega)))) a2 a3 a4 a5 a6) (pk_sub (b := 1) (by omega))) (by omega) (Nat.le_refl _) rfl (Nat.le_of_ble_eq_true rfl) dX11_countRows_153 (fun v153 I153 h153 => ?_)
                        obtain ⟨e153, n153, g153⟩ := h153
                        have hApp := hNt2.app (J2 := I137) (lb := lblN F b j i0) h01 (by rw [g137 q (by omega) (by omega) (by omega) (by omega), hK1, wr_n (by omega)]) (by rw [g137 (q + 4) (by omega) (by omega) (by omega) (by omega), hK1, wr_n (by omega)]) (fun x hx => by rw [hfr4 _ (by omega) (by omega) (by unfold Sc; omega)]) (by rw [show h0 - 6 * t = h by omega, g137 h (by omega) (by omega) (by omega) (by omega), hK1, wr_ss]) n153
                        have hK4 : ∀ i, i ≠ q → i ≠ q + 4 → ¬ Sc k h i → I153 i = I i := fun i i1 i2 i3 => (g153 i i1 i2 (fun e9 => i3 (by unfold Sc at e9 ⊢; omega))).trans (hfr4 i i1 i2 i3)
                        have hC4 : ∀ (q m : Nat), (mvs F b j)[q]? = some m → I153 (h + 5) q = nI m := fun q9 m hm => by
                          rw [g153 _ (by omega) (by omega) (by unfold Sc; omega), g137 _ (by omega) (by omega) (by omega) (by omega), hK1, wr_n (by omega)]; exact hC q9 m hm
                        refine g_iadd C (pc := 156) dX11_countRows_156 ?_
                        refine g_istore C (pc := 157) dX11_countRows_157 (by decide) (fun v157 => [(5, .int v157), (8, .int (nI i0)), (7, .int v78), (6, .int (nI j)), (0, .ref q), (1, .ref a), (2, .ref r), (3, .ref h), (4, .int (nI k))]) (fun _ => rfl) (fun v157 ev157 => ?_)
                        refine g_iinc C (pc := 159) (1) dX11_countRows_159 1 rfl (by decide) (by decide) (fun v159 => [(8, .int v159), (5, .int v157), (7, .int v78), (6, .int (nI j)), (0, .ref q), (1, .ref a), (2, .ref r), (3, .ref h), (4, .int (nI k))]) (fun _ => rfl) (fun v159 ev159 => ?_)
                        refine g_goto C (pc := 162) 83 dX11_countRows_162 (by decide) ?_
                        refine g_lv C [0, 2, 1, 3, 4, 5, 6, 7, 8] rfl (ih83 (i0 + 1) _ _ _ ?_ ?_ ?_ ?_ ?_ ?_ (by omega))
                        · subst ev159; exact nI_1 _
                        · omega
                        · rw [ev157, hS2, e153, fndI, nI_add, ← List.append_assoc, List.length_append (bs := List.map _ _), List.length_map]
                        · rw [fndI, ← List.append_assoc]; exact hApp
                        · exact hK4
                        · exact hC4
                      · exfalso; rw [ev78, e75, hlen0] at c123; exact absurd c123 (by decide)
                    · have hlen1 : 0 < (mvs F b j).length := by
                        rw [ev78, e75] at c103
                        exact (nI_ltI (a := 0) (by decide) (by omega)).mp c103
                      have hlt2 : i0 < (mvs F b j).length := by unfold cntM at hlt; rw [if_neg (by omega)] at hlt; exact hlt
                      have hlb : 100 * nI j + nI i0 = nI (lblN F b j i0) := by
                        unfold lblN
                        rw [if_neg (by omega), show (100 : Int32) = nI 100 from rfl, pk_mul, nI_add]
                      refine g_iload C (pc := 106) dX11_countRows_106 0 rfl ?_
                      refine g_goto C (pc := 108) 113 dX11_countRows_108 (by decide) ?_
                      refine g_iadd C (pc := 113) dX11_countRows_113 ?_
                      refine g_putI C (pc := 114) fl_RX11_390 (by decide) fp_8_3 (Or.inl rfl) ⟨rfl, rfl⟩ (by first | assumption | rfl | omega) (by first | assumption | rfl | omega) hn9 dX11_countRows_114 ?_
                      obtain ⟨K1, hK1⟩ : ∃ K1, K1 = wr K h 3 (nI (lblN F b j i0)) := ⟨_, rfl⟩
                      rw [hlb, ← hK1]
                      have hrr1 : RR K1 r F := hrrK.cong (fun i hi => by rw [hK1, wr_n (by omega)])
                      have hbr1 : BR K1 (h + 1) F b := hbrK.cong (fun i hi => by rw [hK1, wr_n (by omega)])
                      refine g_aload_n C (pc := 117) dX11_countRows_117 7 rfl ?_
                      refine g_aload_n C (pc := 118) dX11_countRows_118 6 rfl ?_
                      refine g_iload C (pc := 119) dX11_countRows_119 3 rfl ?_
                      refine g_iload C (pc := 121) dX11_countRows_121 1 rfl ?_
                      refine g_if_le C (pc := 123) 135 dX11_countRows_123 (by decide) (fun c123 => ?_) (fun c123 => ?_)
                      · exfalso; rw [ev78, e75] at c123; have := (nI_leI (b := 0) (by omega) (by decide)).mp c123; omega
                      · refine g_aload_n C (pc := 126) dX11_countRows_126 7 rfl ?_
                        refine g_iload C (pc := 127) dX11_countRows_127 0 rfl ?_
                        refine g_callVI C (pc := 129) mf_X9_moveAt lk_RX11_193 (c_X9_moveAt n ρ K1 h i0 _ hn9 hsp (by omega) rfl) (by omega) (Nat.le_refl _) rfl (by first | assumption | rfl | omega) rfl (by first | assumption | rfl | omega) (Nat.le_of_ble_eq_true rfl) dX11_countRows_129 (fun v129 I129 h129 => ?_)
                        obtain ⟨e129, rfl⟩ := h129
                        refine g_goto C (pc := 132) 137 dX11_countRows_132 (by decide) ?_
                        refine g_callVV C (pc := 137) mf_X9_tread lk_RX11_378 (c_X9_tread n ρ _ h (h - 6) r j F b ((mvs F b j)[i0]?) _ hn9 hsp hnx hgo.1 (fun i k h1 h2 => by omega) (fun i k h1 h2 => by omega) hrf hrr1 hrw hbr1 hbw (by omega) (fun m hm => ⟨(mvs_ok hm).1, (mvs_ok hm).2.1⟩) (by first | (rw [List.eq_nil_of_length_eq_zero hlen0]; rfl) | (rw [e129, List.getElem?_eq_getElem (by omega), hK1, wr_n (by omega), hC i0 _ (List.getElem?_eq_getElem (by omega))]; rfl))) (by omega) (Nat.le_refl _) rfl (by first | assumption | rfl | omega) rfl (by first | assumption | rfl | omega) (Nat.le_of_ble_eq_true rfl) dX11_countRows_137 (fun I137 h137 => ?_)
                        obtain ⟨h137, g137⟩ := h137
                        have hrr4 : RR I137 r F := hrr1.cong (fun i hi => g137 _ (by omega) (by omega) (by omega) (by omega))
                        have hfr4 : ∀ i, i ≠ q → i ≠ q + 4 → ¬ Sc k h i → I137 i = I i := fun i i1 i2 i3 => by
                          have hS9 : ¬ ((h - 6 * k ≤ i ∧ i < h) ∨ i = h ∨ i = h + 5) := i3
                          rw [g137 i (by omega) (by omega) (by omega) (by omega), hK1, wr_n (by omega)]; exact hK i i1 i2 i3
                        have hK01 : K q 4 = 0 ∨ K q 4 = 1 := by
                          cases h9 : fndW F b (fnd F g (k - 1)) j ++ fndI F b (fnd F g (k - 1)) j i0 with
                          | nil => rw [(hNt2.2.2.1 h9).1]; exact h01
                          | cons r9 L9 => exact Or.inr (hNt2.2.2.2 r9 L9 h9).1
                        refine g_iload C (pc := 140) dX11_countRows_140 2 rfl ?_
                        refine g_aload_n C (pc := 142) dX11_countRows_142 4 rfl ?_
                        refine g_aload_n C (pc := 143) dX11_countRows_143 5 rfl ?_
                        refine g_aload_n C (pc := 144) dX11_countRows_144 6 rfl ?_
                        refine g_aload_n C (pc := 145) dX11_countRows_145 7 rfl ?_
                        refine g_getR C (pc := 146) fl_RX11_371 (by decide) (by first | assumption | rfl | omega) (by first | assumption | rfl | omega) (by first | assumption | rfl | omega) dX11_countRows_146 ?_
                        refine g_iload C (pc := 149) dX11_countRows_149 8 rfl ?_
                        refine g_iconst C (pc := 151) 1 dX11_countRows_151 (by decide) ?_
                        refine g_isub C (pc := 152) dX11_countRows_152 ?_
                        refine g_callSI C (pc := 153) mf_X11_countRows lk_RX11_393 (hRec hk0 n ρ I137 q a r (h - 6) h0 (t + 1) dE cE NE nLE yE cE9 Wt F wt g mc _ _ hn9 hrow hc0 hq9 (fun hw => ⟨by rw [g137 q (by omega) (by omega) (by omega) (by omega), hK1, wr_n (by omega), hNt2.2.1 5 (by decide) (by decide)]; exact (hWt hw).1, (hWt hw).2⟩) (by rw [g137 q (by omega) (by omega) (by omega) (by omega), hK1, wr_n (by omega)]; exact hK01) hrf hgo.2 (by omega) (by omega) hrr4 hrw h137 (playB_W hbw (fun m hm => ⟨(mvs_ok hm).1, (mvs_ok hm).2.1⟩)) (by omega) hprn hMF hLA hsa hcla han hdE (fun J9 s9 k9 b9 x9 a1 a2 a3 a4 a5 a6 => hE J9 s9 k9 b9 x9 (fun i i1 i2 i3 => (a1 i i1 i2 i3).trans (hfr4 i i1 i2 (fun e9 => i3 (by unfold Sc at e9; omega)))) a2 a3 a4 a5 a6) (pk_sub (b := 1) (by omega))) (by omega) (Nat.le_refl _) rfl (Nat.le_of_ble_eq_true rfl) dX11_countRows_153 (fun v153 I153 h153 => ?_)
                        obtain ⟨e153, n153, g153⟩ := h153
                        have hApp := hNt2.app (J2 := I137) (lb := lblN F b j i0) h01 (by rw [g137 q (by omega) (by omega) (by omega) (by omega), hK1, wr_n (by omega)]) (by rw [g137 (q + 4) (by omega) (by omega) (by omega) (by omega), hK1, wr_n (by omega)]) (fun x hx => by rw [hfr4 _ (by omega) (by omega) (by unfold Sc; omega)]) (by rw [show h0 - 6 * t = h by omega, g137 h (by omega) (by omega) (by omega) (by omega), hK1, wr_ss]) n153
                        have hK4 : ∀ i, i ≠ q → i ≠ q + 4 → ¬ Sc k h i → I153 i = I i := fun i i1 i2 i3 => (g153 i i1 i2 (fun e9 => i3 (by unfold Sc at e9 ⊢; omega))).trans (hfr4 i i1 i2 i3)
                        have hC4 : ∀ (q m : Nat), (mvs F b j)[q]? = some m → I153 (h + 5) q = nI m := fun q9 m hm => by
                          rw [g153 _ (by omega) (by omega) (by unfold Sc; omega), g137 _ (by omega) (by omega) (by omega) (by omega), hK1, wr_n (by omega)]; exact hC q9 m hm
                        refine g_iadd C (pc := 156) dX11_countRows_156 ?_
                        refine g_istore C (pc := 157) dX11_countRows_157 (by decide) (fun v157 => [(5, .int v157), (8, .int (nI i0)), (7, .int v78), (6, .int (nI j)), (0, .ref q), (1, .ref a), (2, .ref r), (3, .ref h), (4, .int (nI k))]) (fun _ => rfl) (fun v157 ev157 => ?_)
                        refine g_iinc C (pc := 159) (1) dX11_countRows_159 1 rfl (by decide) (by decide) (fun v159 => [(8, .int v159), (5, .int v157), (7, .int v78), (6, .int (nI j)), (0, .ref q), (1, .ref a), (2, .ref r), (3, .ref h), (4, .int (nI k))]) (fun _ => rfl) (fun v159 ev159 => ?_)
                        refine g_goto C (pc := 162) 83 dX11_countRows_162 (by decide) ?_
                        refine g_lv C [0, 2, 1, 3, 4, 5, 6, 7, 8] rfl (ih83 (i0 + 1) _ _ _ ?_ ?_ ?_ ?_ ?_ ?_ (by omega))
                        · subst ev159; exact nI_1 _
                        · omega
                        · rw [ev157, hS2, e153, fndI, nI_add, ← List.append_assoc, List.length_append (bs := List.map _ _), List.length_map]
                        · rw [fndI, ← List.append_assoc]; exact hApp
                        · exact hK4
                        · exact hC4
                  · refine g_iload C (pc := 90) dX11_countRows_90 0 rfl ?_
                    refine g_if_ne C (pc := 92) 165 dX11_countRows_92 (by decide) (fun c92 => ?_) (fun c92 => ?_)
                    · have hend : i0 = cntM F b j := by
                        have h0 : i0 ≠ 0 := fun h9 => c92 (by rw [h9]; rfl)
                        rw [ev78, e75] at c87
                        have := (nI_leI (by omega) (by omega)).mp c87
                        unfold cntM at hi0 ⊢
                        split at hi0 <;> rename_i hs9
                        · rw [if_pos hs9]; omega
                        · rw [if_neg hs9]; omega
                      refine g_iinc C (pc := 165) (1) dX11_countRows_165 3 rfl (by decide) (by decide) (fun v165 => [(6, .int v165), (8, .int (nI i0)), (7, .int v78), (5, .int wz5), (0, .ref q), (1, .ref a), (2, .ref r), (3, .ref h), (4, .int (nI k))]) (fun _ => rfl) (fun v165 ev165 => ?_)
                      refine g_goto C (pc := 168) 58 dX11_countRows_168 (by decide) ?_
                      refine g_lv C [0, 3, 4, 5, 6, 7, 8] rfl (ih58 (j + 1) _ _ _ ?_ ?_ ?_ ?_ ?_ (by omega))
                      · subst ev165; exact nI_1 _
                      · omega
                      · rw [hS2, fndW, hend]
                      · rw [fndW, ← hend]; exact hNt2
                      · exact hK
                    · have hlt : i0 < cntM F b j := by
                        have h0 : i0 = 0 := (nI_eq (b := 0) (by omega) (by decide)).mp c92
                        have := cntM_pos (F := F) (b := b) (w := j)
                        omega
                      refine g_aload_n C (pc := 95) dX11_countRows_95 7 rfl ?_
                      refine g_bipush C (pc := 96) 100 dX11_countRows_96 (by decide) ?_
                      refine g_iload C (pc := 98) dX11_countRows_98 3 rfl ?_
                      refine g_imul C (pc := 100) dX11_countRows_100 ?_
                      refine g_iload C (pc := 101) dX11_countRows_101 1 rfl ?_
                      refine g_if_le C (pc := 103) 111 dX11_countRows_103 (by decide) (fun c103 => ?_) (fun c103 => ?_)
                      · have hlen0 : (mvs F b j).length = 0 := by
                          rw [ev78, e75] at c103
                          have := (nI_leI (b := 0) (by omega) (by decide)).mp c103
                          omega
                        have hlb : 100 * nI j + 99 = nI (lblN F b j i0) := by
                          unfold lblN
                          rw [if_pos hlen0, show (100 : Int32) = nI 100 from rfl, pk_mul, show (99 : Int32) = nI 99 from rfl, nI_add]
                        refine g_bipush C (pc := 111) 99 dX11_countRows_111 (by decide) ?_
                        refine g_iadd C (pc := 113) dX11_countRows_113 ?_
                        refine g_putI C (pc := 114) fl_RX11_390 (by decide) fp_8_3 (Or.inl rfl) ⟨rfl, rfl⟩ (by first | assumption | rfl | omega) (by first | assumption | rfl | omega) hn9 dX11_countRows_114 ?_
                        obtain ⟨K1, hK1⟩ : ∃ K1, K1 = wr K h 3 (nI (lblN F b j i0)) := ⟨_, rfl⟩
                        rw [hlb, ← hK1]
                        have hrr1 : RR K1 r F := hrrK.cong (fun i hi => by rw [hK1, wr_n (by omega)])
                        have hbr1 : BR K1 (h + 1) F b := hbrK.cong (fun i hi => by rw [hK1, wr_n (by omega)])
                        refine g_aload_n C (pc := 117) dX11_countRows_117 7 rfl ?_
                        refine g_aload_n C (pc := 118) dX11_countRows_118 6 rfl ?_
                        refine g_iload C (pc := 119) dX11_countRows_119 3 rfl ?_
                        refine g_iload C (pc := 121) dX11_countRows_121 1 rfl ?_
                        refine g_if_le C (pc := 123) 135 dX11_countRows_123 (by decide) (fun c123 => ?_) (fun c123 => ?_)
                        · refine g_bipush C (pc := 135) (-4) dX11_countRows_135 (by decide) ?_
                          refine g_callVV C (pc := 137) mf_X9_tread lk_RX11_378 (c_X9_tread n ρ _ h (h - 6) r j F b ((mvs F b j)[i0]?) _ hn9 hsp hnx hgo.1 (fun i k h1 h2 => by omega) (fun i k h1 h2 => by omega) hrf hrr1 hrw hbr1 hbw (by omega) (fun m hm => ⟨(mvs_ok hm).1, (mvs_ok hm).2.1⟩) (by first | (rw [List.eq_nil_of_length_eq_zero hlen0]; rfl) | (rw [e129, List.getElem?_eq_getElem (by omega), hK1, wr_n (by omega), hC i0 _ (List.getElem?_eq_getElem (by omega))]; rfl))) (by omega) (Nat.le_refl _) rfl (by first | assumption | rfl | omega) rfl (by first | assumption | rfl | omega) (Nat.le_of_ble_eq_true rfl) dX11_countRows_137 (fun I137 h137 => ?_)
                          obtain ⟨h137, g137⟩ := h137
                          have hrr4 : RR I137 r F := hrr1.cong (fun i hi => g137 _ (by omega) (by omega) (by omega) (by omega))
                          have hfr4 : ∀ i, i ≠ q → i ≠ q + 4 → ¬ Sc k h i → I137 i = I i := fun i i1 i2 i3 => by
                            have hS9 : ¬ ((h - 6 * k ≤ i ∧ i < h) ∨ i = h ∨ i = h + 5) := i3
                            rw [g137 i (by omega) (by omega) (by omega) (by omega), hK1, wr_n (by omega)]; exact hK i i1 i2 i3
                          have hK01 : K q 4 = 0 ∨ K q 4 = 1 := by
                            cases h9 : fndW F b (fnd F g (k - 1)) j ++ fndI F b (fnd F g (k - 1)) j i0 with
                            | nil => rw [(hNt2.2.2.1 h9).1]; exact h01
                            | cons r9 L9 => exact Or.inr (hNt2.2.2.2 r9 L9 h9).1
                          refine g_iload C (pc := 140) dX11_countRows_140 2 rfl ?_
                          refine g_aload_n C (pc := 142) dX11_countRows_142 4 rfl ?_
                          refine g_aload_n C (pc := 143) dX11_countRows_143 5 rfl ?_
                          refine g_aload_n C (pc := 144) dX11_countRows_144 6 rfl ?_
                          refine g_aload_n C (pc := 145) dX11_countRows_145 7 rfl ?_
                          refine g_getR C (pc := 146) fl_RX11_371 (by decide) (by first | assumption | rfl | omega) (by first | assumption | rfl | omega) (by first | assumption | rfl | omega) dX11_countRows_146 ?_
                          refine g_iload C (pc := 149) dX11_countRows_149 8 rfl ?_
                          refine g_iconst C (pc := 151) 1 dX11_countRows_151 (by decide) ?_
                          refine g_isub C (pc := 152) dX11_countRows_152 ?_
                          refine g_callSI C (pc := 153) mf_X11_countRows lk_RX11_393 (hRec hk0 n ρ I137 q a r (h - 6) h0 (t + 1) dE cE NE nLE yE cE9 Wt F wt g mc _ _ hn9 hrow hc0 hq9 (fun hw => ⟨by rw [g137 q (by omega) (by omega) (by omega) (by omega), hK1, wr_n (by omega), hNt2.2.1 5 (by decide) (by decide)]; exact (hWt hw).1, (hWt hw).2⟩) (by rw [g137 q (by omega) (by omega) (by omega) (by omega), hK1, wr_n (by omega)]; exact hK01) hrf hgo.2 (by omega) (by omega) hrr4 hrw h137 (playB_W hbw (fun m hm => ⟨(mvs_ok hm).1, (mvs_ok hm).2.1⟩)) (by omega) hprn hMF hLA hsa hcla han hdE (fun J9 s9 k9 b9 x9 a1 a2 a3 a4 a5 a6 => hE J9 s9 k9 b9 x9 (fun i i1 i2 i3 => (a1 i i1 i2 i3).trans (hfr4 i i1 i2 (fun e9 => i3 (by unfold Sc at e9; omega)))) a2 a3 a4 a5 a6) (pk_sub (b := 1) (by omega))) (by omega) (Nat.le_refl _) rfl (Nat.le_of_ble_eq_true rfl) dX11_countRows_153 (fun v153 I153 h153 => ?_)
                          obtain ⟨e153, n153, g153⟩ := h153
                          have hApp := hNt2.app (J2 := I137) (lb := lblN F b j i0) h01 (by rw [g137 q (by omega) (by omega) (by omega) (by omega), hK1, wr_n (by omega)]) (by rw [g137 (q + 4) (by omega) (by omega) (by omega) (by omega), hK1, wr_n (by omega)]) (fun x hx => by rw [hfr4 _ (by omega) (by omega) (by unfold Sc; omega)]) (by rw [show h0 - 6 * t = h by omega, g137 h (by omega) (by omega) (by omega) (by omega), hK1, wr_ss]) n153
                          have hK4 : ∀ i, i ≠ q → i ≠ q + 4 → ¬ Sc k h i → I153 i = I i := fun i i1 i2 i3 => (g153 i i1 i2 (fun e9 => i3 (by unfold Sc at e9 ⊢; omega))).trans (hfr4 i i1 i2 i3)
                          have hC4 : ∀ (q m : Nat), (mvs F b j)[q]? = some m → I153 (h + 5) q = nI m := fun q9 m hm => by
                            rw [g153 _ (by omega) (by omega) (by unfold Sc; omega), g137 _ (by omega) (by omega) (by omega) (by omega), hK1, wr_n (by omega)]; exact hC q9 m hm
                          refine g_iadd C (pc := 156) dX11_countRows_156 ?_
                          refine g_istore C (pc := 157) dX11_countRows_157 (by decide) (fun v157 => [(5, .int v157), (8, .int (nI i0)), (7, .int v78), (6, .int (nI j)), (0, .ref q), (1, .ref a), (2, .ref r), (3, .ref h), (4, .int (nI k))]) (fun _ => rfl) (fun v157 ev157 => ?_)
                          refine g_iinc C (pc := 159) (1) dX11_countRows_159 1 rfl (by decide) (by decide) (fun v159 => [(8, .int v159), (5, .int v157), (7, .int v78), (6, .int (nI j)), (0, .ref q), (1, .ref a), (2, .ref r), (3, .ref h), (4, .int (nI k))]) (fun _ => rfl) (fun v159 ev159 => ?_)
                          refine g_goto C (pc := 162) 83 dX11_countRows_162 (by decide) ?_
                          refine g_lv C [0, 2, 1, 3, 4, 5, 6, 7, 8] rfl (ih83 (i0 + 1) _ _ _ ?_ ?_ ?_ ?_ ?_ ?_ (by omega))
                          · subst ev159; exact nI_1 _
                          · omega
                          · rw [ev157, hS2, e153, fndI, nI_add, ← List.append_assoc, List.length_append (bs := List.map _ _), List.length_map]
                          · rw [fndI, ← List.append_assoc]; exact hApp
                          · exact hK4
                          · exact hC4
                        · exfalso; rw [ev78, e75, hlen0] at c123; exact absurd c123 (by decide)
                      · have hlen1 : 0 < (mvs F b j).length := by
                          rw [ev78, e75] at c103
                          exact (nI_ltI (a := 0) (by decide) (by omega)).mp c103
                        have hlt2 : i0 < (mvs F b j).length := by unfold cntM at hlt; rw [if_neg (by omega)] at hlt; exact hlt
                        have hlb : 100 * nI j + nI i0 = nI (lblN F b j i0) := by
                          unfold lblN
                          rw [if_neg (by omega), show (100 : Int32) = nI 100 from rfl, pk_mul, nI_add]
                        refine g_iload C (pc := 106) dX11_countRows_106 0 rfl ?_
                        refine g_goto C (pc := 108) 113 dX11_countRows_108 (by decide) ?_
                        refine g_iadd C (pc := 113) dX11_countRows_113 ?_
                        refine g_putI C (pc := 114) fl_RX11_390 (by decide) fp_8_3 (Or.inl rfl) ⟨rfl, rfl⟩ (by first | assumption | rfl | omega) (by first | assumption | rfl | omega) hn9 dX11_countRows_114 ?_
                        obtain ⟨K1, hK1⟩ : ∃ K1, K1 = wr K h 3 (nI (lblN F b j i0)) := ⟨_, rfl⟩
                        rw [hlb, ← hK1]
                        have hrr1 : RR K1 r F := hrrK.cong (fun i hi => by rw [hK1, wr_n (by omega)])
                        have hbr1 : BR K1 (h + 1) F b := hbrK.cong (fun i hi => by rw [hK1, wr_n (by omega)])
                        refine g_aload_n C (pc := 117) dX11_countRows_117 7 rfl ?_
                        refine g_aload_n C (pc := 118) dX11_countRows_118 6 rfl ?_
                        refine g_iload C (pc := 119) dX11_countRows_119 3 rfl ?_
                        refine g_iload C (pc := 121) dX11_countRows_121 1 rfl ?_
                        refine g_if_le C (pc := 123) 135 dX11_countRows_123 (by decide) (fun c123 => ?_) (fun c123 => ?_)
                        · exfalso; rw [ev78, e75] at c123; have := (nI_leI (b := 0) (by omega) (by decide)).mp c123; omega
                        · refine g_aload_n C (pc := 126) dX11_countRows_126 7 rfl ?_
                          refine g_iload C (pc := 127) dX11_countRows_127 0 rfl ?_
                          refine g_callVI C (pc := 129) mf_X9_moveAt lk_RX11_193 (c_X9_moveAt n ρ K1 h i0 _ hn9 hsp (by omega) rfl) (by omega) (Nat.le_refl _) rfl (by first | assumption | rfl | omega) rfl (by first | assumption | rfl | omega) (Nat.le_of_ble_eq_true rfl) dX11_countRows_129 (fun v129 I129 h129 => ?_)
                          obtain ⟨e129, rfl⟩ := h129
                          refine g_goto C (pc := 132) 137 dX11_countRows_132 (by decide) ?_
                          refine g_callVV C (pc := 137) mf_X9_tread lk_RX11_378 (c_X9_tread n ρ _ h (h - 6) r j F b ((mvs F b j)[i0]?) _ hn9 hsp hnx hgo.1 (fun i k h1 h2 => by omega) (fun i k h1 h2 => by omega) hrf hrr1 hrw hbr1 hbw (by omega) (fun m hm => ⟨(mvs_ok hm).1, (mvs_ok hm).2.1⟩) (by first | (rw [List.eq_nil_of_length_eq_zero hlen0]; rfl) | (rw [e129, List.getElem?_eq_getElem (by omega), hK1, wr_n (by omega), hC i0 _ (List.getElem?_eq_getElem (by omega))]; rfl))) (by omega) (Nat.le_refl _) rfl (by first | assumption | rfl | omega) rfl (by first | assumption | rfl | omega) (Nat.le_of_ble_eq_true rfl) dX11_countRows_137 (fun I137 h137 => ?_)
                          obtain ⟨h137, g137⟩ := h137
                          have hrr4 : RR I137 r F := hrr1.cong (fun i hi => g137 _ (by omega) (by omega) (by omega) (by omega))
                          have hfr4 : ∀ i, i ≠ q → i ≠ q + 4 → ¬ Sc k h i → I137 i = I i := fun i i1 i2 i3 => by
                            have hS9 : ¬ ((h - 6 * k ≤ i ∧ i < h) ∨ i = h ∨ i = h + 5) := i3
                            rw [g137 i (by omega) (by omega) (by omega) (by omega), hK1, wr_n (by omega)]; exact hK i i1 i2 i3
                          have hK01 : K q 4 = 0 ∨ K q 4 = 1 := by
                            cases h9 : fndW F b (fnd F g (k - 1)) j ++ fndI F b (fnd F g (k - 1)) j i0 with
                            | nil => rw [(hNt2.2.2.1 h9).1]; exact h01
                            | cons r9 L9 => exact Or.inr (hNt2.2.2.2 r9 L9 h9).1
                          refine g_iload C (pc := 140) dX11_countRows_140 2 rfl ?_
                          refine g_aload_n C (pc := 142) dX11_countRows_142 4 rfl ?_
                          refine g_aload_n C (pc := 143) dX11_countRows_143 5 rfl ?_
                          refine g_aload_n C (pc := 144) dX11_countRows_144 6 rfl ?_
                          refine g_aload_n C (pc := 145) dX11_countRows_145 7 rfl ?_
                          refine g_getR C (pc := 146) fl_RX11_371 (by decide) (by first | assumption | rfl | omega) (by first | assumption | rfl | omega) (by first | assumption | rfl | omega) dX11_countRows_146 ?_
                          refine g_iload C (pc := 149) dX11_countRows_149 8 rfl ?_
                          refine g_iconst C (pc := 151) 1 dX11_countRows_151 (by decide) ?_
                          refine g_isub C (pc := 152) dX11_countRows_152 ?_
                          refine g_callSI C (pc := 153) mf_X11_countRows lk_RX11_393 (hRec hk0 n ρ I137 q a r (h - 6) h0 (t + 1) dE cE NE nLE yE cE9 Wt F wt g mc _ _ hn9 hrow hc0 hq9 (fun hw => ⟨by rw [g137 q (by omega) (by omega) (by omega) (by omega), hK1, wr_n (by omega), hNt2.2.1 5 (by decide) (by decide)]; exact (hWt hw).1, (hWt hw).2⟩) (by rw [g137 q (by omega) (by omega) (by omega) (by omega), hK1, wr_n (by omega)]; exact hK01) hrf hgo.2 (by omega) (by omega) hrr4 hrw h137 (playB_W hbw (fun m hm => ⟨(mvs_ok hm).1, (mvs_ok hm).2.1⟩)) (by omega) hprn hMF hLA hsa hcla han hdE (fun J9 s9 k9 b9 x9 a1 a2 a3 a4 a5 a6 => hE J9 s9 k9 b9 x9 (fun i i1 i2 i3 => (a1 i i1 i2 i3).trans (hfr4 i i1 i2 (fun e9 => i3 (by unfold Sc at e9; omega)))) a2 a3 a4 a5 a6) (pk_sub (b := 1) (by omega))) (by omega) (Nat.le_refl _) rfl (Nat.le_of_ble_eq_true rfl) dX11_countRows_153 (fun v153 I153 h153 => ?_)
                          obtain ⟨e153, n153, g153⟩ := h153
                          have hApp := hNt2.app (J2 := I137) (lb := lblN F b j i0) h01 (by rw [g137 q (by omega) (by omega) (by omega) (by omega), hK1, wr_n (by omega)]) (by rw [g137 (q + 4) (by omega) (by omega) (by omega) (by omega), hK1, wr_n (by omega)]) (fun x hx => by rw [hfr4 _ (by omega) (by omega) (by unfold Sc; omega)]) (by rw [show h0 - 6 * t = h by omega, g137 h (by omega) (by omega) (by omega) (by omega), hK1, wr_ss]) n153
                          have hK4 : ∀ i, i ≠ q → i ≠ q + 4 → ¬ Sc k h i → I153 i = I i := fun i i1 i2 i3 => (g153 i i1 i2 (fun e9 => i3 (by unfold Sc at e9 ⊢; omega))).trans (hfr4 i i1 i2 i3)
                          have hC4 : ∀ (q m : Nat), (mvs F b j)[q]? = some m → I153 (h + 5) q = nI m := fun q9 m hm => by
                            rw [g153 _ (by omega) (by omega) (by unfold Sc; omega), g137 _ (by omega) (by omega) (by omega) (by omega), hK1, wr_n (by omega)]; exact hC q9 m hm
                          refine g_iadd C (pc := 156) dX11_countRows_156 ?_
                          refine g_istore C (pc := 157) dX11_countRows_157 (by decide) (fun v157 => [(5, .int v157), (8, .int (nI i0)), (7, .int v78), (6, .int (nI j)), (0, .ref q), (1, .ref a), (2, .ref r), (3, .ref h), (4, .int (nI k))]) (fun _ => rfl) (fun v157 ev157 => ?_)
                          refine g_iinc C (pc := 159) (1) dX11_countRows_159 1 rfl (by decide) (by decide) (fun v159 => [(8, .int v159), (5, .int v157), (7, .int v78), (6, .int (nI j)), (0, .ref q), (1, .ref a), (2, .ref r), (3, .ref h), (4, .int (nI k))]) (fun _ => rfl) (fun v159 ev159 => ?_)
                          refine g_goto C (pc := 162) 83 dX11_countRows_162 (by decide) ?_
                          refine g_lv C [0, 2, 1, 3, 4, 5, 6, 7, 8] rfl (ih83 (i0 + 1) _ _ _ ?_ ?_ ?_ ?_ ?_ ?_ (by omega))
                          · subst ev159; exact nI_1 _
                          · omega
                          · rw [ev157, hS2, e153, fndI, nI_add, ← List.append_assoc, List.length_append (bs := List.map _ _), List.length_map]
                          · rw [fndI, ← List.append_assoc]; exact hApp
                          · exact hK4
                          · exact hC4
              refine g_lv C [0, 1, 3, 2, 4, 5, 6, 7, 8] rfl (L83 (_ + 1) 0 _ _ _ ?_ ?_ ?_ ?_ ?_ ?_ (by first | omega | exact Nat.lt_succ_self _))
              · subst ev81; rfl
              · omega
              · rw [hS, fndI, List.append_nil]
              · rw [fndI, List.append_nil]; exact ⟨fun hw i hi => by rw [g75 q (by omega)]; exact hNt.1 hw i hi, fun z h4 h6 => by rw [g75 q (by omega)]; exact hNt.2.1 z h4 h6, fun h9 => by rw [g75 q (by omega), g75 (q + 4) (by omega)]; exact hNt.2.2.1 h9, fun r9 L9 h9 => by rw [g75 q (by omega), g75 (q + 4) (by omega)]; exact hNt.2.2.2 r9 L9 h9⟩
              · intro i h1 h2 h3; rw [g75 i (fun e9 => h3 (by rw [e9]; unfold Sc; omega))]; exact hJ i h1 h2 h3
              · exact f75
        refine g_lv C [0, 1, 2, 3, 4, 5, 6] rfl (L58 (_ + 1) 0 _ _ _ ?_ ?_ ?_ ?_ ?_ (by first | omega | exact Nat.lt_succ_self _))
        · subst ev56; rfl
        · omega
        · subst ev53; rfl
        · exact NtP.nil rfl rfl
        · intro i _ _ _; rfl
      · have hno : lostP F b ≠ none := fun h9 => c47 (by rw [e42, lostB_none.mpr h9]; rfl)
        refine g_iconst C (pc := 50) 0 dX11_countRows_50 (by decide) ?_
        refine g_iret C hR (pc := 51) rfl dX11_countRows_51 ?_
        refine ⟨rfl, _, rfl, ?_⟩
        have hz : fnd F g k b = [] := by rw [hkk, fnd, if_neg hno]
        rw [hz]; exact ⟨rfl, NtP.nil rfl rfl, fun _ _ _ _ => rfl⟩
    · have hk0 : k = 0 := by
        have := (nI_leI (a := k) (b := 0) (by omega) (by decide)).mp c17
        omega
      refine g_aload_n C (pc := 20) dX11_countRows_20 0 rfl ?_
      refine g_aload_n C (pc := 21) dX11_countRows_21 3 rfl ?_
      refine g_getR C (pc := 22) fl_RX11_210 (by decide) (by first | assumption | rfl | omega) (by first | assumption | rfl | omega) (by first | assumption | rfl | omega) dX11_countRows_22 ?_
      refine g_callVV C (pc := 25) mf_X6_note lk_RX11_387 (c_X6_note n ρ I q h0 (h + 1) F b wt Wt hn9 hrow hc0 hq9 hWt h01 hp4 hrw hbr hbw) (by omega) (Nat.le_refl _) rfl (by first | assumption | rfl | omega) rfl (by first | assumption | rfl | omega) (Nat.le_of_ble_eq_true rfl) dX11_countRows_25 (fun I25 h25 => ?_)
      obtain ⟨a25, b25, d25, e25, f25, g25⟩ := h25
      refine g_iconst C (pc := 28) 1 dX11_countRows_28 (by decide) ?_
      refine g_iret C hR (pc := 29) rfl dX11_countRows_29 ?_
      refine ⟨rfl, _, rfl, ?_⟩
      have hg9 : g b = true := by rw [← hprn.1 b hbw, ← hk0]; exact hmc
      have hz : fnd F g k b = [([], b)] := by rw [hk0, fnd, if_pos hg9]
      rw [hz]
      refine ⟨rfl, ⟨fun hw i hi => ?_, b25, fun h9 => by (cases h9), fun r9 L9 h9 => ?_⟩, fun i h1 h2 _ => g25 i h1 h2⟩
      · rw [a25 hw i hi]; simp
      · obtain ⟨rfl, rfl⟩ := List.cons.inj h9
        exact ⟨d25, e25, fun h8 => ⟨fun x l hx => by simp at hx, fun x hx => f25 h8 x (by omega)⟩⟩
  · have hmc : mc k b = false := by
      rw [e7, bI_0] at c10
      exact Bool.not_eq_true _ ▸ c10
    refine g_iconst C (pc := 13) 0 dX11_countRows_13 (by decide) ?_
    refine g_iret C hR (pc := 14) rfl dX11_countRows_14 ?_
    refine ⟨rfl, _, rfl, ?_⟩
    have hz : fnd F g k b = [] := hprn.2 k b hbw hmc
    rw [hz]; exact ⟨rfl, NtP.nil rfl rfl, fun _ _ _ _ => rfl⟩
theorem cnt_of {k : Nat} (hC : 0 < k → CntC (k - 1)) : CntC k := by
  intro n ρ I q a r h h0 t dE cE NE nLE yE cE9 Wt F wt g mc b xk h1 h2 h3 h4 h5 h6 h7 h8 h9 h10 h11 h12 h13 h14 h15 h16 h17 h18 h19 h20 h21 h22 h23 h24
  exact c_X11_countRows n ρ I q a r h h0 t k dE cE NE nLE yE cE9 Wt F wt g mc b xk h1 h2 h3 h4 h5 h6 h7 h8 h9 h10 h11 h12 h13 h14 h15 h16 h17 h18 h19 h20 h21 h22 h23 h24 hC
theorem cnt_all : ∀ k, CntC k
  | 0 => cnt_of (fun h => absurd h (Nat.lt_irrefl 0))
  | k + 1 => cnt_of (fun _ => cnt_all k)
