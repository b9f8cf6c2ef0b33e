def T8 (I I1 : Mem) : Prop := (∀ z, z = 2 ∨ z = 3 ∨ z = 6 ∨ z = 7 ∨ z = 8 → I1 15 z = I 15 z) ∧ ∀ i, i ≠ 15 → I1 i = I i
theorem T8.tr {I J K : Mem} (a : T8 I J) (b : T8 J K) : T8 I K := ⟨fun z h => (b.1 z h).trans (a.1 z h), fun i h => (b.2 i h).trans (a.2 i h)⟩
theorem T8.tf {I J : Mem} (a : T8 I J) : TFr I J := ⟨fun i h _ => a.2 i h, a.1 2 (Or.inl rfl), a.1 3 (Or.inr (Or.inl rfl))⟩
theorem T8.w {I J : Mem} {z : Nat} {x : Int32} (a : T8 I J) (h2 : ¬ (z = 2 ∨ z = 3 ∨ z = 6 ∨ z = 7 ∨ z = 8)) : T8 I (wr J 15 z x) := ⟨fun q h => by rw [wr_sn (fun e => h2 (by rw [← e]; exact h))]; exact a.1 q h, fun i h => by rw [wr_n h]; exact a.2 i h⟩
theorem T8.dr {I J : Mem} {D : DT} (a : T8 I J) (h : DrR I D) : DrR J D := h.cong (fun i h1 _ => a.2 i (by omega)) (a.1 6 (by simp)) (a.1 7 (by simp)) (a.1 8 (by simp))
def NmP (I I1 : Mem) (v : Int32) (r : PRs (Nat × Nat × Nat)) : Prop := (∀ e, r = .inl e → v = 0 ∧ I1 15 4 = nI e.1 ∧ I1 15 5 = nI e.2) ∧ (∀ q, r = .inr q → v = 1 ∧ I1 15 12 = nI q.1 ∧ I1 15 11 = nI q.2.1 ∧ I1 15 9 = nI q.2.2 ∧ I1 15 4 = I 15 4) ∧ T8 I I1
def SgP (I I1 : Mem) (v : Int32) (r : PRs Nat) : Prop := (∀ e, r = .inl e → v = 0 ∧ I1 15 4 = nI e.1 ∧ I1 15 5 = nI e.2) ∧ (∀ q, r = .inr q → v = 1 ∧ I1 15 9 = nI q ∧ I1 15 4 = I 15 4) ∧ T8 I I1
def LnP (I I1 : Mem) (v : Int32) (r : PRs (DT × Nat)) : Prop := (∀ e, r = .inl e → v = 0 ∧ I1 15 4 = nI e.1 ∧ I1 15 5 = nI e.2) ∧ (∀ q, r = .inr q → v = 1 ∧ DrR I1 q.1 ∧ I1 15 9 = nI q.2 ∧ I1 15 4 = I 15 4) ∧ TFr I I1
theorem NmP.f {I I1 : Mem} {v : Int32} {r : PRs (Nat × Nat × Nat)} (h : NmP I I1 v r) (hv : v = 0) : ∃ e, r = .inl e ∧ I1 15 4 = nI e.1 ∧ I1 15 5 = nI e.2 := by
  cases e : r with
  | inl q => exact ⟨q, rfl, (h.1 q e).2⟩
  | inr q => exact absurd ((h.2.1 q e).1.symm.trans hv) (by decide)
theorem NmP.t {I I1 : Mem} {v : Int32} {r : PRs (Nat × Nat × Nat)} (h : NmP I I1 v r) (hv : ¬ v = 0) : ∃ q, r = .inr q ∧ I1 15 12 = nI q.1 ∧ I1 15 11 = nI q.2.1 ∧ I1 15 9 = nI q.2.2 ∧ I1 15 4 = I 15 4 := by
  cases e : r with
  | inl q => exact absurd (h.1 q e).1 hv
  | inr q => exact ⟨q, rfl, (h.2.1 q e).2⟩
theorem SgP.f {I I1 : Mem} {v : Int32} {r : PRs Nat} (h : SgP I I1 v r) (hv : v = 0) : ∃ e, r = .inl e ∧ I1 15 4 = nI e.1 ∧ I1 15 5 = nI e.2 := by
  cases e : r with
  | inl q => exact ⟨q, rfl, (h.1 q e).2⟩
  | inr q => exact absurd ((h.2.1 q e).1.symm.trans hv) (by decide)
theorem SgP.t {I I1 : Mem} {v : Int32} {r : PRs Nat} (h : SgP I I1 v r) (hv : ¬ v = 0) : ∃ q, r = .inr q ∧ I1 15 9 = nI q ∧ I1 15 4 = I 15 4 := by
  cases e : r with
  | inl q => exact absurd (h.1 q e).1 hv
  | inr q => exact ⟨q, rfl, (h.2.1 q e).2⟩
theorem LnP.f {I I1 : Mem} {v : Int32} {r : PRs (DT × Nat)} (h : LnP I I1 v r) (hv : v = 0) : ∃ e, r = .inl e ∧ I1 15 4 = nI e.1 ∧ I1 15 5 = nI e.2 := by
  cases e : r with
  | inl q => exact ⟨q, rfl, (h.1 q e).2⟩
  | inr q => exact absurd ((h.2.1 q e).1.symm.trans hv) (by decide)
theorem LnP.t {I I1 : Mem} {v : Int32} {r : PRs (DT × Nat)} (h : LnP I I1 v r) (hv : ¬ v = 0) : ∃ q, r = .inr q ∧ DrR I1 q.1 ∧ I1 15 9 = nI q.2 ∧ I1 15 4 = I 15 4 := by
  cases e : r with
  | inl q => exact absurd (h.1 q e).1 hv
  | inr q => exact ⟨q, rfl, (h.2.1 q e).2⟩
theorem rdNum_ok {tb : Nat → Nat} {L lo hi p : Nat} {q : Nat × Nat × Nat} (hp : p ≤ L) (h : rdNum tb L lo hi p = .inr q) : lo ≤ q.1 ∧ q.1 ≤ hi ∧ q.2.1 ≤ L ∧ q.2.2 ≤ L := by
  unfold rdNum at h
  have h1 := tkF_le (tb := tb) hp
  have h2 := tkE_le (tb := tb) hp
  split at h
  · cases h
  · split at h
    · cases h
    · split at h
      · rename_i h3
        cases h
        exact ⟨h3.1, h3.2, h1.2, h2.2⟩
      · cases h
theorem rdSgn_ok {tb : Nat → Nat} {L p q : Nat} (hp : p ≤ L) (h : rdSgn tb L p = .inr q) : q ≤ L := by
  unfold rdSgn at h
  have h2 := tkE_le (tb := tb) hp
  split at h
  · cases h
  · split at h
    · cases h; exact h2.2
    · cases h
theorem tkV_lt {tb : Nat → Nat} {L p : Nat} (hK : tkK tb L p = 2) (hb : ∀ i, i < L → tb i < 256) (hp : p ≤ L) : tkV tb L p < 100000 := by
  have hF : tkF tb L p < L := by
    unfold tkK at hK
    split at hK
    · exact absurd hK (by decide)
    · omega
  have h1 := hb _ hF
  unfold tkV
  split
  · rename_i h2
    have hr := runT_le (tb := tb) (lo := 48) (hi := 57) (show tkF tb L p ≤ L by omega)
    have := hb (tkF tb L p + 1) (by omega)
    omega
  · omega
theorem rdFree_ok {tb : Nat → Nat} {L p : Nat} {D : DT} {q : Nat × Nat × Nat} (hp : p ≤ L) (h : rdFree tb L D p = .inr q) : q.1 ≤ 24 ∧ q.2.1 ≤ L ∧ q.2.2 ≤ L ∧ rS (dF D) q.1 = false ∧ pon (dF D) (dB D) q.1 = none := by
  unfold rdFree at h
  cases e : rdNum tb L 0 24 p with
  | inl x => rw [e] at h; cases h
  | inr x =>
    rw [pb_r e] at h
    have := rdNum_ok hp e
    split at h
    · rename_i h2
      cases h
      exact ⟨this.2.1, this.2.2.1, this.2.2.2, h2⟩
    · cases h
theorem str_lt : ∀ i, i < 9 → ∀ k, k < 10 → k < strN.getD i 0 → (strC.getD i []).getD k 0 < 128 := by decide +kernel
theorem tkK_lt {tb : Nat → Nat} {L p : Nat} : tkK tb L p < 5 := by
  unfold tkK
  repeat' split
  all_goals decide
set_option maxHeartbeats 400000 in
theorem c_X10_isName (n : Nat) (ρ : Rho) (I : Mem) (L : Nat) (tb : Nat → Nat) (i k f e : Nat) (hn9 : n ≤ 999) (hxs : XS n ρ) (htb : TbR I L tb) (hi9 : i < 9) (hk10 : I 15 10 = nI k) (he9 : I 15 9 = nI e) (hf11 : I 15 11 = nI f) (hfe : f ≤ e) (heL : e ≤ L) (hk5 : k < 5) : MI yX10_isName cX10_isName 3 (some .boolean) 5 [.ref 15, .ref (1000 + i)] n ρ I (fun v I1 => v = bI (k = 1 ∧ isN tb i f e = true) ∧ I = I1) := by
  refine MG.of (by decide +kernel) (Nat.le_of_ble_eq_true rfl) hn9 ?_
  intro κ C hR
  show G κ n ρ 0 [(0, .ref 15), (1, .ref (1000 + i))] [] I
  obtain ⟨hxc, ⟨xb1, xb2, xb3, xb4, xb5, xb6, xb8⟩, ⟨xi0, xi1, xga, xgb⟩, ⟨xt0, xt1, xgd⟩, hch, ⟨xr0, xr1, xr2⟩, xa0, ⟨xw0, xw1⟩, xst⟩ := id hxs
  obtain ⟨xc0, xcn, xc1, hga, xc7, hss⟩ := id hxc
  have xcz : 0 < n := by omega
  obtain ⟨ga0, ga1, ga2, ga3, ga4, ga5, ga6, ga7, ga8, gan, hrf, hst⟩ := id hga
  have hrf0 := hrf.1
  have hst0 := hst.1
  have hsp := hch.sp
  obtain ⟨hp0, hpn, hp1, hp2, hp3, hp4⟩ := id hsp
  obtain ⟨hL, hL3, htbs⟩ := id htb
  have hs9 := str_ok i hi9
  refine g_aload_n C (pc := 0) dX10_isName_0 0 rfl ?_
  refine g_getI C (pc := 1) fl_RX10_55 (by decide) (by first | assumption | rfl | omega) (by first | assumption | rfl | omega) dX10_isName_1 ?_
  refine g_iconst C (pc := 4) 1 dX10_isName_4 (by decide) ?_
  refine g_icmp_ne C (pc := 5) 24 dX10_isName_5 (by decide) (fun c5 => ?_) (fun c5 => ?_)
  · have hk1 : ¬ k = 1 := fun h9 => c5 (by rw [hk10, h9]; rfl)
    refine g_iconst C (pc := 24) 0 dX10_isName_24 (by decide) ?_
    refine g_zret C hR (pc := 25) rfl rfl dX10_isName_25 ?_
    refine ⟨rfl, _, rfl, ?_⟩
    refine ⟨?_, rfl⟩
    rw [bI_f]
    rintro ⟨h1, h2⟩
    first | exact hk1 h1 | (unfold isN at h2; rw [Bool.and_eq_true, decide_eq_true_eq] at h2; exact hln h2.1)
  · have hk1 : k = 1 := by
      rw [hk10] at c5
      exact (nI_eq (b := 1) (by omega) (by decide)).mp c5
    refine g_aload_n C (pc := 8) dX10_isName_8 0 rfl ?_
    refine g_getI C (pc := 9) fl_RX10_29 (by decide) (by first | assumption | rfl | omega) (by first | assumption | rfl | omega) dX10_isName_9 ?_
    refine g_aload_n C (pc := 12) dX10_isName_12 0 rfl ?_
    refine g_getI C (pc := 13) fl_RX10_93 (by decide) (by first | assumption | rfl | omega) (by first | assumption | rfl | omega) dX10_isName_13 ?_
    refine g_isub C (pc := 16) dX10_isName_16 ?_
    refine g_aload_n C (pc := 17) dX10_isName_17 1 rfl ?_
    refine g_callStr C (pc := 18) mf_J0_length_8abf5 lk_RX10_203 (c_J0_length_8abf5 n ρ I i hn9 hi9) (by decide) (Nat.le_refl _) rfl hi9 rfl (Nat.le_of_ble_eq_true rfl) dX10_isName_18 (fun v18 I18 h18 => ?_)
    obtain ⟨e18, rfl⟩ := h18
    refine g_icmp_eq C (pc := 21) 26 dX10_isName_21 (by decide) (fun c21 => ?_) (fun c21 => ?_)
    · have hln : e - f = (strN.getD i 0) := by
        rw [he9, hf11, e18, pk_sub hfe] at c21
        exact (nI_eq (by omega) (by omega)).mp c21
      refine g_iconst C (pc := 26) 0 dX10_isName_26 (by decide) ?_
      refine g_istore_n C (pc := 27) dX10_isName_27 (by decide) (fun v27 => [(2, .int v27), (0, .ref 15), (1, .ref (1000 + i))]) (fun _ => rfl) (fun v27 ev27 => ?_)
      have L28 : ∀ (k9 : Nat) (j : Nat) (wz2 : Int32) (hw2 : wz2 = nI j) (hj : j ≤ (strN.getD i 0)) (hA : ∀ q, q < j → tb (f + q) = (strC.getD i []).getD q 0), (strN.getD i 0) - j < k9 → G κ n ρ 28 [(2, .int wz2), (0, .ref 15), (1, .ref (1000 + i))] [] I := by
        intro k9
        induction k9 with
        | zero => intro j wz2 hw2 hj hA hm28; exact absurd hm28 (Nat.not_lt_zero _)
        | succ k9 ih28 =>
          intro j wz2 hw2 hj hA hm28
          subst hw2
          refine g_iload_n C (pc := 28) dX10_isName_28 0 rfl ?_
          refine g_aload_n C (pc := 29) dX10_isName_29 2 rfl ?_
          refine g_callStr C (pc := 30) mf_J0_length_8abf5 lk_RX10_203 (c_J0_length_8abf5 n ρ I i hn9 hi9) (by decide) (Nat.le_refl _) rfl hi9 rfl (Nat.le_of_ble_eq_true rfl) dX10_isName_30 (fun v30 I30 h30 => ?_)
          obtain ⟨e30, rfl⟩ := h30
          refine g_icmp_ge C (pc := 33) 62 dX10_isName_33 (by decide) (fun c33 => ?_) (fun c33 => ?_)
          · rw [e30, nI_leI (by omega) (by omega)] at c33
            refine g_iconst C (pc := 62) 1 dX10_isName_62 (by decide) ?_
            refine g_zret C hR (pc := 63) rfl rfl dX10_isName_63 ?_
            refine ⟨rfl, _, rfl, ?_⟩
            refine ⟨?_, rfl⟩
            rw [bI_t]
            refine ⟨hk1, ?_⟩
            unfold isN
            rw [Bool.and_eq_true, decide_eq_true_eq, List.all_eq_true]
            exact ⟨hln, fun q hq => by rw [decide_eq_true_eq]; exact hA q (by have := List.mem_range.mp hq; omega)⟩
          · rw [e30, nI_ltI (by omega) (by omega)] at c33
            have hlt : f + j < L := by omega
            refine g_aload_n C (pc := 36) dX10_isName_36 1 rfl ?_
            refine g_aload_n C (pc := 37) dX10_isName_37 1 rfl ?_
            refine g_getI C (pc := 38) fl_RX10_93 (by decide) (by first | assumption | rfl | omega) (by first | assumption | rfl | omega) dX10_isName_38 ?_
            refine g_iload_n C (pc := 41) dX10_isName_41 0 rfl ?_
            refine g_iadd C (pc := 42) dX10_isName_42 ?_
            refine g_callVI C (pc := 43) mf_X10_byteAt lk_RX10_200 (c_X10_byteAt n ρ I L tb (f + j) _ hn9 hxs htb (by omega) (by rw [hf11, nI_add])) (by decide) (Nat.le_refl _) rfl (by first | assumption | rfl | omega) rfl (by first | assumption | rfl | omega) (Nat.le_of_ble_eq_true rfl) dX10_isName_43 (fun v43 I43 h43 => ?_)
            obtain ⟨e43, rfl⟩ := h43
            rw [if_pos hlt] at e43
            obtain ⟨hb1, hb2⟩ := htbs _ hlt
            refine g_aload_n C (pc := 46) dX10_isName_46 2 rfl ?_
            refine g_iload_n C (pc := 47) dX10_isName_47 0 rfl ?_
            refine g_callStr C (pc := 48) mf_J0_charAt_5068e lk_RX10_207 (c_J0_charAt_5068e n ρ I i j _ hn9 hi9 (by omega) rfl) (by decide) (Nat.le_refl _) rfl hi9 rfl (Nat.le_of_ble_eq_true rfl) dX10_isName_48 (fun v48 I48 h48 => ?_)
            obtain ⟨e48, rfl⟩ := h48
            have hch := (str_ch i hi9 j (by omega) (by omega))
            have hcl := str_lt i hi9 j (by omega) (by omega)
            refine g_icmp_eq C (pc := 51) 56 dX10_isName_51 (by decide) (fun c51 => ?_) (fun c51 => ?_)
            · have heq : tb (f + j) = (strC.getD i []).getD j 0 := by
                rw [e43, e48] at c51
                exact (cB_eq hb2 hcl).mp c51
              refine g_iinc C (pc := 56) (1) dX10_isName_56 0 rfl (by decide) (by decide) (fun v56 => [(2, .int v56), (0, .ref 15), (1, .ref (1000 + i))]) (fun _ => rfl) (fun v56 ev56 => ?_)
              refine g_goto C (pc := 59) 28 dX10_isName_59 (by decide) ?_
              refine g_lv C [0, 1, 2] rfl (ih28 (j + 1) _ ?_ ?_ ?_ (by omega))
              · subst_vars; exact nI_1 _
              · omega
              · intro q hq
                rcases Nat.lt_or_ge q j with h1 | h1
                · exact hA q h1
                · have : q = j := by omega
                  subst this; exact heq
            · have hne : ¬ tb (f + j) = (strC.getD i []).getD j 0 := fun h9 => c51 (by rw [e43, e48]; exact (cB_eq hb2 hcl).mpr h9)
              refine g_iconst C (pc := 54) 0 dX10_isName_54 (by decide) ?_
              refine g_zret C hR (pc := 55) rfl rfl dX10_isName_55 ?_
              refine ⟨rfl, _, rfl, ?_⟩
              refine ⟨?_, rfl⟩
              rw [bI_f]
              rintro ⟨h1, h2⟩
              unfold isN at h2
              rw [Bool.and_eq_true, List.all_eq_true] at h2
              have := h2.2 j (List.mem_range.mpr c33)
              rw [decide_eq_true_eq] at this
              exact hne this
      refine g_lv C [0, 1, 2] rfl (L28 (_ + 1) 0 _ ?_ ?_ ?_ (by first | omega | exact Nat.lt_succ_self _))
      · subst_vars; rfl
      · omega
      · intro q hq; omega
    · have hln : ¬ e - f = (strN.getD i 0) := fun h9 => c21 (by rw [he9, hf11, e18, pk_sub hfe, h9])
      refine g_iconst C (pc := 24) 0 dX10_isName_24 (by decide) ?_
      refine g_zret C hR (pc := 25) rfl rfl dX10_isName_25 ?_
      refine ⟨rfl, _, rfl, ?_⟩
      refine ⟨?_, rfl⟩
      rw [bI_f]
      rintro ⟨h1, h2⟩
      first | exact hk1 h1 | (unfold isN at h2; rw [Bool.and_eq_true, decide_eq_true_eq] at h2; exact hln h2.1)
set_option maxHeartbeats 400000 in
theorem c_X10_kindNamed (n : Nat) (ρ : Rho) (I : Mem) (L : Nat) (tb : Nat → Nat) (k f e : Nat) (hn9 : n ≤ 999) (hxs : XS n ρ) (htb : TbR I L tb) (hk10 : I 15 10 = nI k) (he9 : I 15 9 = nI e) (hf11 : I 15 11 = nI f) (hfe : f ≤ e) (heL : e ≤ L) (hk5 : k < 5) : MI yX10_kindNamed cX10_kindNamed 1 (some .int) 6 [.ref 15] n ρ I (fun v I1 => v = oI (if k = 1 then kdN tb f e else none) ∧ I = I1) := by
  refine MG.of (by decide +kernel) (Nat.le_of_ble_eq_true rfl) hn9 ?_
  intro κ C hR
  show G κ n ρ 0 [(0, .ref 15)] [] I
  obtain ⟨hxc, ⟨xb1, xb2, xb3, xb4, xb5, xb6, xb8⟩, ⟨xi0, xi1, xga, xgb⟩, ⟨xt0, xt1, xgd⟩, hch, ⟨xr0, xr1, xr2⟩, xa0, ⟨xw0, xw1⟩, xst⟩ := id hxs
  obtain ⟨xc0, xcn, xc1, hga, xc7, hss⟩ := id hxc
  have xcz : 0 < n := by omega
  obtain ⟨ga0, ga1, ga2, ga3, ga4, ga5, ga6, ga7, ga8, gan, hrf, hst⟩ := id hga
  have hrf0 := hrf.1
  have hst0 := hst.1
  have hsp := hch.sp
  obtain ⟨hp0, hpn, hp1, hp2, hp3, hp4⟩ := id hsp
  obtain ⟨hL, hL3, htbs⟩ := id htb
  refine g_aload_n C (pc := 0) dX10_kindNamed_0 0 rfl ?_
  refine g_ldcS C (pc := 1) 5 rfl rfl dX10_kindNamed_1 ?_
  refine g_callVI C (pc := 3) mf_X10_isName lk_RX10_66 (c_X10_isName n ρ I L tb 5 k f e hn9 hxs htb (by decide) hk10 he9 hf11 hfe heL hk5) (by decide) (Nat.le_refl _) rfl (by first | assumption | rfl | omega) rfl (by first | assumption | rfl | omega) (Nat.le_of_ble_eq_true rfl) dX10_kindNamed_3 (fun v3 I3 h3 => ?_)
  obtain ⟨e3, rfl⟩ := h3
  refine g_if_eq C (pc := 6) 11 dX10_kindNamed_6 (by decide) (fun c6 => ?_) (fun c6 => ?_)
  · have hn5 := bI_0.mp (e3.symm.trans c6)
    refine g_aload_n C (pc := 11) dX10_kindNamed_11 0 rfl ?_
    refine g_ldcS C (pc := 12) 6 rfl rfl dX10_kindNamed_12 ?_
    refine g_callVI C (pc := 14) mf_X10_isName lk_RX10_66 (c_X10_isName n ρ I L tb 6 k f e hn9 hxs htb (by decide) hk10 he9 hf11 hfe heL hk5) (by decide) (Nat.le_refl _) rfl (by first | assumption | rfl | omega) rfl (by first | assumption | rfl | omega) (Nat.le_of_ble_eq_true rfl) dX10_kindNamed_14 (fun v14 I14 h14 => ?_)
    obtain ⟨e14, rfl⟩ := h14
    refine g_if_eq C (pc := 17) 22 dX10_kindNamed_17 (by decide) (fun c17 => ?_) (fun c17 => ?_)
    · have hn6 := bI_0.mp (e14.symm.trans c17)
      refine g_aload_n C (pc := 22) dX10_kindNamed_22 0 rfl ?_
      refine g_ldcS C (pc := 23) 7 rfl rfl dX10_kindNamed_23 ?_
      refine g_callVI C (pc := 25) mf_X10_isName lk_RX10_66 (c_X10_isName n ρ I L tb 7 k f e hn9 hxs htb (by decide) hk10 he9 hf11 hfe heL hk5) (by decide) (Nat.le_refl _) rfl (by first | assumption | rfl | omega) rfl (by first | assumption | rfl | omega) (Nat.le_of_ble_eq_true rfl) dX10_kindNamed_25 (fun v25 I25 h25 => ?_)
      obtain ⟨e25, rfl⟩ := h25
      refine g_if_eq C (pc := 28) 33 dX10_kindNamed_28 (by decide) (fun c28 => ?_) (fun c28 => ?_)
      · have hn7 := bI_0.mp (e25.symm.trans c28)
        refine g_aload_n C (pc := 33) dX10_kindNamed_33 0 rfl ?_
        refine g_ldcS C (pc := 34) 8 rfl rfl dX10_kindNamed_34 ?_
        refine g_callVI C (pc := 36) mf_X10_isName lk_RX10_66 (c_X10_isName n ρ I L tb 8 k f e hn9 hxs htb (by decide) hk10 he9 hf11 hfe heL hk5) (by decide) (Nat.le_refl _) rfl (by first | assumption | rfl | omega) rfl (by first | assumption | rfl | omega) (Nat.le_of_ble_eq_true rfl) dX10_kindNamed_36 (fun v36 I36 h36 => ?_)
        obtain ⟨e36, rfl⟩ := h36
        refine g_if_eq C (pc := 39) 46 dX10_kindNamed_39 (by decide) (fun c39 => ?_) (fun c39 => ?_)
        · have hn8 := bI_0.mp (e36.symm.trans c39)
          refine g_bipush C (pc := 46) (-4) dX10_kindNamed_46 (by decide) ?_
          refine g_iret C hR (pc := 48) rfl dX10_kindNamed_48 ?_
          refine ⟨rfl, _, rfl, ?_⟩
          refine ⟨?_, rfl⟩
          unfold kdN
          by_cases hk1 : k = 1
          · rw [if_pos hk1]
            first
            | (rw [if_pos hy5.2]; rfl)
            | (rw [if_neg (fun h => hn5 ⟨hk1, h⟩), if_pos hy6.2]; rfl)
            | (rw [if_neg (fun h => hn5 ⟨hk1, h⟩), if_neg (fun h => hn6 ⟨hk1, h⟩), if_pos hy7.2]; rfl)
            | (rw [if_neg (fun h => hn5 ⟨hk1, h⟩), if_neg (fun h => hn6 ⟨hk1, h⟩), if_neg (fun h => hn7 ⟨hk1, h⟩), if_pos hy8.2]; rfl)
            | (rw [if_neg (fun h => hn5 ⟨hk1, h⟩), if_neg (fun h => hn6 ⟨hk1, h⟩), if_neg (fun h => hn7 ⟨hk1, h⟩), if_neg (fun h => hn8 ⟨hk1, h⟩)]; rfl)
          · rw [if_neg hk1]
            first
            | rfl
            | exact absurd hy5.1 hk1
            | exact absurd hy6.1 hk1
            | exact absurd hy7.1 hk1
            | exact absurd hy8.1 hk1
        · have hy8 := bI_1.mp (fun h => c39 (e36.trans h))
          refine g_iconst C (pc := 42) 3 dX10_kindNamed_42 (by decide) ?_
          refine g_goto C (pc := 43) 48 dX10_kindNamed_43 (by decide) ?_
          refine g_iret C hR (pc := 48) rfl dX10_kindNamed_48 ?_
          refine ⟨rfl, _, rfl, ?_⟩
          refine ⟨?_, rfl⟩
          unfold kdN
          by_cases hk1 : k = 1
          · rw [if_pos hk1]
            first
            | (rw [if_pos hy5.2]; rfl)
            | (rw [if_neg (fun h => hn5 ⟨hk1, h⟩), if_pos hy6.2]; rfl)
            | (rw [if_neg (fun h => hn5 ⟨hk1, h⟩), if_neg (fun h => hn6 ⟨hk1, h⟩), if_pos hy7.2]; rfl)
            | (rw [if_neg (fun h => hn5 ⟨hk1, h⟩), if_neg (fun h => hn6 ⟨hk1, h⟩), if_neg (fun h => hn7 ⟨hk1, h⟩), if_pos hy8.2]; rfl)
            | (rw [if_neg (fun h => hn5 ⟨hk1, h⟩), if_neg (fun h => hn6 ⟨hk1, h⟩), if_neg (fun h => hn7 ⟨hk1, h⟩), if_neg (fun h => hn8 ⟨hk1, h⟩)]; rfl)
          · rw [if_neg hk1]
            first
            | rfl
            | exact absurd hy5.1 hk1
            | exact absurd hy6.1 hk1
            | exact absurd hy7.1 hk1
            | exact absurd hy8.1 hk1
      · have hy7 := bI_1.mp (fun h => c28 (e25.trans h))
        refine g_iconst C (pc := 31) 2 dX10_kindNamed_31 (by decide) ?_
        refine g_iret C hR (pc := 32) rfl dX10_kindNamed_32 ?_
        refine ⟨rfl, _, rfl, ?_⟩
        refine ⟨?_, rfl⟩
        unfold kdN
        by_cases hk1 : k = 1
        · rw [if_pos hk1]
          first
          | (rw [if_pos hy5.2]; rfl)
          | (rw [if_neg (fun h => hn5 ⟨hk1, h⟩), if_pos hy6.2]; rfl)
          | (rw [if_neg (fun h => hn5 ⟨hk1, h⟩), if_neg (fun h => hn6 ⟨hk1, h⟩), if_pos hy7.2]; rfl)
          | (rw [if_neg (fun h => hn5 ⟨hk1, h⟩), if_neg (fun h => hn6 ⟨hk1, h⟩), if_neg (fun h => hn7 ⟨hk1, h⟩), if_pos hy8.2]; rfl)
          | (rw [if_neg (fun h => hn5 ⟨hk1, h⟩), if_neg (fun h => hn6 ⟨hk1, h⟩), if_neg (fun h => hn7 ⟨hk1, h⟩), if_neg (fun h => hn8 ⟨hk1, h⟩)]; rfl)
        · rw [if_neg hk1]
          first
          | rfl
          | exact absurd hy5.1 hk1
          | exact absurd hy6.1 hk1
          | exact absurd hy7.1 hk1
          | exact absurd hy8.1 hk1
    · have hy6 := bI_1.mp (fun h => c17 (e14.trans h))
      refine g_iconst C (pc := 20) 1 dX10_kindNamed_20 (by decide) ?_
      refine g_iret C hR (pc := 21) rfl dX10_kindNamed_21 ?_
      refine ⟨rfl, _, rfl, ?_⟩
      refine ⟨?_, rfl⟩
      unfold kdN
      by_cases hk1 : k = 1
      · rw [if_pos hk1]
        first
        | (rw [if_pos hy5.2]; rfl)
        | (rw [if_neg (fun h => hn5 ⟨hk1, h⟩), if_pos hy6.2]; rfl)
        | (rw [if_neg (fun h => hn5 ⟨hk1, h⟩), if_neg (fun h => hn6 ⟨hk1, h⟩), if_pos hy7.2]; rfl)
        | (rw [if_neg (fun h => hn5 ⟨hk1, h⟩), if_neg (fun h => hn6 ⟨hk1, h⟩), if_neg (fun h => hn7 ⟨hk1, h⟩), if_pos hy8.2]; rfl)
        | (rw [if_neg (fun h => hn5 ⟨hk1, h⟩), if_neg (fun h => hn6 ⟨hk1, h⟩), if_neg (fun h => hn7 ⟨hk1, h⟩), if_neg (fun h => hn8 ⟨hk1, h⟩)]; rfl)
      · rw [if_neg hk1]
        first
        | rfl
        | exact absurd hy5.1 hk1
        | exact absurd hy6.1 hk1
        | exact absurd hy7.1 hk1
        | exact absurd hy8.1 hk1
  · have hy5 := bI_1.mp (fun h => c6 (e3.trans h))
    refine g_iconst C (pc := 9) 0 dX10_kindNamed_9 (by decide) ?_
    refine g_iret C hR (pc := 10) rfl dX10_kindNamed_10 ?_
    refine ⟨rfl, _, rfl, ?_⟩
    refine ⟨?_, rfl⟩
    unfold kdN
    by_cases hk1 : k = 1
    · rw [if_pos hk1]
      first
      | (rw [if_pos hy5.2]; rfl)
      | (rw [if_neg (fun h => hn5 ⟨hk1, h⟩), if_pos hy6.2]; rfl)
      | (rw [if_neg (fun h => hn5 ⟨hk1, h⟩), if_neg (fun h => hn6 ⟨hk1, h⟩), if_pos hy7.2]; rfl)
      | (rw [if_neg (fun h => hn5 ⟨hk1, h⟩), if_neg (fun h => hn6 ⟨hk1, h⟩), if_neg (fun h => hn7 ⟨hk1, h⟩), if_pos hy8.2]; rfl)
      | (rw [if_neg (fun h => hn5 ⟨hk1, h⟩), if_neg (fun h => hn6 ⟨hk1, h⟩), if_neg (fun h => hn7 ⟨hk1, h⟩), if_neg (fun h => hn8 ⟨hk1, h⟩)]; rfl)
    · rw [if_neg hk1]
      first
      | rfl
      | exact absurd hy5.1 hk1
      | exact absurd hy6.1 hk1
      | exact absurd hy7.1 hk1
      | exact absurd hy8.1 hk1
set_option maxHeartbeats 400000 in
theorem c_X10_readNumber (n : Nat) (ρ : Rho) (I : Mem) (L : Nat) (tb : Nat → Nat) (lo hi p : Nat) (x z : Int32) (hn9 : n ≤ 999) (hxs : XS n ρ) (htb : TbR I L tb) (hp : I 15 9 = nI p) (hpL : p ≤ L) (hlo : lo < 1000) (hhi : hi < 1000) (hx : x = nI lo) (hz : z = nI hi) : MI yX10_readNumber cX10_readNumber 3 (some .boolean) 2 [.ref 15, .int x, .int z] n ρ I (fun v I1 => NmP I I1 v (rdNum tb L lo hi p)) := by
  refine MG.of (by decide +kernel) (Nat.le_of_ble_eq_true rfl) hn9 ?_
  intro κ C hR
  show G κ n ρ 0 [(0, .ref 15), (1, .int x), (2, .int z)] [] I
  obtain ⟨hxc, ⟨xb1, xb2, xb3, xb4, xb5, xb6, xb8⟩, ⟨xi0, xi1, xga, xgb⟩, ⟨xt0, xt1, xgd⟩, hch, ⟨xr0, xr1, xr2⟩, xa0, ⟨xw0, xw1⟩, xst⟩ := id hxs
  obtain ⟨xc0, xcn, xc1, hga, xc7, hss⟩ := id hxc
  have xcz : 0 < n := by omega
  obtain ⟨ga0, ga1, ga2, ga3, ga4, ga5, ga6, ga7, ga8, gan, hrf, hst⟩ := id hga
  have hrf0 := hrf.1
  have hst0 := hst.1
  have hsp := hch.sp
  obtain ⟨hp0, hpn, hp1, hp2, hp3, hp4⟩ := id hsp
  obtain ⟨hL, hL3, htbs⟩ := id htb
  have hF := tkF_le (tb := tb) hpL
  refine g_aload_n C (pc := 0) dX10_readNumber_0 0 rfl ?_
  refine g_callVI C (pc := 1) mf_X10_readToken lk_RX10_51 (c_X10_readToken n ρ I L tb p hn9 hxs htb hp hpL) (by decide) (Nat.le_refl _) rfl (by first | assumption | rfl | omega) rfl (by first | assumption | rfl | omega) (Nat.le_of_ble_eq_true rfl) dX10_readNumber_1 (fun v1 I1 h1 => ?_)
  obtain ⟨e1, f1, o1, b1, s1, g1⟩ := h1
  have ht1 : T8 I I1 := ⟨s1, g1⟩
  refine g_if_ne C (pc := 4) 9 dX10_readNumber_4 (by decide) (fun c4 => ?_) (fun c4 => ?_)
  · have hK : ¬ tkK tb L p = 0 := bI_1.mp (fun h => c4 (e1.trans h))
    obtain ⟨o9, o10, o12, o4⟩ := o1 hK
    have hK5 : tkK tb L p < 5 := tkK_lt
    refine g_aload_n C (pc := 9) dX10_readNumber_9 0 rfl ?_
    refine g_getI C (pc := 10) fl_RX10_55 (by decide) (by first | assumption | rfl | omega) (by first | assumption | rfl | omega) dX10_readNumber_10 ?_
    refine g_iconst C (pc := 13) 2 dX10_readNumber_13 (by decide) ?_
    refine g_icmp_eq C (pc := 14) 27 dX10_readNumber_14 (by decide) (fun c14 => ?_) (fun c14 => ?_)
    · have hK2 : tkK tb L p = 2 := by
        rw [o10] at c14
        exact (nI_eq (b := 2) (by omega) (by decide)).mp c14
      have hv12 := o12 hK2
      have hVl := tkV_lt hK2 (fun i hi => (htbs i hi).2) hpL
      refine g_aload_n C (pc := 27) dX10_readNumber_27 0 rfl ?_
      refine g_getI C (pc := 28) fl_RX10_107 (by decide) (by first | assumption | rfl | omega) (by first | assumption | rfl | omega) dX10_readNumber_28 ?_
      refine g_iload_n C (pc := 31) dX10_readNumber_31 1 rfl ?_
      refine g_icmp_lt C (pc := 32) 43 dX10_readNumber_32 (by decide) (fun c32 => ?_) (fun c32 => ?_)
      · have hr : (rdNum tb L lo hi p) = .inl (3, tkF tb L p) := by
          rw [hv12, hx, nI_ltI (by omega) (by omega)] at c32
          unfold rdNum; rw [if_neg hK, if_neg (by omega), if_neg (by omega)]
        refine g_aload_n C (pc := 43) dX10_readNumber_43 0 rfl ?_
        refine g_iconst C (pc := 44) 3 dX10_readNumber_44 (by decide) ?_
        refine g_aload_n C (pc := 45) dX10_readNumber_45 0 rfl ?_
        refine g_getI C (pc := 46) fl_RX10_93 (by decide) (by first | assumption | rfl | omega) (by first | assumption | rfl | omega) dX10_readNumber_46 ?_
        refine g_callVI C (pc := 49) mf_X10_fail lk_RX10_96 (c_X10_fail n ρ _ _ _ hn9 hxs) (by decide) (Nat.le_refl _) rfl (by first | assumption | rfl | omega) rfl (by first | assumption | rfl | omega) (Nat.le_of_ble_eq_true rfl) dX10_readNumber_49 (fun v49 I49 h49 => ?_)
        obtain ⟨rfl, rfl⟩ := h49
        refine g_if_eq C (pc := 52) 59 dX10_readNumber_52 (by decide) (fun c52 => ?_) (fun c52 => ?_)
        · refine g_iconst C (pc := 59) 0 dX10_readNumber_59 (by decide) ?_
          refine g_zret C hR (pc := 60) rfl rfl dX10_readNumber_60 ?_
          refine ⟨rfl, _, rfl, ?_⟩
          first
          | (refine ⟨fun e9 h9 => ?_, fun q h9 => ?_, ht1⟩
             · rw [hr] at h9; cases h9
             · rw [hr] at h9; cases h9; exact ⟨rfl, hv12, f1, o9, o4⟩)
          | (refine ⟨fun e9 h9 => ?_, fun q h9 => ?_, (ht1.w (by decide)).w (by decide)⟩
             · rw [hr] at h9; cases h9; exact ⟨rfl, by rw [wr_sn (by decide), wr_ss]; rfl, by rw [wr_ss]; exact f1⟩
             · rw [hr] at h9; cases h9)
        · exact absurd rfl c52
      · rw [hv12, hx, nI_leI (by omega) (by omega)] at c32
        refine g_aload_n C (pc := 35) dX10_readNumber_35 0 rfl ?_
        refine g_getI C (pc := 36) fl_RX10_107 (by decide) (by first | assumption | rfl | omega) (by first | assumption | rfl | omega) dX10_readNumber_36 ?_
        refine g_iload_n C (pc := 39) dX10_readNumber_39 2 rfl ?_
        refine g_icmp_le C (pc := 40) 55 dX10_readNumber_40 (by decide) (fun c40 => ?_) (fun c40 => ?_)
        · have hr : (rdNum tb L lo hi p) = .inr (tkV tb L p, tkF tb L p, tkE tb L p) := by
            rw [hv12, hz, nI_leI (by omega) (by omega)] at c40
            unfold rdNum; rw [if_neg hK, if_neg (by omega), if_pos ⟨c32, c40⟩]
          refine g_iconst C (pc := 55) 1 dX10_readNumber_55 (by decide) ?_
          refine g_goto C (pc := 56) 60 dX10_readNumber_56 (by decide) ?_
          refine g_zret C hR (pc := 60) rfl rfl dX10_readNumber_60 ?_
          refine ⟨rfl, _, rfl, ?_⟩
          first
          | (refine ⟨fun e9 h9 => ?_, fun q h9 => ?_, ht1⟩
             · rw [hr] at h9; cases h9
             · rw [hr] at h9; cases h9; exact ⟨rfl, hv12, f1, o9, o4⟩)
          | (refine ⟨fun e9 h9 => ?_, fun q h9 => ?_, (ht1.w (by decide)).w (by decide)⟩
             · rw [hr] at h9; cases h9; exact ⟨rfl, by rw [wr_sn (by decide), wr_ss]; rfl, by rw [wr_ss]; exact f1⟩
             · rw [hr] at h9; cases h9)
        · have hr : (rdNum tb L lo hi p) = .inl (3, tkF tb L p) := by
            rw [hv12, hz, nI_ltI (by omega) (by omega)] at c40
            unfold rdNum; rw [if_neg hK, if_neg (by omega), if_neg (by omega)]
          refine g_aload_n C (pc := 43) dX10_readNumber_43 0 rfl ?_
          refine g_iconst C (pc := 44) 3 dX10_readNumber_44 (by decide) ?_
          refine g_aload_n C (pc := 45) dX10_readNumber_45 0 rfl ?_
          refine g_getI C (pc := 46) fl_RX10_93 (by decide) (by first | assumption | rfl | omega) (by first | assumption | rfl | omega) dX10_readNumber_46 ?_
          refine g_callVI C (pc := 49) mf_X10_fail lk_RX10_96 (c_X10_fail n ρ _ _ _ hn9 hxs) (by decide) (Nat.le_refl _) rfl (by first | assumption | rfl | omega) rfl (by first | assumption | rfl | omega) (Nat.le_of_ble_eq_true rfl) dX10_readNumber_49 (fun v49 I49 h49 => ?_)
          obtain ⟨rfl, rfl⟩ := h49
          refine g_if_eq C (pc := 52) 59 dX10_readNumber_52 (by decide) (fun c52 => ?_) (fun c52 => ?_)
          · refine g_iconst C (pc := 59) 0 dX10_readNumber_59 (by decide) ?_
            refine g_zret C hR (pc := 60) rfl rfl dX10_readNumber_60 ?_
            refine ⟨rfl, _, rfl, ?_⟩
            first
            | (refine ⟨fun e9 h9 => ?_, fun q h9 => ?_, ht1⟩
               · rw [hr] at h9; cases h9
               · rw [hr] at h9; cases h9; exact ⟨rfl, hv12, f1, o9, o4⟩)
            | (refine ⟨fun e9 h9 => ?_, fun q h9 => ?_, (ht1.w (by decide)).w (by decide)⟩
               · rw [hr] at h9; cases h9; exact ⟨rfl, by rw [wr_sn (by decide), wr_ss]; rfl, by rw [wr_ss]; exact f1⟩
               · rw [hr] at h9; cases h9)
          · exact absurd rfl c52
    · have hK2 : tkK tb L p ≠ 2 := fun h9 => c14 (by rw [o10, h9]; rfl)
      have hr : (rdNum tb L lo hi p) = .inl (2, tkF tb L p) := by unfold rdNum; rw [if_neg hK, if_pos hK2]
      refine g_aload_n C (pc := 17) dX10_readNumber_17 0 rfl ?_
      refine g_iconst C (pc := 18) 2 dX10_readNumber_18 (by decide) ?_
      refine g_aload_n C (pc := 19) dX10_readNumber_19 0 rfl ?_
      refine g_getI C (pc := 20) fl_RX10_93 (by decide) (by first | assumption | rfl | omega) (by first | assumption | rfl | omega) dX10_readNumber_20 ?_
      refine g_callVI C (pc := 23) mf_X10_fail lk_RX10_96 (c_X10_fail n ρ _ _ _ hn9 hxs) (by decide) (Nat.le_refl _) rfl (by first | assumption | rfl | omega) rfl (by first | assumption | rfl | omega) (Nat.le_of_ble_eq_true rfl) dX10_readNumber_23 (fun v23 I23 h23 => ?_)
      obtain ⟨rfl, rfl⟩ := h23
      refine g_zret C hR (pc := 26) rfl rfl dX10_readNumber_26 ?_
      refine ⟨rfl, _, rfl, ?_⟩
      refine ⟨fun e9 h9 => ?_, fun q h9 => ?_, (ht1.w (by decide)).w (by decide)⟩
      · rw [hr] at h9; cases h9; exact ⟨rfl, by rw [wr_sn (by decide), wr_ss]; rfl, by rw [wr_ss]; exact f1⟩
      · rw [hr] at h9; cases h9
  · have hK : tkK tb L p = 0 := by
      have := bI_0.mp (e1.symm.trans c4)
      exact Decidable.not_not.mp this
    have hr : (rdNum tb L lo hi p) = .inl (1, tkF tb L p) := by unfold rdNum; rw [if_pos hK]
    refine g_iconst C (pc := 7) 0 dX10_readNumber_7 (by decide) ?_
    refine g_zret C hR (pc := 8) rfl rfl dX10_readNumber_8 ?_
    refine ⟨rfl, _, rfl, ?_⟩
    refine ⟨fun e9 h9 => ?_, fun q h9 => ?_, ht1⟩
    · rw [hr] at h9; cases h9; exact ⟨rfl, b1 hK⟩
    · rw [hr] at h9; cases h9
set_option maxHeartbeats 400000 in
theorem c_X10_readSign (n : Nat) (ρ : Rho) (I : Mem) (L : Nat) (tb : Nat → Nat) (p : Nat) (hn9 : n ≤ 999) (hxs : XS n ρ) (htb : TbR I L tb) (hp : I 15 9 = nI p) (hpL : p ≤ L) : MI yX10_readSign cX10_readSign 1 (some .boolean) 2 [.ref 15] n ρ I (fun v I1 => SgP I I1 v (rdSgn tb L p)) := by
  refine MG.of (by decide +kernel) (Nat.le_of_ble_eq_true rfl) hn9 ?_
  intro κ C hR
  show G κ n ρ 0 [(0, .ref 15)] [] I
  obtain ⟨hxc, ⟨xb1, xb2, xb3, xb4, xb5, xb6, xb8⟩, ⟨xi0, xi1, xga, xgb⟩, ⟨xt0, xt1, xgd⟩, hch, ⟨xr0, xr1, xr2⟩, xa0, ⟨xw0, xw1⟩, xst⟩ := id hxs
  obtain ⟨xc0, xcn, xc1, hga, xc7, hss⟩ := id hxc
  have xcz : 0 < n := by omega
  obtain ⟨ga0, ga1, ga2, ga3, ga4, ga5, ga6, ga7, ga8, gan, hrf, hst⟩ := id hga
  have hrf0 := hrf.1
  have hst0 := hst.1
  have hsp := hch.sp
  obtain ⟨hp0, hpn, hp1, hp2, hp3, hp4⟩ := id hsp
  obtain ⟨hL, hL3, htbs⟩ := id htb
  have hF := tkF_le (tb := tb) hpL
  refine g_aload_n C (pc := 0) dX10_readSign_0 0 rfl ?_
  refine g_callVI C (pc := 1) mf_X10_readToken lk_RX10_51 (c_X10_readToken n ρ I L tb p hn9 hxs htb hp hpL) (by decide) (Nat.le_refl _) rfl (by first | assumption | rfl | omega) rfl (by first | assumption | rfl | omega) (Nat.le_of_ble_eq_true rfl) dX10_readSign_1 (fun v1 I1 h1 => ?_)
  obtain ⟨e1, f1, o1, b1, s1, g1⟩ := h1
  have ht1 : T8 I I1 := ⟨s1, g1⟩
  refine g_if_eq C (pc := 4) 31 dX10_readSign_4 (by decide) (fun c4 => ?_) (fun c4 => ?_)
  · have hK : tkK tb L p = 0 := by
      have := bI_0.mp (e1.symm.trans c4)
      exact Decidable.not_not.mp this
    have hr : (rdSgn tb L p) = .inl (1, tkF tb L p) := by unfold rdSgn; rw [if_pos hK]
    refine g_iconst C (pc := 31) 0 dX10_readSign_31 (by decide) ?_
    refine g_zret C hR (pc := 32) rfl rfl dX10_readSign_32 ?_
    refine ⟨rfl, _, rfl, ?_⟩
    first
    | (refine ⟨fun e9 h9 => ?_, fun q h9 => ?_, ht1⟩
       · rw [hr] at h9; cases h9
       · rw [hr] at h9; cases h9; exact ⟨rfl, o9, o4⟩)
    | (refine ⟨fun e9 h9 => ?_, fun q h9 => ?_, ht1⟩
       · rw [hr] at h9; cases h9; exact ⟨rfl, b1 hK⟩
       · rw [hr] at h9; cases h9)
    | (refine ⟨fun e9 h9 => ?_, fun q h9 => ?_, (ht1.w (by decide)).w (by decide)⟩
       · rw [hr] at h9; cases h9; exact ⟨rfl, by rw [wr_sn (by decide), wr_ss]; rfl, by rw [wr_ss]; exact f1⟩
       · rw [hr] at h9; cases h9)
  · have hK : ¬ tkK tb L p = 0 := bI_1.mp (fun h => c4 (e1.trans h))
    obtain ⟨o9, o10, o12, o4⟩ := o1 hK
    have hK5 : tkK tb L p < 5 := tkK_lt
    refine g_aload_n C (pc := 7) dX10_readSign_7 0 rfl ?_
    refine g_getI C (pc := 8) fl_RX10_55 (by decide) (by first | assumption | rfl | omega) (by first | assumption | rfl | omega) dX10_readSign_8 ?_
    refine g_iconst C (pc := 11) 3 dX10_readSign_11 (by decide) ?_
    refine g_icmp_eq C (pc := 12) 27 dX10_readSign_12 (by decide) (fun c12 => ?_) (fun c12 => ?_)
    · have hK3 : tkK tb L p = 3 := by
        rw [o10] at c12
        exact (nI_eq (b := 3) (by omega) (by decide)).mp c12
      have hr : (rdSgn tb L p) = .inr (tkE tb L p) := by unfold rdSgn; rw [if_neg hK, if_pos hK3]
      refine g_iconst C (pc := 27) 1 dX10_readSign_27 (by decide) ?_
      refine g_goto C (pc := 28) 32 dX10_readSign_28 (by decide) ?_
      refine g_zret C hR (pc := 32) rfl rfl dX10_readSign_32 ?_
      refine ⟨rfl, _, rfl, ?_⟩
      first
      | (refine ⟨fun e9 h9 => ?_, fun q h9 => ?_, ht1⟩
         · rw [hr] at h9; cases h9
         · rw [hr] at h9; cases h9; exact ⟨rfl, o9, o4⟩)
      | (refine ⟨fun e9 h9 => ?_, fun q h9 => ?_, ht1⟩
         · rw [hr] at h9; cases h9; exact ⟨rfl, b1 hK⟩
         · rw [hr] at h9; cases h9)
      | (refine ⟨fun e9 h9 => ?_, fun q h9 => ?_, (ht1.w (by decide)).w (by decide)⟩
         · rw [hr] at h9; cases h9; exact ⟨rfl, by rw [wr_sn (by decide), wr_ss]; rfl, by rw [wr_ss]; exact f1⟩
         · rw [hr] at h9; cases h9)
    · have hK3 : ¬ tkK tb L p = 3 := fun h9 => c12 (by rw [o10, h9]; rfl)
      have hr : (rdSgn tb L p) = .inl (2, tkF tb L p) := by unfold rdSgn; rw [if_neg hK, if_neg hK3]
      refine g_aload_n C (pc := 15) dX10_readSign_15 0 rfl ?_
      refine g_iconst C (pc := 16) 2 dX10_readSign_16 (by decide) ?_
      refine g_aload_n C (pc := 17) dX10_readSign_17 0 rfl ?_
      refine g_getI C (pc := 18) fl_RX10_93 (by decide) (by first | assumption | rfl | omega) (by first | assumption | rfl | omega) dX10_readSign_18 ?_
      refine g_callVI C (pc := 21) mf_X10_fail lk_RX10_96 (c_X10_fail n ρ _ _ _ hn9 hxs) (by decide) (Nat.le_refl _) rfl (by first | assumption | rfl | omega) rfl (by first | assumption | rfl | omega) (Nat.le_of_ble_eq_true rfl) dX10_readSign_21 (fun v21 I21 h21 => ?_)
      obtain ⟨rfl, rfl⟩ := h21
      refine g_if_eq C (pc := 24) 31 dX10_readSign_24 (by decide) (fun c24 => ?_) (fun c24 => ?_)
      · refine g_iconst C (pc := 31) 0 dX10_readSign_31 (by decide) ?_
        refine g_zret C hR (pc := 32) rfl rfl dX10_readSign_32 ?_
        refine ⟨rfl, _, rfl, ?_⟩
        first
        | (refine ⟨fun e9 h9 => ?_, fun q h9 => ?_, ht1⟩
           · rw [hr] at h9; cases h9
           · rw [hr] at h9; cases h9; exact ⟨rfl, o9, o4⟩)
        | (refine ⟨fun e9 h9 => ?_, fun q h9 => ?_, ht1⟩
           · rw [hr] at h9; cases h9; exact ⟨rfl, b1 hK⟩
           · rw [hr] at h9; cases h9)
        | (refine ⟨fun e9 h9 => ?_, fun q h9 => ?_, (ht1.w (by decide)).w (by decide)⟩
           · rw [hr] at h9; cases h9; exact ⟨rfl, by rw [wr_sn (by decide), wr_ss]; rfl, by rw [wr_ss]; exact f1⟩
           · rw [hr] at h9; cases h9)
      · exact absurd rfl c24
set_option maxHeartbeats 400000 in
theorem c_X10_readFreeSquare (n : Nat) (ρ : Rho) (I : Mem) (L : Nat) (tb : Nat → Nat) (D : DT) (p : Nat) (hn9 : n ≤ 999) (hxs : XS n ρ) (htb : TbR I L tb) (hp : I 15 9 = nI p) (hpL : p ≤ L) (hdr : DrR I D) : MI yX10_readFreeSquare cX10_readFreeSquare 2 (some .boolean) 3 [.ref 15] n ρ I (fun v I1 => NmP I I1 v (rdFree tb L D p)) := by
  refine MG.of (by decide +kernel) (Nat.le_of_ble_eq_true rfl) hn9 ?_
  intro κ C hR
  show G κ n ρ 0 [(0, .ref 15)] [] I
  obtain ⟨hxc, ⟨xb1, xb2, xb3, xb4, xb5, xb6, xb8⟩, ⟨xi0, xi1, xga, xgb⟩, ⟨xt0, xt1, xgd⟩, hch, ⟨xr0, xr1, xr2⟩, xa0, ⟨xw0, xw1⟩, xst⟩ := id hxs
  obtain ⟨xc0, xcn, xc1, hga, xc7, hss⟩ := id hxc
  have xcz : 0 < n := by omega
  obtain ⟨ga0, ga1, ga2, ga3, ga4, ga5, ga6, ga7, ga8, gan, hrf, hst⟩ := id hga
  have hrf0 := hrf.1
  have hst0 := hst.1
  have hsp := hch.sp
  obtain ⟨hp0, hpn, hp1, hp2, hp3, hp4⟩ := id hsp
  obtain ⟨hL, hL3, htbs⟩ := id htb
  obtain ⟨drr, drw, dbr, dbw, dpz, d6, d7, d8⟩ := id hdr
  obtain ⟨gd0, gd1, gd2, gd3, gd4, gd5, gd6, gd7, gd8, gdn, drf, dst⟩ := id xgd
  have drf0 := drf.1
  have dst0 := dst.1
  refine g_aload_n C (pc := 0) dX10_readFreeSquare_0 0 rfl ?_
  refine g_iconst C (pc := 1) 0 dX10_readFreeSquare_1 (by decide) ?_
  refine g_bipush C (pc := 2) 24 dX10_readFreeSquare_2 (by decide) ?_
  refine g_callVI C (pc := 4) mf_X10_readNumber lk_RX10_100 (c_X10_readNumber n ρ I L tb 0 24 p _ _ hn9 hxs htb hp hpL (by decide) (by decide) rfl rfl) (by decide) (Nat.le_refl _) rfl (by first | assumption | rfl | omega) rfl (by first | assumption | rfl | omega) (Nat.le_of_ble_eq_true rfl) dX10_readFreeSquare_4 (fun v4 I4 h4 => ?_)
  obtain h4 := h4
  refine g_if_ne C (pc := 7) 12 dX10_readFreeSquare_7 (by decide) (fun c7 => ?_) (fun c7 => ?_)
  · obtain ⟨q, hr0, v12, v11, v9, v4⟩ := h4.t c7
    have hok := rdNum_ok hpL hr0
    have hdr4 : DrR I4 D := h4.2.2.dr hdr
    have hrf : (rdFree tb L D p) = (if rS (dF D) q.1 = false ∧ pon (dF D) (dB D) q.1 = none then .inr q else .inl (4, q.2.1)) := pb_r hr0
    refine g_aload_n C (pc := 12) dX10_readFreeSquare_12 0 rfl ?_
    refine g_getR C (pc := 13) fl_RX10_18 (by decide) (by first | assumption | rfl | omega) (by first | assumption | rfl | omega) (by first | assumption | rfl | omega) dX10_readFreeSquare_13 ?_
    refine g_getR C (pc := 16) fl_RX10_103 (by decide) (by first | assumption | rfl | omega) (by first | assumption | rfl | omega) (by first | assumption | rfl | omega) dX10_readFreeSquare_16 ?_
    refine g_aload_n C (pc := 19) dX10_readFreeSquare_19 0 rfl ?_
    refine g_getI C (pc := 20) fl_RX10_107 (by decide) (by first | assumption | rfl | omega) (by first | assumption | rfl | omega) dX10_readFreeSquare_20 ?_
    refine g_callVI C (pc := 23) mf_X5_isClosed lk_RX10_155 (c_X5_isClosed n ρ I4 18 _ hn9 drf) (by decide) (Nat.le_refl _) rfl (by first | assumption | rfl | omega) rfl (by first | assumption | rfl | omega) (Nat.le_of_ble_eq_true rfl) dX10_readFreeSquare_23 (fun v23 I23 h23 => ?_)
    obtain ⟨e23, rfl⟩ := h23
    have hcl : (I4 18 5 &&& bitO (I4 15 12)) = 0 ↔ rS (dF D) q.1 = false := by
      rw [v12, and_bitO (by omega), hdr4.1.2.2.2.1 q.1 (by omega)]
    refine g_if_ne C (pc := 26) 59 dX10_readFreeSquare_26 (by decide) (fun c26 => ?_) (fun c26 => ?_)
    · have hS : ¬ rS (dF D) q.1 = false := fun h9 => (bI_1.mp (fun h => c26 (e23.trans h))) (hcl.mpr h9)
      have hr : (rdFree tb L D p) = .inl (4, q.2.1) := by rw [hrf, if_neg (fun h9 => hS h9.1)]
      refine g_iconst C (pc := 59) 0 dX10_readFreeSquare_59 (by decide) ?_
      refine g_istore_n C (pc := 60) dX10_readFreeSquare_60 (by decide) (fun v60 => [(1, .int v60), (0, .ref 15)]) (fun _ => rfl) (fun v60 ev60 => ?_)
      refine g_iload_n C (pc := 61) dX10_readFreeSquare_61 0 rfl ?_
      refine g_if_ne C (pc := 62) 77 dX10_readFreeSquare_62 (by decide) (fun c62 => absurd c62 (by first | decide | (subst_vars; decide))) (fun c62 => ?_)
      refine g_aload_n C (pc := 65) dX10_readFreeSquare_65 1 rfl ?_
      refine g_iconst C (pc := 66) 4 dX10_readFreeSquare_66 (by decide) ?_
      refine g_aload_n C (pc := 67) dX10_readFreeSquare_67 1 rfl ?_
      refine g_getI C (pc := 68) fl_RX10_93 (by decide) (by first | assumption | rfl | omega) (by first | assumption | rfl | omega) dX10_readFreeSquare_68 ?_
      refine g_callVI C (pc := 71) mf_X10_fail lk_RX10_96 (c_X10_fail n ρ _ _ _ hn9 hxs) (by decide) (Nat.le_refl _) rfl (by first | assumption | rfl | omega) rfl (by first | assumption | rfl | omega) (Nat.le_of_ble_eq_true rfl) dX10_readFreeSquare_71 (fun v71 I71 h71 => ?_)
      obtain ⟨rfl, rfl⟩ := h71
      refine g_if_eq C (pc := 74) 81 dX10_readFreeSquare_74 (by decide) (fun c74 => ?_) (fun c74 => ?_)
      · refine g_iconst C (pc := 81) 0 dX10_readFreeSquare_81 (by decide) ?_
        refine g_zret C hR (pc := 82) rfl rfl dX10_readFreeSquare_82 ?_
        refine ⟨rfl, _, rfl, ?_⟩
        first
        | (refine ⟨fun e8 h9 => ?_, fun q9 h9 => ?_, h4.2.2⟩
           · rw [hr] at h9; cases h9
           · rw [hr] at h9; cases h9; exact ⟨rfl, v12, v11, v9, v4⟩)
        | (refine ⟨fun e8 h9 => ?_, fun q9 h9 => ?_, (h4.2.2.w (by decide)).w (by decide)⟩
           · rw [hr] at h9; cases h9; exact ⟨rfl, by rw [wr_sn (by decide), wr_ss]; rfl, by rw [wr_ss]; exact v11⟩
           · rw [hr] at h9; cases h9)
      · exact absurd rfl c74
    · have hS : rS (dF D) q.1 = false := hcl.mp (Decidable.not_not.mp (bI_0.mp (e23.symm.trans c26)))
      refine g_aload_n C (pc := 29) dX10_readFreeSquare_29 0 rfl ?_
      refine g_getR C (pc := 30) fl_RX10_18 (by decide) (by first | assumption | rfl | omega) (by first | assumption | rfl | omega) (by first | assumption | rfl | omega) dX10_readFreeSquare_30 ?_
      refine g_getR C (pc := 33) fl_RX10_146 (by decide) (by first | assumption | rfl | omega) (by first | assumption | rfl | omega) (by first | assumption | rfl | omega) dX10_readFreeSquare_33 ?_
      refine g_aload_n C (pc := 36) dX10_readFreeSquare_36 0 rfl ?_
      refine g_getR C (pc := 37) fl_RX10_18 (by decide) (by first | assumption | rfl | omega) (by first | assumption | rfl | omega) (by first | assumption | rfl | omega) dX10_readFreeSquare_37 ?_
      refine g_getR C (pc := 40) fl_RX10_103 (by decide) (by first | assumption | rfl | omega) (by first | assumption | rfl | omega) (by first | assumption | rfl | omega) dX10_readFreeSquare_40 ?_
      refine g_aload_n C (pc := 43) dX10_readFreeSquare_43 0 rfl ?_
      refine g_getI C (pc := 44) fl_RX10_107 (by decide) (by first | assumption | rfl | omega) (by first | assumption | rfl | omega) dX10_readFreeSquare_44 ?_
      refine g_callVI C (pc := 47) mf_X8_pieceOn lk_RX10_159 (c_X8_pieceOn n ρ I4 22 18 (rN (dF D)) _ hn9 dst drf hdr4.1.2.2.1 drw.2.2.2.2.1) (by decide) (Nat.le_refl _) rfl (by first | assumption | rfl | omega) rfl (by first | assumption | rfl | omega) (Nat.le_of_ble_eq_true rfl) dX10_readFreeSquare_47 (fun v47 I47 h47 => ?_)
      obtain ⟨e47, rfl⟩ := h47
      have hpo : v47 = oI (pon (dF D) (dB D) q.1) := by rw [e47, v12, pon_raw hdr4.2.2.1 dbw (by omega)]
      have hpl : ∀ t, pon (dF D) (dB D) q.1 = some t → t < rN (dF D) := fun t ht => (pon_some ht).1
      have hn6 := drw.2.2.2.2.1
      refine g_bipush C (pc := 50) (-4) dX10_readFreeSquare_50 (by decide) ?_
      refine g_icmp_ne C (pc := 52) 59 dX10_readFreeSquare_52 (by decide) (fun c52 => ?_) (fun c52 => ?_)
      · have hP : ¬ pon (dF D) (dB D) q.1 = none := fun h9 => c52 (by rw [hpo, h9]; rfl)
        have hr : (rdFree tb L D p) = .inl (4, q.2.1) := by rw [hrf, if_neg (fun h9 => hP h9.2)]
        refine g_iconst C (pc := 59) 0 dX10_readFreeSquare_59 (by decide) ?_
        refine g_istore_n C (pc := 60) dX10_readFreeSquare_60 (by decide) (fun v60 => [(1, .int v60), (0, .ref 15)]) (fun _ => rfl) (fun v60 ev60 => ?_)
        refine g_iload_n C (pc := 61) dX10_readFreeSquare_61 0 rfl ?_
        refine g_if_ne C (pc := 62) 77 dX10_readFreeSquare_62 (by decide) (fun c62 => absurd c62 (by first | decide | (subst_vars; decide))) (fun c62 => ?_)
        refine g_aload_n C (pc := 65) dX10_readFreeSquare_65 1 rfl ?_
        refine g_iconst C (pc := 66) 4 dX10_readFreeSquare_66 (by decide) ?_
        refine g_aload_n C (pc := 67) dX10_readFreeSquare_67 1 rfl ?_
        refine g_getI C (pc := 68) fl_RX10_93 (by decide) (by first | assumption | rfl | omega) (by first | assumption | rfl | omega) dX10_readFreeSquare_68 ?_
        refine g_callVI C (pc := 71) mf_X10_fail lk_RX10_96 (c_X10_fail n ρ _ _ _ hn9 hxs) (by decide) (Nat.le_refl _) rfl (by first | assumption | rfl | omega) rfl (by first | assumption | rfl | omega) (Nat.le_of_ble_eq_true rfl) dX10_readFreeSquare_71 (fun v71 I71 h71 => ?_)
        obtain ⟨rfl, rfl⟩ := h71
        refine g_if_eq C (pc := 74) 81 dX10_readFreeSquare_74 (by decide) (fun c74 => ?_) (fun c74 => ?_)
        · refine g_iconst C (pc := 81) 0 dX10_readFreeSquare_81 (by decide) ?_
          refine g_zret C hR (pc := 82) rfl rfl dX10_readFreeSquare_82 ?_
          refine ⟨rfl, _, rfl, ?_⟩
          first
          | (refine ⟨fun e8 h9 => ?_, fun q9 h9 => ?_, h4.2.2⟩
             · rw [hr] at h9; cases h9
             · rw [hr] at h9; cases h9; exact ⟨rfl, v12, v11, v9, v4⟩)
          | (refine ⟨fun e8 h9 => ?_, fun q9 h9 => ?_, (h4.2.2.w (by decide)).w (by decide)⟩
             · rw [hr] at h9; cases h9; exact ⟨rfl, by rw [wr_sn (by decide), wr_ss]; rfl, by rw [wr_ss]; exact v11⟩
             · rw [hr] at h9; cases h9)
        · exact absurd rfl c74
      · have hP : pon (dF D) (dB D) q.1 = none := (oI_none (fun t ht => by have := hpl t ht; omega)).mp (by rw [← hpo]; exact c52)
        have hr : (rdFree tb L D p) = .inr q := by rw [hrf, if_pos ⟨hS, hP⟩]
        refine g_iconst C (pc := 55) 1 dX10_readFreeSquare_55 (by decide) ?_
        refine g_goto C (pc := 56) 60 dX10_readFreeSquare_56 (by decide) ?_
        refine g_istore_n C (pc := 60) dX10_readFreeSquare_60 (by decide) (fun v60 => [(1, .int v60), (0, .ref 15)]) (fun _ => rfl) (fun v60 ev60 => ?_)
        refine g_iload_n C (pc := 61) dX10_readFreeSquare_61 0 rfl ?_
        refine g_if_ne C (pc := 62) 77 dX10_readFreeSquare_62 (by decide) (fun c62 => ?_) (fun c62 => absurd c62 (by first | decide | (subst_vars; decide)))
        refine g_iconst C (pc := 77) 1 dX10_readFreeSquare_77 (by decide) ?_
        refine g_goto C (pc := 78) 82 dX10_readFreeSquare_78 (by decide) ?_
        refine g_zret C hR (pc := 82) rfl rfl dX10_readFreeSquare_82 ?_
        refine ⟨rfl, _, rfl, ?_⟩
        first
        | (refine ⟨fun e8 h9 => ?_, fun q9 h9 => ?_, h4.2.2⟩
           · rw [hr] at h9; cases h9
           · rw [hr] at h9; cases h9; exact ⟨rfl, v12, v11, v9, v4⟩)
        | (refine ⟨fun e8 h9 => ?_, fun q9 h9 => ?_, (h4.2.2.w (by decide)).w (by decide)⟩
           · rw [hr] at h9; cases h9; exact ⟨rfl, by rw [wr_sn (by decide), wr_ss]; rfl, by rw [wr_ss]; exact v11⟩
           · rw [hr] at h9; cases h9)
  · obtain ⟨e9, hr0, hr1, hr2⟩ := h4.f c7
    have hr : (rdFree tb L D p) = .inl e9 := pb_l hr0
    refine g_iconst C (pc := 10) 0 dX10_readFreeSquare_10 (by decide) ?_
    refine g_zret C hR (pc := 11) rfl rfl dX10_readFreeSquare_11 ?_
    refine ⟨rfl, _, rfl, ?_⟩
    refine ⟨fun e8 h9 => ?_, fun q h9 => ?_, h4.2.2⟩
    · rw [hr] at h9; cases h9; exact ⟨rfl, hr1, hr2⟩
    · rw [hr] at h9; cases h9
