/-! ===== the text, as the reference reads it ===== -/
def FT (I : Mem) (e : Nat × Nat) : Prop := I 97 21 = nI e.1 ∧ I 97 22 = nI e.2 ∧ 1 ≤ e.1 ∧ e.1 ≤ 8
theorem FT.pos {I : Mem} {e : Nat × Nat} (h : FT I e) : ¬ I 97 21 = 0 := by rw [h.1]; exact nI_ne0 h.2.2.1 (by have := h.2.2.2; omega)
theorem FT.gt {I : Mem} {e : Nat × Nat} (h : FT I e) : 0 < I 97 21 := by
  rw [h.1, show (0 : Int32) = nI 0 from rfl, nI_ltI (by decide) (by have := h.2.2.2; omega)]
  exact h.2.2.1
def sOf (k : Nat) : Nat := if k = 4 then 0 else k
/-- the token that is next stands read; behind a place, none or one; behind what was read *)-/
def PT (I : Mem) (tb : Nat → Nat) (L p : Nat) : Prop := I 97 21 = 0 ∧ I 97 18 = nI (tkF tb L p) ∧ I 97 17 = nI (tkE tb L p) ∧ I 97 19 = nI (sOf (tkK tb L p)) ∧ (tkK tb L p = 2 → I 97 20 = nI (tkV tb L p))
def Nx (I : Mem) (tb : Nat → Nat) (L p : Nat) : Prop := (tkK tb L p = 0 ∧ FT I (1, tkF tb L p)) ∨ (tkK tb L p ≠ 0 ∧ PT I tb L p)
def Sx (I : Mem) (tb : Nat → Nat) (L : Nat) (s : PRs Nat) : Prop := match s with
  | .inl e => FT I e
  | .inr p => p ≤ L ∧ Nx I tb L p
def Cn (I : Mem) (L : Nat) (s : PRs Nat) : Prop := match s with
  | .inl e => FT I e
  | .inr q => I 97 21 = 0 ∧ I 97 17 = nI q ∧ q ≤ L
def Lx (I I1 : Mem) : Prop := (∀ z, z < 17 ∨ 22 < z → I1 97 z = I 97 z) ∧ ∀ i, i ≠ 97 → I1 i = I i
theorem Lx.rfl' {I : Mem} : Lx I I := ⟨fun _ _ => rfl, fun _ _ => rfl⟩
theorem Lx.trans {I J K : Mem} (a : Lx I J) (b : Lx J K) : Lx I K := ⟨fun z hz => (b.1 z hz).trans (a.1 z hz), fun i hi => (b.2 i hi).trans (a.2 i hi)⟩
theorem Lx.w {I : Mem} {z : Nat} {x : Int32} (h1 : 17 ≤ z) (h2 : z ≤ 22) : Lx I (wr I 97 z x) := ⟨fun y hy => wr_sn (by omega), fun i hi => wr_n hi⟩
theorem TbM.cg {I I1 : Mem} {L : Nat} {tb : Nat → Nat} (h : TbM I L tb) (e1 : I1 97 16 = I 97 16) (e2 : I1 105 = I 105) : TbM I1 L tb := by
  unfold TbM
  rw [e1, e2]; exact h
theorem TbM.lx {I I1 : Mem} {L : Nat} {tb : Nat → Nat} (h : TbM I L tb) (k : Lx I I1) : TbM I1 L tb := h.cg (k.1 16 (by decide)) (k.2 105 (by decide))
theorem lk_is {tb : Nat → Nat} {L p c : Nat} (ht : ∀ p, p < L → tb p < 256) (hc : c < 256) : lkM tb L p = nI c ↔ p < L ∧ tb p = c := by
  unfold lkM
  by_cases h : p < L
  · rw [if_pos h, nI_eq (by have := ht p h; omega) (by omega)]; exact ⟨fun h1 => ⟨h, h1⟩, fun h1 => h1.2⟩
  · rw [if_neg h]
    refine ⟨fun h1 => ?_, fun h1 => absurd h1.1 h⟩
    have h2 : ¬ nI c < 0 := nI_pos (by omega)
    rw [← h1] at h2; exact absurd (by decide) h2
theorem lk_neg {tb : Nat → Nat} {L p : Nat} (ht : ∀ p, p < L → tb p < 256) : lkM tb L p < 0 ↔ L ≤ p := by
  unfold lkM
  by_cases h : p < L
  · rw [if_pos h]; exact ⟨fun h1 => absurd h1 (nI_pos (by have := ht p h; omega)), fun h1 => by omega⟩
  · rw [if_neg h]; exact ⟨fun _ => by omega, fun _ => by decide⟩
theorem lk_in {tb : Nat → Nat} {L p lo hi : Nat} (ht : ∀ p, p < L → tb p < 256) (h1 : lo < 256) (h2 : hi < 256) : (lN lo ≤ (lkM tb L p).toInt64 ∧ (lkM tb L p).toInt64 ≤ lN hi) ↔ p < L ∧ lo ≤ tb p ∧ tb p ≤ hi := by
  rw [inL (by omega) (by omega)]
  constructor
  · rintro ⟨k, a, b, c⟩
    obtain ⟨q1, q2⟩ := (lk_is ht (show k < 256 by omega)).mp c
    exact ⟨q1, by omega, by omega⟩
  · rintro ⟨a, b, c⟩
    exact ⟨tb p, b, c, (lk_is ht (ht p a)).mpr ⟨a, rfl⟩⟩
/-- a number of so many figures *)-/
def vlN (tb : Nat → Nat) (f : Nat) : Nat → Nat
  | 0 => 0
  | 1 => tb f - 48
  | _ + 2 => 10 * (tb f - 48) + (tb (f + 1) - 48)
theorem vlN_go {tb : Nat → Nat} {f r : Nat} (hr : f ≤ r) (h : r - f < 2) (hd : 48 ≤ tb r ∧ tb r ≤ 57) (hf : f < r → 48 ≤ tb f ∧ tb f ≤ 57) : 10 * nI (vlN tb f (r - f)) + nI (tb r) - 48 = nI (vlN tb f (r + 1 - f)) := by
  have hc : r = f ∨ r = f + 1 := by omega
  rcases hc with e | e
  · subst e
    rw [Nat.sub_self, show r + 1 - r = 1 by omega, show vlN tb r 0 = 0 from rfl, show vlN tb r 1 = tb r - 48 from rfl, show (10 : Int32) = nI 10 from rfl, pk_mul, nI_add, show (48 : Int32) = nI 48 from rfl, show 10 * 0 + tb r = tb r by omega]
    exact pk_sub (by omega)
  · subst e
    rw [show f + 1 - f = 1 by omega, show f + 1 + 1 - f = 2 by omega, show vlN tb f 1 = tb f - 48 from rfl, show vlN tb f 2 = 10 * (tb f - 48) + (tb (f + 1) - 48) from rfl, show (10 : Int32) = nI 10 from rfl, pk_mul, nI_add, show (48 : Int32) = nI 48 from rfl, pk_sub (by omega)]
    congr 1
    omega
theorem vlN_st {tb : Nat → Nat} {f r : Nat} (h : 2 ≤ r - f) : vlN tb f (r + 1 - f) = vlN tb f (r - f) := by
  obtain ⟨k, hk⟩ : ∃ k, r - f = k + 2 := ⟨r - f - 2, by omega⟩
  rw [hk, show r + 1 - f = k + 1 + 2 by omega]
  rfl
theorem Nx.mk {I : Mem} {tb : Nat → Nat} {L p k : Nat} (hk : tkK tb L p = k) (h0 : k ≠ 0) (h21 : I 97 21 = 0) (h18 : I 97 18 = nI (tkF tb L p)) (h17 : I 97 17 = nI (tkE tb L p)) (h19 : I 97 19 = nI (sOf k)) (h20 : k = 2 → I 97 20 = nI (tkV tb L p)) : Nx I tb L p := Or.inr ⟨by rw [hk]; exact h0, h21, h18, h17, by rw [hk]; exact h19, fun h => h20 (hk.symm.trans h)⟩
set_option maxHeartbeats 400000 in
theorem c_X12_next0 (n : Nat) (ρ : Rho) (I : Mem)  (hn9 : n ≤ 999) (hms : MS n ρ) (hgt : 0 < I 97 21) : MV yX12_next cX12_next 2 none 1 [.ref 97] n ρ I (fun I1 => I = I1) := by
  refine MG.of (by decide +kernel) (Nat.le_of_ble_eq_true rfl) hn9 ?_
  intro κ C hR
  show G κ n ρ 0 [(0, .ref 97)] [] I
  obtain ⟨mn, ⟨m0, m1, m5, m6, m7, m11, m12, m15⟩, ⟨m23, m24, m26, m27, m28, m30, m31, m32, m33⟩, ⟨m38, m39, m40, m42⟩⟩ := id hms
  refine g_aload_n C (pc := 0) dX12_next_0 0 rfl ?_
  refine g_getI C (pc := 1) fl_RX12_117 (by decide) (by first | assumption | rfl | omega) (by first | assumption | rfl | omega) dX12_next_1 ?_
  refine g_if_le C (pc := 4) 8 dX12_next_4 (by decide) (fun c4 => ?_) (fun c4 => ?_)
  · exact absurd hgt (Int32.not_lt.mpr c4)
  · refine g_vret C hR (pc := 7) rfl dX12_next_7 ?_
    refine ⟨rfl, rfl, ?_⟩
    rfl
set_option maxHeartbeats 1600000 in
theorem c_X12_next1 (n : Nat) (ρ : Rho) (I : Mem) (L : Nat) (tb : Nat → Nat) (p : Nat) (hn9 : n ≤ 999) (hms : MS n ρ) (htb : TbM I L tb) (h21 : I 97 21 = 0) (hpos : I 97 17 = nI p) (hp : p ≤ L) : MV yX12_next cX12_next 2 none 1 [.ref 97] n ρ I (fun I1 => Sx I1 tb L (.inr p) ∧ Lx I I1) := by
  refine MG.of (by decide +kernel) (Nat.le_of_ble_eq_true rfl) hn9 ?_
  intro κ C hR
  show G κ n ρ 0 [(0, .ref 97)] [] I
  obtain ⟨mn, ⟨m0, m1, m5, m6, m7, m11, m12, m15⟩, ⟨m23, m24, m26, m27, m28, m30, m31, m32, m33⟩, ⟨m38, m39, m40, m42⟩⟩ := id hms
  have htt : ∀ p, p < L → tb p < 256 := fun p hp => (htb.2.2 p hp).2
  have hL3 := htb.2.1
  refine g_aload_n C (pc := 0) dX12_next_0 0 rfl ?_
  refine g_getI C (pc := 1) fl_RX12_117 (by decide) (by first | assumption | rfl | omega) (by first | assumption | rfl | omega) dX12_next_1 ?_
  refine g_if_le C (pc := 4) 8 dX12_next_4 (by decide) (fun c4 => ?_) (fun c4 => ?_)
  · have L8 : ∀ (k9 : Nat) (q : Nat)  (J : Mem) (hq : p ≤ q ∧ q ≤ L) (hRu : tkF tb L p = runT tb L 32 32 q) (h17 : J 97 17 = nI q) (hZ : ∀ z, z ≠ 17 → J 97 z = I 97 z) (hF : ∀ i, i ≠ 97 → J i = I i), L - q < k9 → G κ n ρ 8 [(0, .ref 97)] [] J := by
      intro k9
      induction k9 with
      | zero => intro q J hq hRu h17 hZ hF hm8; exact absurd hm8 (Nat.not_lt_zero _)
      | succ k9 ih8 =>
        intro q J hq hRu h17 hZ hF hm8
        have htbJ : TbM J L tb := htb.cg (hZ 16 (by decide)) (hF 105 (by decide))
        refine g_aload_n C (pc := 8) dX12_next_8 0 rfl ?_
        refine g_aload_n C (pc := 9) dX12_next_9 0 rfl ?_
        refine g_getI C (pc := 10) fl_RX12_126 (by decide) (by first | assumption | rfl | omega) (by first | assumption | rfl | omega) dX12_next_10 ?_
        refine g_callVI C (pc := 13) mf_X12_look lk_RX12_129 (c_X12_look n ρ J L tb q _ hn9 hms htbJ (by omega) h17) (by decide) (Nat.le_refl _) rfl (by first | assumption | rfl | omega) rfl (by first | assumption | rfl | omega) (Nat.le_of_ble_eq_true rfl) dX12_next_13 (fun v13 I13 h13 => ?_)
        obtain ⟨e13, rfl⟩ := h13
        refine g_bipush C (pc := 16) 32 dX12_next_16 (by decide) ?_
        refine g_icmp_ne C (pc := 18) 34 dX12_next_18 (by decide) (fun c18 => ?_) (fun c18 => ?_)
        · have hstop : tkF tb L p = q := by
            rw [hRu]; exact runT_stop (fun h => c18 (e13.trans ((lk_is (c := 32) htt (by decide)).mpr ⟨h.1, by omega⟩)))
          refine g_aload_n C (pc := 34) dX12_next_34 0 rfl ?_
          refine g_aload_n C (pc := 35) dX12_next_35 0 rfl ?_
          refine g_getI C (pc := 36) fl_RX12_126 (by decide) (by first | assumption | rfl | omega) (by first | assumption | rfl | omega) dX12_next_36 ?_
          refine g_putI C (pc := 39) fl_RX12_120 (by decide) fp_11_18 (Or.inl rfl) ⟨rfl, rfl⟩ (by first | assumption | rfl | omega) (by first | assumption | rfl | omega) hn9 dX12_next_39 ?_
          rw [h17]
          obtain ⟨K, hK⟩ : ∃ K, K = wr J 97 18 (nI q) := ⟨_, rfl⟩
          rw [← hK]
          have k17 : K 97 17 = nI q := by rw [hK, wr_sn (by decide)]; exact h17
          have k18 : K 97 18 = nI q := by rw [hK, wr_ss]
          have k21 : K 97 21 = 0 := by rw [hK, wr_sn (by decide), hZ 21 (by decide)]; exact h21
          have kx : Lx I K := (show Lx I J from ⟨fun z hz => hZ z (by omega), hF⟩).trans (by rw [hK]; exact Lx.w (by decide) (by decide))
          have htbK : TbM K L tb := htb.lx kx
          refine g_aload_n C (pc := 42) dX12_next_42 0 rfl ?_
          refine g_aload_n C (pc := 43) dX12_next_43 0 rfl ?_
          refine g_getI C (pc := 44) fl_RX12_126 (by decide) (by first | assumption | rfl | omega) (by first | assumption | rfl | omega) dX12_next_44 ?_
          refine g_callVI C (pc := 47) mf_X12_look lk_RX12_129 (c_X12_look n ρ K L tb q _ hn9 hms htbK (by omega) k17) (by decide) (Nat.le_refl _) rfl (by first | assumption | rfl | omega) rfl (by first | assumption | rfl | omega) (Nat.le_of_ble_eq_true rfl) dX12_next_47 (fun v47 I47 h47 => ?_)
          obtain ⟨e47, rfl⟩ := h47
          refine g_istore_n C (pc := 50) dX12_next_50 (by decide) (fun v50 => [(1, .int v50), (0, .ref 97)]) (fun _ => rfl) (fun v50 ev50 => ?_)
          rw [e47] at ev50
          refine g_iload_n C (pc := 51) dX12_next_51 0 rfl ?_
          refine g_if_ge C (pc := 52) 63 dX12_next_52 (by decide) (fun c52 => ?_) (fun c52 => ?_)
          · have hql : q < L := by
              rcases Nat.lt_or_ge q L with h9 | h9
              · exact h9
              · have h8 := (lk_neg (p := q) htt).mpr h9
                rw [← ev50] at h8
                exact absurd h8 (Int32.not_lt.mpr c52)
            have htq := htt q hql
            refine g_iload_n C (pc := 63) dX12_next_63 0 rfl ?_
            refine g_i2l C (pc := 64) dX12_next_64 ?_
            refine g_ldc2 C (pc := 65) _ gk_RX12_144 dX12_next_65 ?_
            refine g_ldc2 C (pc := 68) _ gk_RX12_146 dX12_next_68 ?_
            refine g_callSI C (pc := 71) mf_X12_in lk_RX12_113 (c_X12_in n ρ _ _ _ _ hn9) (by decide) (Nat.le_refl _) rfl (Nat.le_of_ble_eq_true rfl) dX12_next_71 (fun v71 I71 h71 => ?_)
            obtain ⟨e71, rfl⟩ := h71
            refine g_if_eq C (pc := 74) 116 dX12_next_74 (by decide) (fun c74 => ?_) (fun c74 => ?_)
            · have hnl : ¬ (97 ≤ tb q ∧ tb q ≤ 122) := fun h => bI_0.mp (e71.symm.trans c74) (by rw [ev50]; exact (lk_in (lo := 97) (hi := 122) htt (by decide) (by decide)).mpr ⟨hql, h⟩)
              refine g_iload_n C (pc := 116) dX12_next_116 0 rfl ?_
              refine g_i2l C (pc := 117) dX12_next_117 ?_
              refine g_ldc2 C (pc := 118) _ gk_RX12_148 dX12_next_118 ?_
              refine g_ldc2 C (pc := 121) _ gk_RX12_150 dX12_next_121 ?_
              refine g_callSI C (pc := 124) mf_X12_in lk_RX12_113 (c_X12_in n ρ _ _ _ _ hn9) (by decide) (Nat.le_refl _) rfl (Nat.le_of_ble_eq_true rfl) dX12_next_124 (fun v124 I124 h124 => ?_)
              obtain ⟨e124, rfl⟩ := h124
              refine g_if_eq C (pc := 127) 243 dX12_next_127 (by decide) (fun c127 => ?_) (fun c127 => ?_)
              · have hnd : ¬ (48 ≤ tb q ∧ tb q ≤ 57) := fun h => bI_0.mp (e124.symm.trans c127) (by rw [ev50]; exact (lk_in (lo := 48) (hi := 57) htt (by decide) (by decide)).mpr ⟨hql, h⟩)
                refine g_aload_n C (pc := 243) dX12_next_243 1 rfl ?_
                refine g_iconst C (pc := 244) 3 dX12_next_244 (by decide) ?_
                refine g_putI C (pc := 245) fl_RX12_141 (by decide) fp_11_19 (Or.inl rfl) ⟨rfl, rfl⟩ (by first | assumption | rfl | omega) (by first | assumption | rfl | omega) hn9 dX12_next_245 ?_
                refine g_aload_n C (pc := 248) dX12_next_248 1 rfl ?_
                refine g_iload_n C (pc := 249) dX12_next_249 0 rfl ?_
                refine g_bipush C (pc := 250) 59 dX12_next_250 (by decide) ?_
                refine g_icmp_ne C (pc := 252) 259 dX12_next_252 (by decide) (fun c252 => ?_) (fun c252 => ?_)
                · have hk : tkK tb L p = 0 := by
                    unfold tkK; rw [hstop, if_neg (by omega), if_neg (fun h9 => c252 (by rw [ev50]; exact (lk_is (c := 59) htt (by decide)).mpr ⟨hql, h9⟩)), if_neg hnl, if_neg hnd]
                  refine g_iconst C (pc := 259) 0 dX12_next_259 (by decide) ?_
                  refine g_iconst C (pc := 260) 1 dX12_next_260 (by decide) ?_
                  refine g_callVV C (pc := 261) mf_X12_needs lk_RX12_155 (c_X12_needs n ρ _ _ 1 hn9 hms) (by decide) (Nat.le_refl _) rfl (by first | assumption | rfl | omega) rfl (by first | assumption | rfl | omega) (Nat.le_of_ble_eq_true rfl) dX12_next_261 (fun I261 h261 => ?_)
                  obtain h261 := h261
                  have g21 : wr K 97 19 3 97 21 = 0 := (wr_sn (by decide)).trans k21
                  first
                  | (rw [if_neg (fun h => absurd h.1 (by decide))] at h261)
                  | (rw [if_pos ⟨rfl, g21⟩] at h261)
                  subst h261
                  refine g_aload_n C (pc := 264) dX12_next_264 1 rfl ?_
                  refine g_dup C (pc := 265) dX12_next_265 rfl ?_
                  refine g_getI C (pc := 266) fl_RX12_126 (by decide) (by first | assumption | rfl | omega) (by first | assumption | rfl | omega) dX12_next_266 ?_
                  refine g_iconst C (pc := 269) 1 dX12_next_269 (by decide) ?_
                  refine g_iadd C (pc := 270) dX12_next_270 ?_
                  refine g_putI C (pc := 271) fl_RX12_126 (by decide) fp_11_17 (Or.inl rfl) ⟨rfl, rfl⟩ (by first | assumption | rfl | omega) (by first | assumption | rfl | omega) hn9 dX12_next_271 ?_
                  refine g_vret C hR (pc := 274) rfl dX12_next_274 ?_
                  refine ⟨rfl, rfl, ?_⟩
                  first
                  | (refine ⟨⟨hp, Nx.mk hk (by decide) ?_ ?_ ?_ ?_ (fun h => absurd h (by decide))⟩, kx.trans (Lx.w (by decide) (by decide))⟩
                     · rw [wr_sn (by decide)]; exact k21
                     · rw [wr_sn (by decide), hstop]; exact k18
                     · rw [wr_sn (by decide), he]; exact k17
                     · rw [wr_ss]; rfl)
                  | (refine ⟨⟨hp, Nx.mk hk (by decide) ?_ ?_ ?_ ?_ (fun h => absurd h (by decide))⟩, ⟨fun z hz => ?_, fun i hi => ?_⟩⟩
                     · rw [hZ2 21 (by decide), wr_sn (by decide)]; exact k21
                     · rw [hZ2 18 (by decide), wr_sn (by decide), hstop]; exact k18
                     · rw [he]; exact g17
                     · rw [hZ2 19 (by decide), wr_ss]; rfl
                     · rw [hZ2 z (by omega), wr_sn (by omega)]; exact kx.1 z hz
                     · rw [hF2 i hi]; exact kx.2 i hi)
                  | (subst h237
                     refine ⟨⟨hp, Nx.mk hk (by decide) g21 (by rw [hstop]; exact g18) (by rw [heq]; exact g17) ((hZ2 19 (by decide) (by decide)).trans wr_ss) (fun _ => ?_)⟩, ⟨fun z hz => ?_, fun i hi => ?_⟩⟩
                     · rw [g20]
                       unfold tkV
                       rw [hstop, hrs]
                       by_cases h9 : r - q = 2
                       · rw [if_pos h9, h9]; rfl
                       · rw [if_neg h9, show r - q = 1 by omega]; rfl
                     · rw [hZ2 z (by omega) (by omega), wr_sn (by omega)]; exact kx.1 z hz
                     · rw [hF2 i hi]; exact kx.2 i hi)
                  | (subst h237
                     refine ⟨⟨hp, Or.inl ⟨hk, ?_, ?_, Nat.le_refl 1, (show 1 ≤ 8 by decide)⟩⟩, ⟨fun z hz => ?_, fun i hi => ?_⟩⟩
                     · rw [wr_sn (by decide), wr_ss]; rfl
                     · rw [wr_ss]; show J2 97 18 = nI (tkF tb L p); rw [hstop]; exact g18
                     · rw [wr_sn (by omega), wr_sn (by omega), hZ2 z (by omega) (by omega), wr_sn (by omega)]; exact kx.1 z hz
                     · rw [wr_n hi, wr_n hi, hF2 i hi]; exact kx.2 i hi)
                  | (refine ⟨⟨hp, Nx.mk hk (by decide) ?_ ?_ ?_ ?_ (fun h => absurd h (by decide))⟩, (kx.trans (Lx.w (by decide) (by decide))).trans (Lx.w (by decide) (by decide))⟩
                     · rw [wr_sn (by decide), wr_sn (by decide)]; exact k21
                     · rw [wr_sn (by decide), wr_sn (by decide), hstop]; exact k18
                     · rw [wr_ss, wr_sn (by decide), he, k17]; exact nI_1 _
                     · rw [wr_sn (by decide), wr_ss]; rfl)
                  | (refine ⟨⟨hp, Or.inl ⟨hk, ?_, ?_, Nat.le_refl 1, (show 1 ≤ 8 by decide)⟩⟩, ((((kx.trans (Lx.w (by decide) (by decide))).trans (Lx.w (by decide) (by decide))).trans (Lx.w (by decide) (by decide)))).trans (Lx.w (by decide) (by decide))⟩
                     · rw [wr_sn (by decide), wr_sn (by decide), wr_ss]; rfl
                     · rw [wr_sn (by decide), wr_ss, wr_sn (by decide), hstop]; exact k18)
                · have h59 : tb q = 59 := by
                    rw [ev50] at c252
                    exact ((lk_is (c := 59) htt (by decide)).mp c252).2
                  have hk : tkK tb L p = 3 := by unfold tkK; rw [hstop, if_neg (by omega), if_pos h59]
                  have he : tkE tb L p = q + 1 := by unfold tkE; rw [hstop, if_neg (by omega), if_pos h59]
                  refine g_iconst C (pc := 255) 1 dX12_next_255 (by decide) ?_
                  refine g_goto C (pc := 256) 260 dX12_next_256 (by decide) ?_
                  refine g_iconst C (pc := 260) 1 dX12_next_260 (by decide) ?_
                  refine g_callVV C (pc := 261) mf_X12_needs lk_RX12_155 (c_X12_needs n ρ _ _ 1 hn9 hms) (by decide) (Nat.le_refl _) rfl (by first | assumption | rfl | omega) rfl (by first | assumption | rfl | omega) (Nat.le_of_ble_eq_true rfl) dX12_next_261 (fun I261 h261 => ?_)
                  obtain h261 := h261
                  have g21 : wr K 97 19 3 97 21 = 0 := (wr_sn (by decide)).trans k21
                  first
                  | (rw [if_neg (fun h => absurd h.1 (by decide))] at h261)
                  | (rw [if_pos ⟨rfl, g21⟩] at h261)
                  subst h261
                  refine g_aload_n C (pc := 264) dX12_next_264 1 rfl ?_
                  refine g_dup C (pc := 265) dX12_next_265 rfl ?_
                  refine g_getI C (pc := 266) fl_RX12_126 (by decide) (by first | assumption | rfl | omega) (by first | assumption | rfl | omega) dX12_next_266 ?_
                  refine g_iconst C (pc := 269) 1 dX12_next_269 (by decide) ?_
                  refine g_iadd C (pc := 270) dX12_next_270 ?_
                  refine g_putI C (pc := 271) fl_RX12_126 (by decide) fp_11_17 (Or.inl rfl) ⟨rfl, rfl⟩ (by first | assumption | rfl | omega) (by first | assumption | rfl | omega) hn9 dX12_next_271 ?_
                  refine g_vret C hR (pc := 274) rfl dX12_next_274 ?_
                  refine ⟨rfl, rfl, ?_⟩
                  first
                  | (refine ⟨⟨hp, Nx.mk hk (by decide) ?_ ?_ ?_ ?_ (fun h => absurd h (by decide))⟩, kx.trans (Lx.w (by decide) (by decide))⟩
                     · rw [wr_sn (by decide)]; exact k21
                     · rw [wr_sn (by decide), hstop]; exact k18
                     · rw [wr_sn (by decide), he]; exact k17
                     · rw [wr_ss]; rfl)
                  | (refine ⟨⟨hp, Nx.mk hk (by decide) ?_ ?_ ?_ ?_ (fun h => absurd h (by decide))⟩, ⟨fun z hz => ?_, fun i hi => ?_⟩⟩
                     · rw [hZ2 21 (by decide), wr_sn (by decide)]; exact k21
                     · rw [hZ2 18 (by decide), wr_sn (by decide), hstop]; exact k18
                     · rw [he]; exact g17
                     · rw [hZ2 19 (by decide), wr_ss]; rfl
                     · rw [hZ2 z (by omega), wr_sn (by omega)]; exact kx.1 z hz
                     · rw [hF2 i hi]; exact kx.2 i hi)
                  | (subst h237
                     refine ⟨⟨hp, Nx.mk hk (by decide) g21 (by rw [hstop]; exact g18) (by rw [heq]; exact g17) ((hZ2 19 (by decide) (by decide)).trans wr_ss) (fun _ => ?_)⟩, ⟨fun z hz => ?_, fun i hi => ?_⟩⟩
                     · rw [g20]
                       unfold tkV
                       rw [hstop, hrs]
                       by_cases h9 : r - q = 2
                       · rw [if_pos h9, h9]; rfl
                       · rw [if_neg h9, show r - q = 1 by omega]; rfl
                     · rw [hZ2 z (by omega) (by omega), wr_sn (by omega)]; exact kx.1 z hz
                     · rw [hF2 i hi]; exact kx.2 i hi)
                  | (subst h237
                     refine ⟨⟨hp, Or.inl ⟨hk, ?_, ?_, Nat.le_refl 1, (show 1 ≤ 8 by decide)⟩⟩, ⟨fun z hz => ?_, fun i hi => ?_⟩⟩
                     · rw [wr_sn (by decide), wr_ss]; rfl
                     · rw [wr_ss]; show J2 97 18 = nI (tkF tb L p); rw [hstop]; exact g18
                     · rw [wr_sn (by omega), wr_sn (by omega), hZ2 z (by omega) (by omega), wr_sn (by omega)]; exact kx.1 z hz
                     · rw [wr_n hi, wr_n hi, hF2 i hi]; exact kx.2 i hi)
                  | (refine ⟨⟨hp, Nx.mk hk (by decide) ?_ ?_ ?_ ?_ (fun h => absurd h (by decide))⟩, (kx.trans (Lx.w (by decide) (by decide))).trans (Lx.w (by decide) (by decide))⟩
                     · rw [wr_sn (by decide), wr_sn (by decide)]; exact k21
                     · rw [wr_sn (by decide), wr_sn (by decide), hstop]; exact k18
                     · rw [wr_ss, wr_sn (by decide), he, k17]; exact nI_1 _
                     · rw [wr_sn (by decide), wr_ss]; rfl)
                  | (refine ⟨⟨hp, Or.inl ⟨hk, ?_, ?_, Nat.le_refl 1, (show 1 ≤ 8 by decide)⟩⟩, ((((kx.trans (Lx.w (by decide) (by decide))).trans (Lx.w (by decide) (by decide))).trans (Lx.w (by decide) (by decide)))).trans (Lx.w (by decide) (by decide))⟩
                     · rw [wr_sn (by decide), wr_sn (by decide), wr_ss]; rfl
                     · rw [wr_sn (by decide), wr_ss, wr_sn (by decide), hstop]; exact k18)
              · have hdig : 48 ≤ tb q ∧ tb q ≤ 57 := by
                  have h9 := bI_1.mp (fun h => c127 (e124.trans h))
                  rw [ev50] at h9
                  exact ((lk_in (lo := 48) (hi := 57) htt (by decide) (by decide)).mp h9).2
                have hkd : tkK tb L p = if runT tb L 48 57 q - q ≤ 2 then 2 else 0 := by unfold tkK; rw [hstop, if_neg (by omega), if_neg (by omega), if_neg (by omega), if_pos hdig]
                have heq : tkE tb L p = runT tb L 48 57 q := by unfold tkE; rw [hstop, if_neg (by omega), if_neg (by omega), if_neg (by omega)]
                refine g_aload_n C (pc := 130) dX12_next_130 1 rfl ?_
                refine g_iconst C (pc := 131) 2 dX12_next_131 (by decide) ?_
                refine g_putI C (pc := 132) fl_RX12_141 (by decide) fp_11_19 (Or.inl rfl) ⟨rfl, rfl⟩ (by first | assumption | rfl | omega) (by first | assumption | rfl | omega) hn9 dX12_next_132 ?_
                refine g_aload_n C (pc := 135) dX12_next_135 1 rfl ?_
                refine g_iconst C (pc := 136) 0 dX12_next_136 (by decide) ?_
                refine g_putI C (pc := 137) fl_RX12_152 (by decide) fp_11_20 (Or.inl rfl) ⟨rfl, rfl⟩ (by first | assumption | rfl | omega) (by first | assumption | rfl | omega) hn9 dX12_next_137 ?_
                have L140 : ∀ (k9 : Nat) (r : Nat)  (J2 : Mem) (hr : q ≤ r ∧ r ≤ L) (hRR : runT tb L 48 57 q = runT tb L 48 57 r) (g17 : J2 97 17 = nI r) (g20 : J2 97 20 = nI (vlN tb q (r - q))) (hZ2 : ∀ z, z ≠ 17 → z ≠ 20 → J2 97 z = wr K 97 19 2 97 z) (hF2 : ∀ i, i ≠ 97 → J2 i = K i), L - r < k9 → G κ n ρ 140 [(0, .ref 97)] [] J2 := by
                  intro k9
                  induction k9 with
                  | zero => intro r J2 hr hRR g17 g20 hZ2 hF2 hm140; exact absurd hm140 (Nat.not_lt_zero _)
                  | succ k9 ih140 =>
                    intro r J2 hr hRR g17 g20 hZ2 hF2 hm140
                    have htb2 : TbM J2 L tb := htbK.cg ((hZ2 16 (by decide) (by decide)).trans (wr_sn (by decide))) (hF2 105 (by decide))
                    have g18 : J2 97 18 = nI q := (hZ2 18 (by decide) (by decide)).trans ((wr_sn (by decide)).trans k18)
                    have hdf : J2 97 17 - J2 97 18 = nI (r - q) := by rw [g17, g18]; exact pk_sub hr.1
                    refine g_aload_n C (pc := 140) dX12_next_140 0 rfl ?_
                    refine g_aload_n C (pc := 141) dX12_next_141 0 rfl ?_
                    refine g_getI C (pc := 142) fl_RX12_126 (by decide) (by first | assumption | rfl | omega) (by first | assumption | rfl | omega) dX12_next_142 ?_
                    refine g_callVI C (pc := 145) mf_X12_look lk_RX12_129 (c_X12_look n ρ J2 L tb r _ hn9 hms htb2 (by omega) g17) (by decide) (Nat.le_refl _) rfl (by first | assumption | rfl | omega) rfl (by first | assumption | rfl | omega) (Nat.le_of_ble_eq_true rfl) dX12_next_145 (fun v145 I145 h145 => ?_)
                    obtain ⟨e145, rfl⟩ := h145
                    refine g_i2l C (pc := 148) dX12_next_148 ?_
                    refine g_ldc2 C (pc := 149) _ gk_RX12_148 dX12_next_149 ?_
                    refine g_ldc2 C (pc := 152) _ gk_RX12_150 dX12_next_152 ?_
                    refine g_callSI C (pc := 155) mf_X12_in lk_RX12_113 (c_X12_in n ρ _ _ _ _ hn9) (by decide) (Nat.le_refl _) rfl (Nat.le_of_ble_eq_true rfl) dX12_next_155 (fun v155 I155 h155 => ?_)
                    obtain ⟨e155, rfl⟩ := h155
                    refine g_if_eq C (pc := 158) 217 dX12_next_158 (by decide) (fun c158 => ?_) (fun c158 => ?_)
                    · have hrs : runT tb L 48 57 q = r := by
                        rw [hRR]
                        exact runT_stop (fun h => bI_0.mp (e155.symm.trans c158) (by rw [e145]; exact (lk_in (lo := 48) (hi := 57) htt (by decide) (by decide)).mpr h))
                      rw [hrs] at hkd heq
                      have h1r : 1 ≤ r - q := by
                        have h9 := runT_go (tb := tb) (L := L) (lo := 48) (hi := 57) (p := q) ⟨hql, hdig⟩
                        have h8 := runT_le (tb := tb) (lo := 48) (hi := 57) (show q + 1 ≤ L by omega)
                        omega
                      refine g_aload_n C (pc := 217) dX12_next_217 0 rfl ?_
                      refine g_aload_n C (pc := 218) dX12_next_218 0 rfl ?_
                      refine g_getI C (pc := 219) fl_RX12_126 (by decide) (by first | assumption | rfl | omega) (by first | assumption | rfl | omega) dX12_next_219 ?_
                      refine g_aload_n C (pc := 222) dX12_next_222 0 rfl ?_
                      refine g_getI C (pc := 223) fl_RX12_120 (by decide) (by first | assumption | rfl | omega) (by first | assumption | rfl | omega) dX12_next_223 ?_
                      refine g_isub C (pc := 226) dX12_next_226 ?_
                      refine g_iconst C (pc := 227) 2 dX12_next_227 (by decide) ?_
                      rw [hdf]
                      refine g_icmp_gt C (pc := 228) 235 dX12_next_228 (by decide) (fun c228 => ?_) (fun c228 => ?_)
                      · have hbig : 2 < r - q := (nI_ltI (a := 2) (by decide) (by omega)).mp c228
                        have hk : tkK tb L p = 0 := by rw [hkd, if_neg (by omega)]
                        refine g_iconst C (pc := 235) 0 dX12_next_235 (by decide) ?_
                        refine g_iconst C (pc := 236) 1 dX12_next_236 (by decide) ?_
                        refine g_callVV C (pc := 237) mf_X12_needs lk_RX12_155 (c_X12_needs n ρ J2 _ 1 hn9 hms) (by decide) (Nat.le_refl _) rfl (by first | assumption | rfl | omega) rfl (by first | assumption | rfl | omega) (Nat.le_of_ble_eq_true rfl) dX12_next_237 (fun I237 h237 => ?_)
                        obtain h237 := h237
                        have g21 : J2 97 21 = 0 := (hZ2 21 (by decide) (by decide)).trans ((wr_sn (by decide)).trans k21)
                        first
                        | (rw [if_neg (fun h => absurd h.1 (by decide))] at h237)
                        | (rw [if_pos ⟨rfl, g21⟩] at h237)
                        refine g_goto C (pc := 240) 274 dX12_next_240 (by decide) ?_
                        refine g_vret C hR (pc := 274) rfl dX12_next_274 ?_
                        refine ⟨rfl, rfl, ?_⟩
                        first
                        | (refine ⟨⟨hp, Nx.mk hk (by decide) ?_ ?_ ?_ ?_ (fun h => absurd h (by decide))⟩, kx.trans (Lx.w (by decide) (by decide))⟩
                           · rw [wr_sn (by decide)]; exact k21
                           · rw [wr_sn (by decide), hstop]; exact k18
                           · rw [wr_sn (by decide), he]; exact k17
                           · rw [wr_ss]; rfl)
                        | (refine ⟨⟨hp, Nx.mk hk (by decide) ?_ ?_ ?_ ?_ (fun h => absurd h (by decide))⟩, ⟨fun z hz => ?_, fun i hi => ?_⟩⟩
                           · rw [hZ2 21 (by decide), wr_sn (by decide)]; exact k21
                           · rw [hZ2 18 (by decide), wr_sn (by decide), hstop]; exact k18
                           · rw [he]; exact g17
                           · rw [hZ2 19 (by decide), wr_ss]; rfl
                           · rw [hZ2 z (by omega), wr_sn (by omega)]; exact kx.1 z hz
                           · rw [hF2 i hi]; exact kx.2 i hi)
                        | (subst h237
                           refine ⟨⟨hp, Nx.mk hk (by decide) g21 (by rw [hstop]; exact g18) (by rw [heq]; exact g17) ((hZ2 19 (by decide) (by decide)).trans wr_ss) (fun _ => ?_)⟩, ⟨fun z hz => ?_, fun i hi => ?_⟩⟩
                           · rw [g20]
                             unfold tkV
                             rw [hstop, hrs]
                             by_cases h9 : r - q = 2
                             · rw [if_pos h9, h9]; rfl
                             · rw [if_neg h9, show r - q = 1 by omega]; rfl
                           · rw [hZ2 z (by omega) (by omega), wr_sn (by omega)]; exact kx.1 z hz
                           · rw [hF2 i hi]; exact kx.2 i hi)
                        | (subst h237
                           refine ⟨⟨hp, Or.inl ⟨hk, ?_, ?_, Nat.le_refl 1, (show 1 ≤ 8 by decide)⟩⟩, ⟨fun z hz => ?_, fun i hi => ?_⟩⟩
                           · rw [wr_sn (by decide), wr_ss]; rfl
                           · rw [wr_ss]; show J2 97 18 = nI (tkF tb L p); rw [hstop]; exact g18
                           · rw [wr_sn (by omega), wr_sn (by omega), hZ2 z (by omega) (by omega), wr_sn (by omega)]; exact kx.1 z hz
                           · rw [wr_n hi, wr_n hi, hF2 i hi]; exact kx.2 i hi)
                        | (refine ⟨⟨hp, Nx.mk hk (by decide) ?_ ?_ ?_ ?_ (fun h => absurd h (by decide))⟩, (kx.trans (Lx.w (by decide) (by decide))).trans (Lx.w (by decide) (by decide))⟩
                           · rw [wr_sn (by decide), wr_sn (by decide)]; exact k21
                           · rw [wr_sn (by decide), wr_sn (by decide), hstop]; exact k18
                           · rw [wr_ss, wr_sn (by decide), he, k17]; exact nI_1 _
                           · rw [wr_sn (by decide), wr_ss]; rfl)
                        | (refine ⟨⟨hp, Or.inl ⟨hk, ?_, ?_, Nat.le_refl 1, (show 1 ≤ 8 by decide)⟩⟩, ((((kx.trans (Lx.w (by decide) (by decide))).trans (Lx.w (by decide) (by decide))).trans (Lx.w (by decide) (by decide)))).trans (Lx.w (by decide) (by decide))⟩
                           · rw [wr_sn (by decide), wr_sn (by decide), wr_ss]; rfl
                           · rw [wr_sn (by decide), wr_ss, wr_sn (by decide), hstop]; exact k18)
                      · have hsm : r - q ≤ 2 := (nI_leI (b := 2) (by omega) (by decide)).mp c228
                        have hk : tkK tb L p = 2 := by rw [hkd, if_pos hsm]
                        refine g_iconst C (pc := 231) 1 dX12_next_231 (by decide) ?_
                        refine g_goto C (pc := 232) 236 dX12_next_232 (by decide) ?_
                        refine g_iconst C (pc := 236) 1 dX12_next_236 (by decide) ?_
                        refine g_callVV C (pc := 237) mf_X12_needs lk_RX12_155 (c_X12_needs n ρ J2 _ 1 hn9 hms) (by decide) (Nat.le_refl _) rfl (by first | assumption | rfl | omega) rfl (by first | assumption | rfl | omega) (Nat.le_of_ble_eq_true rfl) dX12_next_237 (fun I237 h237 => ?_)
                        obtain h237 := h237
                        have g21 : J2 97 21 = 0 := (hZ2 21 (by decide) (by decide)).trans ((wr_sn (by decide)).trans k21)
                        first
                        | (rw [if_neg (fun h => absurd h.1 (by decide))] at h237)
                        | (rw [if_pos ⟨rfl, g21⟩] at h237)
                        refine g_goto C (pc := 240) 274 dX12_next_240 (by decide) ?_
                        refine g_vret C hR (pc := 274) rfl dX12_next_274 ?_
                        refine ⟨rfl, rfl, ?_⟩
                        first
                        | (refine ⟨⟨hp, Nx.mk hk (by decide) ?_ ?_ ?_ ?_ (fun h => absurd h (by decide))⟩, kx.trans (Lx.w (by decide) (by decide))⟩
                           · rw [wr_sn (by decide)]; exact k21
                           · rw [wr_sn (by decide), hstop]; exact k18
                           · rw [wr_sn (by decide), he]; exact k17
                           · rw [wr_ss]; rfl)
                        | (refine ⟨⟨hp, Nx.mk hk (by decide) ?_ ?_ ?_ ?_ (fun h => absurd h (by decide))⟩, ⟨fun z hz => ?_, fun i hi => ?_⟩⟩
                           · rw [hZ2 21 (by decide), wr_sn (by decide)]; exact k21
                           · rw [hZ2 18 (by decide), wr_sn (by decide), hstop]; exact k18
                           · rw [he]; exact g17
                           · rw [hZ2 19 (by decide), wr_ss]; rfl
                           · rw [hZ2 z (by omega), wr_sn (by omega)]; exact kx.1 z hz
                           · rw [hF2 i hi]; exact kx.2 i hi)
                        | (subst h237
                           refine ⟨⟨hp, Nx.mk hk (by decide) g21 (by rw [hstop]; exact g18) (by rw [heq]; exact g17) ((hZ2 19 (by decide) (by decide)).trans wr_ss) (fun _ => ?_)⟩, ⟨fun z hz => ?_, fun i hi => ?_⟩⟩
                           · rw [g20]
                             unfold tkV
                             rw [hstop, hrs]
                             by_cases h9 : r - q = 2
                             · rw [if_pos h9, h9]; rfl
                             · rw [if_neg h9, show r - q = 1 by omega]; rfl
                           · rw [hZ2 z (by omega) (by omega), wr_sn (by omega)]; exact kx.1 z hz
                           · rw [hF2 i hi]; exact kx.2 i hi)
                        | (subst h237
                           refine ⟨⟨hp, Or.inl ⟨hk, ?_, ?_, Nat.le_refl 1, (show 1 ≤ 8 by decide)⟩⟩, ⟨fun z hz => ?_, fun i hi => ?_⟩⟩
                           · rw [wr_sn (by decide), wr_ss]; rfl
                           · rw [wr_ss]; show J2 97 18 = nI (tkF tb L p); rw [hstop]; exact g18
                           · rw [wr_sn (by omega), wr_sn (by omega), hZ2 z (by omega) (by omega), wr_sn (by omega)]; exact kx.1 z hz
                           · rw [wr_n hi, wr_n hi, hF2 i hi]; exact kx.2 i hi)
                        | (refine ⟨⟨hp, Nx.mk hk (by decide) ?_ ?_ ?_ ?_ (fun h => absurd h (by decide))⟩, (kx.trans (Lx.w (by decide) (by decide))).trans (Lx.w (by decide) (by decide))⟩
                           · rw [wr_sn (by decide), wr_sn (by decide)]; exact k21
                           · rw [wr_sn (by decide), wr_sn (by decide), hstop]; exact k18
                           · rw [wr_ss, wr_sn (by decide), he, k17]; exact nI_1 _
                           · rw [wr_sn (by decide), wr_ss]; rfl)
                        | (refine ⟨⟨hp, Or.inl ⟨hk, ?_, ?_, Nat.le_refl 1, (show 1 ≤ 8 by decide)⟩⟩, ((((kx.trans (Lx.w (by decide) (by decide))).trans (Lx.w (by decide) (by decide))).trans (Lx.w (by decide) (by decide)))).trans (Lx.w (by decide) (by decide))⟩
                           · rw [wr_sn (by decide), wr_sn (by decide), wr_ss]; rfl
                           · rw [wr_sn (by decide), wr_ss, wr_sn (by decide), hstop]; exact k18)
                    · have hin : r < L ∧ 48 ≤ tb r ∧ tb r ≤ 57 := by
                        have h9 := bI_1.mp (fun h => c158 (e155.trans h))
                        rw [e145] at h9
                        exact (lk_in (lo := 48) (hi := 57) htt (by decide) (by decide)).mp h9
                      refine g_aload_n C (pc := 161) dX12_next_161 0 rfl ?_
                      refine g_aload_n C (pc := 162) dX12_next_162 0 rfl ?_
                      refine g_getI C (pc := 163) fl_RX12_126 (by decide) (by first | assumption | rfl | omega) (by first | assumption | rfl | omega) dX12_next_163 ?_
                      refine g_aload_n C (pc := 166) dX12_next_166 0 rfl ?_
                      refine g_getI C (pc := 167) fl_RX12_120 (by decide) (by first | assumption | rfl | omega) (by first | assumption | rfl | omega) dX12_next_167 ?_
                      refine g_isub C (pc := 170) dX12_next_170 ?_
                      refine g_iconst C (pc := 171) 2 dX12_next_171 (by decide) ?_
                      rw [hdf]
                      refine g_icmp_ge C (pc := 172) 197 dX12_next_172 (by decide) (fun c172 => ?_) (fun c172 => ?_)
                      · have hge2 : 2 ≤ r - q := (nI_leI (a := 2) (by decide) (by omega)).mp c172
                        refine g_aload_n C (pc := 197) dX12_next_197 0 rfl ?_
                        refine g_getI C (pc := 198) fl_RX12_152 (by decide) (by first | assumption | rfl | omega) (by first | assumption | rfl | omega) dX12_next_198 ?_
                        refine g_putI C (pc := 201) fl_RX12_152 (by decide) fp_11_20 (Or.inl rfl) ⟨rfl, rfl⟩ (by first | assumption | rfl | omega) (by first | assumption | rfl | omega) hn9 dX12_next_201 ?_
                        refine g_aload_n C (pc := 204) dX12_next_204 0 rfl ?_
                        refine g_dup C (pc := 205) dX12_next_205 rfl ?_
                        refine g_getI C (pc := 206) fl_RX12_126 (by decide) (by first | assumption | rfl | omega) (by first | assumption | rfl | omega) dX12_next_206 ?_
                        refine g_iconst C (pc := 209) 1 dX12_next_209 (by decide) ?_
                        refine g_iadd C (pc := 210) dX12_next_210 ?_
                        refine g_putI C (pc := 211) fl_RX12_126 (by decide) fp_11_17 (Or.inl rfl) ⟨rfl, rfl⟩ (by first | assumption | rfl | omega) (by first | assumption | rfl | omega) hn9 dX12_next_211 ?_
                        refine g_goto C (pc := 214) 140 dX12_next_214 (by decide) ?_
                        refine g_lv C [0] rfl (ih140 (r + 1)  _ ?_ ?_ ?_ ?_ ?_ ?_ (by omega))
                        · omega
                        · rw [hRR]; exact runT_go hin
                        · rw [wr_ss, wr_sn (by decide), g17]; exact nI_1 _
                        · rw [wr_sn (by decide), wr_ss]
                          first
                          | (rw [g20, vlN_st hge2]; done)
                          | (rw [g20, e187, show lkM tb L r = nI (tb r) from if_pos hin.1]; exact vlN_go hr.1 hlt2 hin.2 (fun _ => hdig))
                        · intro z hz hz2; rw [wr_sn hz, wr_sn hz2]; exact hZ2 z hz hz2
                        · intro i hi; rw [wr_n hi, wr_n hi]; exact hF2 i hi
                      · have hlt2 : r - q < 2 := (nI_ltI (b := 2) (by omega) (by decide)).mp c172
                        refine g_bipush C (pc := 175) 10 dX12_next_175 (by decide) ?_
                        refine g_aload_n C (pc := 177) dX12_next_177 0 rfl ?_
                        refine g_getI C (pc := 178) fl_RX12_152 (by decide) (by first | assumption | rfl | omega) (by first | assumption | rfl | omega) dX12_next_178 ?_
                        refine g_imul C (pc := 181) dX12_next_181 ?_
                        refine g_aload_n C (pc := 182) dX12_next_182 0 rfl ?_
                        refine g_aload_n C (pc := 183) dX12_next_183 0 rfl ?_
                        refine g_getI C (pc := 184) fl_RX12_126 (by decide) (by first | assumption | rfl | omega) (by first | assumption | rfl | omega) dX12_next_184 ?_
                        refine g_callVI C (pc := 187) mf_X12_look lk_RX12_129 (c_X12_look n ρ J2 L tb r _ hn9 hms htb2 (by omega) g17) (by decide) (Nat.le_refl _) rfl (by first | assumption | rfl | omega) rfl (by first | assumption | rfl | omega) (Nat.le_of_ble_eq_true rfl) dX12_next_187 (fun v187 I187 h187 => ?_)
                        obtain ⟨e187, rfl⟩ := h187
                        refine g_iadd C (pc := 190) dX12_next_190 ?_
                        refine g_bipush C (pc := 191) 48 dX12_next_191 (by decide) ?_
                        refine g_isub C (pc := 193) dX12_next_193 ?_
                        refine g_goto C (pc := 194) 201 dX12_next_194 (by decide) ?_
                        refine g_putI C (pc := 201) fl_RX12_152 (by decide) fp_11_20 (Or.inl rfl) ⟨rfl, rfl⟩ (by first | assumption | rfl | omega) (by first | assumption | rfl | omega) hn9 dX12_next_201 ?_
                        refine g_aload_n C (pc := 204) dX12_next_204 0 rfl ?_
                        refine g_dup C (pc := 205) dX12_next_205 rfl ?_
                        refine g_getI C (pc := 206) fl_RX12_126 (by decide) (by first | assumption | rfl | omega) (by first | assumption | rfl | omega) dX12_next_206 ?_
                        refine g_iconst C (pc := 209) 1 dX12_next_209 (by decide) ?_
                        refine g_iadd C (pc := 210) dX12_next_210 ?_
                        refine g_putI C (pc := 211) fl_RX12_126 (by decide) fp_11_17 (Or.inl rfl) ⟨rfl, rfl⟩ (by first | assumption | rfl | omega) (by first | assumption | rfl | omega) hn9 dX12_next_211 ?_
                        refine g_goto C (pc := 214) 140 dX12_next_214 (by decide) ?_
                        refine g_lv C [0] rfl (ih140 (r + 1)  _ ?_ ?_ ?_ ?_ ?_ ?_ (by omega))
                        · omega
                        · rw [hRR]; exact runT_go hin
                        · rw [wr_ss, wr_sn (by decide), g17]; exact nI_1 _
                        · rw [wr_sn (by decide), wr_ss]
                          first
                          | (rw [g20, vlN_st hge2]; done)
                          | (rw [g20, e187, show lkM tb L r = nI (tb r) from if_pos hin.1]; exact vlN_go hr.1 hlt2 hin.2 (fun _ => hdig))
                        · intro z hz hz2; rw [wr_sn hz, wr_sn hz2]; exact hZ2 z hz hz2
                        · intro i hi; rw [wr_n hi, wr_n hi]; exact hF2 i hi
                refine g_lv C [1] rfl (L140 (_ + 1) q  _ ?_ ?_ ?_ ?_ ?_ ?_ (by first | omega | exact Nat.lt_succ_self _))
                · omega
                · rfl
                · rw [wr_sn (by decide), wr_sn (by decide)]; exact k17
                · rw [wr_ss, Nat.sub_self]; rfl
                · intro z _ hz; rw [wr_sn hz]
                · intro i hi; rw [wr_n hi, wr_n hi]
            · have hl : 97 ≤ tb q ∧ tb q ≤ 122 := by
                have h9 := bI_1.mp (fun h => c74 (e71.trans h))
                rw [ev50] at h9
                exact ((lk_in (lo := 97) (hi := 122) htt (by decide) (by decide)).mp h9).2
              have hk : tkK tb L p = 1 := by unfold tkK; rw [hstop, if_neg (by omega), if_neg (by omega), if_pos hl]
              have heq : tkE tb L p = runT tb L 97 122 q := by unfold tkE; rw [hstop, if_neg (by omega), if_neg (by omega), if_pos hl]
              refine g_aload_n C (pc := 77) dX12_next_77 1 rfl ?_
              refine g_iconst C (pc := 78) 1 dX12_next_78 (by decide) ?_
              refine g_putI C (pc := 79) fl_RX12_141 (by decide) fp_11_19 (Or.inl rfl) ⟨rfl, rfl⟩ (by first | assumption | rfl | omega) (by first | assumption | rfl | omega) hn9 dX12_next_79 ?_
              have L82 : ∀ (k9 : Nat) (r : Nat)  (J2 : Mem) (hr : q ≤ r ∧ r ≤ L) (hRR : runT tb L 97 122 q = runT tb L 97 122 r) (g17 : J2 97 17 = nI r) (hZ2 : ∀ z, z ≠ 17 → J2 97 z = wr K 97 19 1 97 z) (hF2 : ∀ i, i ≠ 97 → J2 i = K i), L - r < k9 → G κ n ρ 82 [(0, .ref 97)] [] J2 := by
                intro k9
                induction k9 with
                | zero => intro r J2 hr hRR g17 hZ2 hF2 hm82; exact absurd hm82 (Nat.not_lt_zero _)
                | succ k9 ih82 =>
                  intro r J2 hr hRR g17 hZ2 hF2 hm82
                  have htb2 : TbM J2 L tb := htbK.cg ((hZ2 16 (by decide)).trans (wr_sn (by decide))) (hF2 105 (by decide))
                  refine g_aload_n C (pc := 82) dX12_next_82 0 rfl ?_
                  refine g_aload_n C (pc := 83) dX12_next_83 0 rfl ?_
                  refine g_getI C (pc := 84) fl_RX12_126 (by decide) (by first | assumption | rfl | omega) (by first | assumption | rfl | omega) dX12_next_84 ?_
                  refine g_callVI C (pc := 87) mf_X12_look lk_RX12_129 (c_X12_look n ρ J2 L tb r _ hn9 hms htb2 (by omega) g17) (by decide) (Nat.le_refl _) rfl (by first | assumption | rfl | omega) rfl (by first | assumption | rfl | omega) (Nat.le_of_ble_eq_true rfl) dX12_next_87 (fun v87 I87 h87 => ?_)
                  obtain ⟨e87, rfl⟩ := h87
                  refine g_i2l C (pc := 90) dX12_next_90 ?_
                  refine g_ldc2 C (pc := 91) _ gk_RX12_144 dX12_next_91 ?_
                  refine g_ldc2 C (pc := 94) _ gk_RX12_146 dX12_next_94 ?_
                  refine g_callSI C (pc := 97) mf_X12_in lk_RX12_113 (c_X12_in n ρ _ _ _ _ hn9) (by decide) (Nat.le_refl _) rfl (Nat.le_of_ble_eq_true rfl) dX12_next_97 (fun v97 I97 h97 => ?_)
                  obtain ⟨e97, rfl⟩ := h97
                  refine g_if_eq C (pc := 100) 274 dX12_next_100 (by decide) (fun c100 => ?_) (fun c100 => ?_)
                  · have he : tkE tb L p = r := by
                      rw [heq, hRR]
                      exact runT_stop (fun h => bI_0.mp (e97.symm.trans c100) (by rw [e87]; exact (lk_in (lo := 97) (hi := 122) htt (by decide) (by decide)).mpr h))
                    refine g_vret C hR (pc := 274) rfl dX12_next_274 ?_
                    refine ⟨rfl, rfl, ?_⟩
                    first
                    | (refine ⟨⟨hp, Nx.mk hk (by decide) ?_ ?_ ?_ ?_ (fun h => absurd h (by decide))⟩, kx.trans (Lx.w (by decide) (by decide))⟩
                       · rw [wr_sn (by decide)]; exact k21
                       · rw [wr_sn (by decide), hstop]; exact k18
                       · rw [wr_sn (by decide), he]; exact k17
                       · rw [wr_ss]; rfl)
                    | (refine ⟨⟨hp, Nx.mk hk (by decide) ?_ ?_ ?_ ?_ (fun h => absurd h (by decide))⟩, ⟨fun z hz => ?_, fun i hi => ?_⟩⟩
                       · rw [hZ2 21 (by decide), wr_sn (by decide)]; exact k21
                       · rw [hZ2 18 (by decide), wr_sn (by decide), hstop]; exact k18
                       · rw [he]; exact g17
                       · rw [hZ2 19 (by decide), wr_ss]; rfl
                       · rw [hZ2 z (by omega), wr_sn (by omega)]; exact kx.1 z hz
                       · rw [hF2 i hi]; exact kx.2 i hi)
                    | (subst h237
                       refine ⟨⟨hp, Nx.mk hk (by decide) g21 (by rw [hstop]; exact g18) (by rw [heq]; exact g17) ((hZ2 19 (by decide) (by decide)).trans wr_ss) (fun _ => ?_)⟩, ⟨fun z hz => ?_, fun i hi => ?_⟩⟩
                       · rw [g20]
                         unfold tkV
                         rw [hstop, hrs]
                         by_cases h9 : r - q = 2
                         · rw [if_pos h9, h9]; rfl
                         · rw [if_neg h9, show r - q = 1 by omega]; rfl
                       · rw [hZ2 z (by omega) (by omega), wr_sn (by omega)]; exact kx.1 z hz
                       · rw [hF2 i hi]; exact kx.2 i hi)
                    | (subst h237
                       refine ⟨⟨hp, Or.inl ⟨hk, ?_, ?_, Nat.le_refl 1, (show 1 ≤ 8 by decide)⟩⟩, ⟨fun z hz => ?_, fun i hi => ?_⟩⟩
                       · rw [wr_sn (by decide), wr_ss]; rfl
                       · rw [wr_ss]; show J2 97 18 = nI (tkF tb L p); rw [hstop]; exact g18
                       · rw [wr_sn (by omega), wr_sn (by omega), hZ2 z (by omega) (by omega), wr_sn (by omega)]; exact kx.1 z hz
                       · rw [wr_n hi, wr_n hi, hF2 i hi]; exact kx.2 i hi)
                    | (refine ⟨⟨hp, Nx.mk hk (by decide) ?_ ?_ ?_ ?_ (fun h => absurd h (by decide))⟩, (kx.trans (Lx.w (by decide) (by decide))).trans (Lx.w (by decide) (by decide))⟩
                       · rw [wr_sn (by decide), wr_sn (by decide)]; exact k21
                       · rw [wr_sn (by decide), wr_sn (by decide), hstop]; exact k18
                       · rw [wr_ss, wr_sn (by decide), he, k17]; exact nI_1 _
                       · rw [wr_sn (by decide), wr_ss]; rfl)
                    | (refine ⟨⟨hp, Or.inl ⟨hk, ?_, ?_, Nat.le_refl 1, (show 1 ≤ 8 by decide)⟩⟩, ((((kx.trans (Lx.w (by decide) (by decide))).trans (Lx.w (by decide) (by decide))).trans (Lx.w (by decide) (by decide)))).trans (Lx.w (by decide) (by decide))⟩
                       · rw [wr_sn (by decide), wr_sn (by decide), wr_ss]; rfl
                       · rw [wr_sn (by decide), wr_ss, wr_sn (by decide), hstop]; exact k18)
                  · have hin : r < L ∧ 97 ≤ tb r ∧ tb r ≤ 122 := by
                      have h9 := bI_1.mp (fun h => c100 (e97.trans h))
                      rw [e87] at h9
                      exact (lk_in (lo := 97) (hi := 122) htt (by decide) (by decide)).mp h9
                    refine g_aload_n C (pc := 103) dX12_next_103 0 rfl ?_
                    refine g_dup C (pc := 104) dX12_next_104 rfl ?_
                    refine g_getI C (pc := 105) fl_RX12_126 (by decide) (by first | assumption | rfl | omega) (by first | assumption | rfl | omega) dX12_next_105 ?_
                    refine g_iconst C (pc := 108) 1 dX12_next_108 (by decide) ?_
                    refine g_iadd C (pc := 109) dX12_next_109 ?_
                    refine g_putI C (pc := 110) fl_RX12_126 (by decide) fp_11_17 (Or.inl rfl) ⟨rfl, rfl⟩ (by first | assumption | rfl | omega) (by first | assumption | rfl | omega) hn9 dX12_next_110 ?_
                    refine g_goto C (pc := 113) 82 dX12_next_113 (by decide) ?_
                    refine g_lv C [0] rfl (ih82 (r + 1)  _ ?_ ?_ ?_ ?_ ?_ (by omega))
                    · omega
                    · rw [hRR]; exact runT_go hin
                    · rw [wr_ss, g17]; exact nI_1 _
                    · intro z hz; rw [wr_sn hz]; exact hZ2 z hz
                    · intro i hi; rw [wr_n hi]; exact hF2 i hi
              refine g_lv C [1] rfl (L82 (_ + 1) q  _ ?_ ?_ ?_ ?_ ?_ (by first | omega | exact Nat.lt_succ_self _))
              · omega
              · rfl
              · rw [wr_sn (by decide)]; exact k17
              · intro z _; rfl
              · intro i hi; exact wr_n hi
          · have hend : L ≤ q := by
              refine (lk_neg htt).mp ?_
              rw [← ev50]
              first | exact c52 | exact Int32.not_le.mp c52
            have hk : tkK tb L p = 4 := by unfold tkK; rw [hstop, if_pos hend]
            have he : tkE tb L p = q := by unfold tkE; rw [hstop, if_pos hend]
            refine g_aload_n C (pc := 55) dX12_next_55 1 rfl ?_
            refine g_iconst C (pc := 56) 0 dX12_next_56 (by decide) ?_
            refine g_putI C (pc := 57) fl_RX12_141 (by decide) fp_11_19 (Or.inl rfl) ⟨rfl, rfl⟩ (by first | assumption | rfl | omega) (by first | assumption | rfl | omega) hn9 dX12_next_57 ?_
            refine g_goto C (pc := 60) 274 dX12_next_60 (by decide) ?_
            refine g_vret C hR (pc := 274) rfl dX12_next_274 ?_
            refine ⟨rfl, rfl, ?_⟩
            first
            | (refine ⟨⟨hp, Nx.mk hk (by decide) ?_ ?_ ?_ ?_ (fun h => absurd h (by decide))⟩, kx.trans (Lx.w (by decide) (by decide))⟩
               · rw [wr_sn (by decide)]; exact k21
               · rw [wr_sn (by decide), hstop]; exact k18
               · rw [wr_sn (by decide), he]; exact k17
               · rw [wr_ss]; rfl)
            | (refine ⟨⟨hp, Nx.mk hk (by decide) ?_ ?_ ?_ ?_ (fun h => absurd h (by decide))⟩, ⟨fun z hz => ?_, fun i hi => ?_⟩⟩
               · rw [hZ2 21 (by decide), wr_sn (by decide)]; exact k21
               · rw [hZ2 18 (by decide), wr_sn (by decide), hstop]; exact k18
               · rw [he]; exact g17
               · rw [hZ2 19 (by decide), wr_ss]; rfl
               · rw [hZ2 z (by omega), wr_sn (by omega)]; exact kx.1 z hz
               · rw [hF2 i hi]; exact kx.2 i hi)
            | (subst h237
               refine ⟨⟨hp, Nx.mk hk (by decide) g21 (by rw [hstop]; exact g18) (by rw [heq]; exact g17) ((hZ2 19 (by decide) (by decide)).trans wr_ss) (fun _ => ?_)⟩, ⟨fun z hz => ?_, fun i hi => ?_⟩⟩
               · rw [g20]
                 unfold tkV
                 rw [hstop, hrs]
                 by_cases h9 : r - q = 2
                 · rw [if_pos h9, h9]; rfl
                 · rw [if_neg h9, show r - q = 1 by omega]; rfl
               · rw [hZ2 z (by omega) (by omega), wr_sn (by omega)]; exact kx.1 z hz
               · rw [hF2 i hi]; exact kx.2 i hi)
            | (subst h237
               refine ⟨⟨hp, Or.inl ⟨hk, ?_, ?_, Nat.le_refl 1, (show 1 ≤ 8 by decide)⟩⟩, ⟨fun z hz => ?_, fun i hi => ?_⟩⟩
               · rw [wr_sn (by decide), wr_ss]; rfl
               · rw [wr_ss]; show J2 97 18 = nI (tkF tb L p); rw [hstop]; exact g18
               · rw [wr_sn (by omega), wr_sn (by omega), hZ2 z (by omega) (by omega), wr_sn (by omega)]; exact kx.1 z hz
               · rw [wr_n hi, wr_n hi, hF2 i hi]; exact kx.2 i hi)
            | (refine ⟨⟨hp, Nx.mk hk (by decide) ?_ ?_ ?_ ?_ (fun h => absurd h (by decide))⟩, (kx.trans (Lx.w (by decide) (by decide))).trans (Lx.w (by decide) (by decide))⟩
               · rw [wr_sn (by decide), wr_sn (by decide)]; exact k21
               · rw [wr_sn (by decide), wr_sn (by decide), hstop]; exact k18
               · rw [wr_ss, wr_sn (by decide), he, k17]; exact nI_1 _
               · rw [wr_sn (by decide), wr_ss]; rfl)
            | (refine ⟨⟨hp, Or.inl ⟨hk, ?_, ?_, Nat.le_refl 1, (show 1 ≤ 8 by decide)⟩⟩, ((((kx.trans (Lx.w (by decide) (by decide))).trans (Lx.w (by decide) (by decide))).trans (Lx.w (by decide) (by decide)))).trans (Lx.w (by decide) (by decide))⟩
               · rw [wr_sn (by decide), wr_sn (by decide), wr_ss]; rfl
               · rw [wr_sn (by decide), wr_ss, wr_sn (by decide), hstop]; exact k18)
        · have hsp : q < L ∧ tb q = 32 := (lk_is (c := 32) htt (by decide)).mp (e13.symm.trans c18)
          refine g_aload_n C (pc := 21) dX12_next_21 0 rfl ?_
          refine g_dup C (pc := 22) dX12_next_22 rfl ?_
          refine g_getI C (pc := 23) fl_RX12_126 (by decide) (by first | assumption | rfl | omega) (by first | assumption | rfl | omega) dX12_next_23 ?_
          refine g_iconst C (pc := 26) 1 dX12_next_26 (by decide) ?_
          refine g_iadd C (pc := 27) dX12_next_27 ?_
          refine g_putI C (pc := 28) fl_RX12_126 (by decide) fp_11_17 (Or.inl rfl) ⟨rfl, rfl⟩ (by first | assumption | rfl | omega) (by first | assumption | rfl | omega) hn9 dX12_next_28 ?_
          refine g_goto C (pc := 31) 8 dX12_next_31 (by decide) ?_
          refine g_lv C [0] rfl (ih8 (q + 1)  _ ?_ ?_ ?_ ?_ ?_ (by omega))
          · omega
          · rw [hRu]; exact runT_go ⟨hsp.1, by omega, by omega⟩
          · rw [wr_ss, h17]; exact nI_1 _
          · intro z hz; rw [wr_sn hz]; exact hZ z hz
          · intro i hi; rw [wr_n hi]; exact hF i hi
    refine g_lv C [0] rfl (L8 (_ + 1) p  _ ?_ ?_ ?_ ?_ ?_ (by first | omega | exact Nat.lt_succ_self _))
    · omega
    · rfl
    · exact hpos
    · intro z _; rfl
    · intro i _; rfl
  · exfalso; rw [h21] at c4; exact absurd c4 (by decide)
