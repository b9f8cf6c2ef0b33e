/-- a cell read of a sheet: what the machine finds -/
def rF (lk : Option Nat) (s l : Nat) (p : Int) : Nat := match lk with
  | none => 1
  | some l' => if l' = l then (if 0 ≤ p ∧ p < (s : Int) then 0 else 2) else 3
theorem rdW_go {lk : Option Nat} {s l m W FO : Nat} {f : Int32} (hs : s ≤ 40) (h : rdW lk s l f m = (W, FO)) : W ≤ m ∧ (∀ i, i < W → rF lk s l (f.toInt + 2 * i) = 0 ∧ rF lk s l (f.toInt + 2 * i + 1) = 0 ∧ f.toInt = (f.toNatClampNeg : Int) ∧ f.toNatClampNeg + 2 * i + 1 < s) ∧ (W < m → FO ≠ 0 ∧ (rF lk s l (f.toInt + 2 * W) = FO ∨ (rF lk s l (f.toInt + 2 * W) = 0 ∧ rF lk s l (f.toInt + 2 * W + 1) = FO))) ∧ (W = m → FO = 0) := by
  unfold rdW at h
  by_cases hm : m = 0
  · rw [if_pos hm] at h
    cases h
    exact ⟨by omega, fun i hi => by omega, fun h => by omega, fun _ => rfl⟩
  · rw [if_neg hm] at h
    cases e : lk with
    | none =>
      rw [e] at h; cases h
      exact ⟨by omega, fun i hi => by omega, fun _ => ⟨by decide, Or.inl rfl⟩, fun h => by omega⟩
    | some l' =>
      rw [e] at h
      replace h : (if l' = l then (if 0 ≤ f ∧ f < nI s then (if (s - f.toNatClampNeg) / 2 < m then ((s - f.toNatClampNeg) / 2, 2) else (m, 0)) else (0, 2)) else (0, 3)) = (W, FO) := h
      have hr : ∀ p, rF (some l') s l p = if l' = l then (if 0 ≤ p ∧ p < (s : Int) then 0 else 2) else 3 := fun _ => rfl
      by_cases hl : l' = l
      · rw [if_pos hl] at h
        have hr2 : ∀ p, rF (some l') s l p = if 0 ≤ p ∧ p < (s : Int) then 0 else 2 := fun p => by rw [hr, if_pos hl]
        by_cases hf : 0 ≤ f ∧ f < nI s
        · rw [if_pos hf] at h
          obtain ⟨q, hq, rfl⟩ := ix_of (by omega) hf
          have hc : (nI q).toNatClampNeg = q := nI_clamp (by omega)
          have hi9 : (nI q).toInt = (q : Int) := nI_toInt (by omega)
          rw [hc] at h ⊢
          rw [hi9]
          have hgo : ∀ W', W' ≤ (s - q) / 2 → ∀ i, i < W' → rF (some l') s l ((q : Int) + 2 * i) = 0 ∧ rF (some l') s l ((q : Int) + 2 * i + 1) = 0 ∧ (q : Int) = (q : Int) ∧ q + 2 * i + 1 < s := fun W' h1 i h2 => by
            rw [hr2, hr2, if_pos (by omega), if_pos (by omega)]; exact ⟨rfl, rfl, rfl, by omega⟩
          by_cases h2 : (s - q) / 2 < m
          · rw [if_pos h2] at h; cases h
            refine ⟨by omega, hgo _ (Nat.le_refl _), fun _ => ⟨by decide, ?_⟩, fun h => by omega⟩
            rw [hr2, hr2]
            by_cases h3 : q + 2 * ((s - q) / 2) < s
            · right; rw [if_pos (by omega), if_neg (by omega)]; exact ⟨rfl, rfl⟩
            · left; rw [if_neg (by omega)]
          · rw [if_neg h2] at h; cases h
            exact ⟨Nat.le_refl _, hgo _ (by omega), fun h => by omega, fun _ => rfl⟩
        · rw [if_neg hf] at h; cases h
          refine ⟨by omega, fun i hi => by omega, fun _ => ⟨by decide, Or.inl ?_⟩, fun h => by omega⟩
          rw [hr2, if_neg ?_]
          rintro ⟨h1, h2⟩
          apply hf
          rw [Int32.le_iff_toInt_le, Int32.lt_iff_toInt_lt, nI_toInt (by omega)]
          have : (0 : Int32).toInt = 0 := by decide
          omega
      · rw [if_neg hl] at h; cases h
        exact ⟨by omega, fun i hi => by omega, fun _ => ⟨by decide, Or.inl (by rw [hr, if_neg hl])⟩, fun h => by omega⟩
/-- the place of a cell, as a long -/
theorem cp_long {f : Int32} {i c : Nat} (hi : i < 100) (hc : c < 3) : (f.toInt64 + (2 * nI i).toInt64 + (nI c).toInt64).toInt = f.toInt + 2 * i + c := by
  have h1 := Int32.toInt_lt f
  have h2 := Int32.le_toInt f
  have e1 : (2 * nI i).toInt64.toInt = 2 * (i : Int) := by
    rw [show (2 : Int32) = nI 2 from rfl, pk_mul, Int32.toInt_toInt64, nI_toInt (by omega)]; omega
  have e2 : (nI c).toInt64.toInt = (c : Int) := by rw [Int32.toInt_toInt64, nI_toInt (by omega)]
  have e3 : (f.toInt64 + (2 * nI i).toInt64).toInt = f.toInt + 2 * (i : Int) := by
    rw [Int64.toInt_add, Int32.toInt_toInt64, e1]
    exact Int.bmod_eq_of_le (by omega) (by omega)
  rw [Int64.toInt_add, e3, e2]
  exact Int.bmod_eq_of_le (by omega) (by omega)
/-- a turn, as the reference plays it *)-/
def GoM (I I1 : Mem) (F : RT) (b : BT) (t : Nat) (x z : Int32) : Prop :=
  (goF F b t x z = none ∧ Kp I I1) ∨ (∃ b' t', goF F b t x z = some (b', t') ∧ QN I1 F b' ∧ I1 98 19 = nI t' ∧ KpS I I1)
theorem goM_of {I I1 : Mem} {F : RT} {b : BT} {t : Nat} {x z v : Int32} (hn : rN F ≤ 6)
    (h : (¬ (∃ w mv, (w < 5 ∧ x = nI w ∧ MvS F b w z mv)) ∧ v = -1 ∧ Kp I I1) ∨ (∃ w mv, (w < 5 ∧ x = nI w ∧ MvS F b w z mv) ∧ ((¬ lostB F b = none ∧ v = -2 ∧ Kp I I1) ∨ (lostB F b = none ∧ 999 ≤ t ∧ v = -3 ∧ Kp I I1) ∨ (lostB F b = none ∧ t < 999 ∧ v = oI (mv.bind (fun m => pon F b (m % 100))) ∧ QN I1 F (playB F b w mv) ∧ I1 98 19 = nI (t + 1) ∧ KpS I I1)))) : GoM I I1 F b t x z := by
  have hx5 : ∀ w, w < 5 → (0 ≤ nI w ∧ nI w < (5 : Int32)) := fun w hw => ⟨nI_pos' (by omega), nI_lt (b := 5) hw (by decide)⟩
  rcases h with ⟨h1, h2, h3⟩ | ⟨w, mv, ⟨h1, h2, h3⟩, h⟩
  · left
    refine ⟨?_, h3⟩
    unfold goF
    split
    · rename_i hx
      obtain ⟨w, hw, rfl⟩ := ix_of (n := 5) (by decide) hx
      rw [nI_clamp (by omega)]
      cases e : selM F b w z with
      | none => rfl
      | some mv => exact absurd ⟨w, mv, hw, rfl, (selM_iff hn).mpr e⟩ h1
    · rfl
  · subst h2
    have hs := (selM_iff hn).mp h3
    have hg : goF F b t (nI w) z = if lostP F b = none ∧ t < 999 then some (playB F b w mv, t + 1) else none := by
      unfold goF
      rw [if_pos (hx5 w h1), nI_clamp (by omega), hs]
    rcases h with ⟨a1, a2, a3⟩ | ⟨a1, a2, a3, a4⟩ | ⟨a1, a2, a3, a4⟩
    · exact Or.inl ⟨by rw [hg, if_neg (fun h => a1 (lostB_none.mpr h.1))], a3⟩
    · exact Or.inl ⟨by rw [hg, if_neg (fun h => by omega)], a4⟩
    · exact Or.inr ⟨_, _, by rw [hg, if_pos ⟨lostB_none.mp a1, a2⟩], a4⟩
theorem selM_nth {F : RT} {b : BT} {w : Nat} {z : Int32} {mv : Option Nat} (h : selM F b w z = some mv) : ∃ k : Nat, mv = ((mvs F b w)[k]? : Option Nat) := by
  unfold selM at h
  split at h
  · exact ⟨_, (Option.some.inj h).symm⟩
  · split at h
    · rename_i h2
      refine ⟨0, ?_⟩
      rw [← Option.some.inj h, List.getElem?_eq_none (by omega)]
    · cases h
theorem goF_L {F : RT} {b b' : BT} {t t' : Nat} {x z : Int32} (hf : RW F) (hl : L1 F b) (hp : PW F b) (h : goF F b t x z = some (b', t')) : L1 F b' ∧ PW F b' := by
  obtain ⟨h1, h2, h3, w, mv, h4, h5, h6, h7⟩ := goF_some h
  obtain ⟨k, hk⟩ := selM_nth h6
  rw [h7, hk]
  exact ⟨L1_play hl, PW_play (mvs_K hf) hf hp⟩
/-- what reading turns keeps, the board ahead laid by -/
def FrD (I J : Mem) : Prop := (∀ z, z < 25 ∨ 37 < z → J 97 z = I 97 z) ∧ (∀ i, i < 97 ∨ (98 < i ∧ i < 106) ∨ (114 < i ∧ i ≠ 118) → J i = I i) ∧ (∀ z, 12 ≤ z → z ≠ 18 → z ≠ 19 → J 98 z = I 98 z) ∧ ∀ j, j < 20 → J 118 j = I 98 j
theorem FrD.go {I J J1 : Mem} (h : FrD I J) (k : KpS J J1) : FrD I J1 := ⟨fun z hz => (k.1 z hz).trans (h.1 z hz), fun i hi => (k.2.1 i (by omega)).trans (h.2.1 i hi), fun z h1 h2 h3 => (k.2.2 z h1 h2 h3).trans (h.2.2.1 z h1 h2 h3), fun j hj => by rw [k.2.1 118 (by decide)]; exact h.2.2.2 j hj⟩
theorem FrD.kp {I J J1 : Mem} (h : FrD I J) (k : Kp J J1) : FrD I J1 := ⟨fun z hz => (k.1 z hz).trans (h.1 z hz), fun i hi => (k.2 i (by omega)).trans (h.2.1 i hi), fun z h1 h2 h3 => by rw [k.2 98 (by decide)]; exact h.2.2.1 z h1 h2 h3, fun j hj => by rw [k.2 118 (by decide)]; exact h.2.2.2 j hj⟩
theorem rdS_step {F : RT} {ws ms : Nat → Int32} {k i t t' : Nat} {b b' : BT} (h : goF F b t (ws i) (ms i) = some (b', t')) : rdS F ws ms (k + 1) i b t = rdS F ws ms k (i + 1) b' t' := by rw [rdS, h]
theorem rdS_stop {F : RT} {ws ms : Nat → Int32} {k i t : Nat} {b : BT} (h : goF F b t (ws i) (ms i) = none) : rdS F ws ms (k + 1) i b t = (some i, b, t) := by rw [rdS, h]
theorem rF_lt {lk : Option Nat} {s l : Nat} {p : Int} : rF lk s l p < 4 := by
  unfold rF
  cases lk with
  | none => show 1 < 4; decide
  | some l' =>
    show (if l' = l then (if 0 ≤ p ∧ p < (s : Int) then 0 else 2) else 3) < 4
    split
    · split <;> decide
    · decide
theorem QN.kpj {I J : Mem} {F : RT} {b : BT} (h : QN I F b) (hF : ∀ i, i ≠ 118 → J i = I i) : QN J F b := by
  unfold QN QF QE
  rw [hF 97 (by decide), hF 98 (by decide), hF 100 (by decide), hF 101 (by decide)]
  exact h
set_option maxHeartbeats 3200000 in
theorem c_X12_read (n : Nat) (ρ : Rho) (I : Mem) (F : RT) (b : BT) (ln : Nat → Option Nat) (sz : Nat → Nat) (cl : Nat → Nat → Int32) (t : Nat) (x y9 z u : Int32) (hn9 : n ≤ 999) (hms : MS n ρ) (hqn : QN I F b) (hrw : RW F) (hbw : BW F b) (hl1 : L1 F b) (hpw : PW F b) (hsh : ShM I ln sz cl) (htu : I 98 19 = nI t) (ht9 : t ≤ 999) : MI yX12_read cX12_read 11 (some .int) 5 [.ref 97, .int x, .int y9, .int z, .int u] n ρ I (fun v I1 => ((∃ k l m, (k < 4 ∧ l < 3 ∧ m ≤ 13 ∧ x = nI k ∧ y9 = nI l ∧ u = nI m) ∧ ((∃ bb tt, rdS F (fun i => cl k (z.toNatClampNeg + 2 * i)) (fun i => cl k (z.toNatClampNeg + 2 * i + 1)) (rdW (ln k) (sz k) l z m).1 0 b t = (none, bb, tt) ∧ v = nI (rdW (ln k) (sz k) l z m).1 ∧ QN I1 F bb ∧ I1 98 19 = nI tt ∧ I1 97 41 = nI (rdW (ln k) (sz k) l z m).2) ∨ (∃ i bb tt, rdS F (fun i => cl k (z.toNatClampNeg + 2 * i)) (fun i => cl k (z.toNatClampNeg + 2 * i + 1)) (rdW (ln k) (sz k) l z m).1 0 b t = (some i, bb, tt) ∧ i < 13 ∧ v = -20 - nI i ∧ QN I1 F b ∧ I1 98 19 = nI t ∧ I1 97 41 = I 97 41))) ∨ (¬ (∃ k l m, (k < 4 ∧ l < 3 ∧ m ≤ 13 ∧ x = nI k ∧ y9 = nI l ∧ u = nI m)) ∧ v = -1 ∧ I = I1)) ∧ (∀ z, (z < 25 ∨ 37 < z) → z ≠ 41 → I1 97 z = I 97 z) ∧ (∀ i, i < 97 ∨ (98 < i ∧ i < 106) ∨ (114 < i ∧ i ≠ 118) → I1 i = I i) ∧ ∀ z, 12 ≤ z → z ≠ 18 → z ≠ 19 → I1 98 z = I 98 z) := by
  refine MG.of (by decide +kernel) (Nat.le_of_ble_eq_true rfl) hn9 ?_
  intro κ C hR
  show G κ n ρ 0 [(0, .ref 97), (1, .int x), (2, .int y9), (3, .int z), (4, .int u)] [] I
  obtain ⟨mn, ⟨m0, m1, m5, m6, m7, m11, m12, m15⟩, ⟨m23, m24, m26, m27, m28, m30, m31, m32, m33⟩, ⟨m38, m39, m40, m42⟩⟩ := id hms
  obtain ⟨hqf, hqe, hqs, hqt⟩ := id hqn
  obtain ⟨qw, qh, qn, qk⟩ := id hqf
  have hn6 : rN F ≤ 6 := hrw.2.2.2.2.1
  have hm25 := Nat.mul_le_mul hrw.2.1 hrw.2.2.2.1
  have hm4 := Nat.mul_le_mul hrw.1 hrw.2.2.1
  refine g_iload_n C (pc := 0) dX12_read_0 1 rfl ?_
  refine g_iload_n C (pc := 1) dX12_read_1 2 rfl ?_
  refine g_callSI C (pc := 2) mf_X12_isSheet lk_RX12_354 (c_X12_isSheet n ρ I x y9 hn9) (by decide) (Nat.le_refl _) rfl (Nat.le_of_ble_eq_true rfl) dX12_read_2 (fun v2 I2 h2 => ?_)
  obtain ⟨e2, rfl⟩ := h2
  refine g_if_eq C (pc := 5) 21 dX12_read_5 (by decide) (fun c5 => ?_) (fun c5 => ?_)
  · have hx := bI_0.mp (e2.symm.trans c5)
    refine g_iconst C (pc := 21) (-1) dX12_read_21 (by decide) ?_
    refine g_iret C hR (pc := 22) rfl dX12_read_22 ?_
    refine ⟨rfl, _, rfl, ?_⟩
    refine ⟨Or.inr ⟨?_, rfl, rfl⟩, fun _ _ _ => rfl, fun _ _ => rfl, fun _ _ _ _ => rfl⟩
    rintro ⟨k9, l9, m9, h1, h2, h3, h4, h5, h6⟩
    first | (exact hx ⟨by rw [h4]; exact ⟨nI_pos' (by omega), nI_lt (b := 4) h1 (by decide)⟩, by rw [h5]; exact ⟨nI_pos' (by omega), nI_lt (b := 3) h2 (by decide)⟩⟩) | exact hu ⟨m9, by omega, h3, h6⟩
  · have hx := bI_1.mp (fun h => c5 (e2.trans h))
    obtain ⟨k, hk, hxk⟩ := ix_of (n := 4) (by decide) hx.1
    obtain ⟨l, hl, hyl⟩ := ix_of (n := 3) (by decide) hx.2
    refine g_iload C (pc := 8) dX12_read_8 4 rfl ?_
    refine g_i2l C (pc := 10) dX12_read_10 ?_
    refine g_lconst C (pc := 11) 0 dX12_read_11 (by decide) ?_
    refine g_ldc2 C (pc := 12) _ gk_RX12_358 dX12_read_12 ?_
    refine g_callSI C (pc := 15) mf_X12_in lk_RX12_113 (c_X12_in n ρ I _ _ _ hn9) (by decide) (Nat.le_refl _) rfl (Nat.le_of_ble_eq_true rfl) dX12_read_15 (fun v15 I15 h15 => ?_)
    obtain ⟨e15, rfl⟩ := h15
    refine g_if_ne C (pc := 18) 23 dX12_read_18 (by decide) (fun c18 => ?_) (fun c18 => ?_)
    · obtain ⟨m, hml, hmh, hum⟩ := (inL (x := u) (lo := 0) (hi := 13) (by decide) (by decide)).mp (bI_1.mp (fun h => c18 (e15.trans h)))
      refine g_iconst C (pc := 23) 0 dX12_read_23 (by decide) ?_
      refine g_istore C (pc := 24) dX12_read_24 (by decide) (fun v24 => [(5, .int v24), (0, .ref 97), (1, .int x), (2, .int y9), (3, .int z), (4, .int u)]) (fun _ => rfl) (fun v24 ev24 => ?_)
      have L26 : ∀ (k9 : Nat) (j : Nat) (wz5 : Int32) (J : Mem) (hw5 : wz5 = nI j) (hj : j ≤ 20) (hA : ∀ q, q < j → J 118 q = I 98 q) (hF : ∀ i, i ≠ 118 → J i = I i), 20 - j < k9 → G κ n ρ 26 [(5, .int wz5), (0, .ref 97), (1, .int x), (2, .int y9), (3, .int z), (4, .int u)] [] J := by
        intro k9
        induction k9 with
        | zero => intro j wz5 J hw5 hj hA hF hm26; exact absurd hm26 (Nat.not_lt_zero _)
        | succ k9 ih26 =>
          intro j wz5 J hw5 hj hA hF hm26
          subst hw5
          refine g_iload C (pc := 26) dX12_read_26 0 rfl ?_
          refine g_bipush C (pc := 28) 20 dX12_read_28 (by decide) ?_
          refine g_icmp_ge C (pc := 30) 53 dX12_read_30 (by decide) (fun c30 => ?_) (fun c30 => ?_)
          · replace c30 := (nI_leI (a := 20) (b := j) (by decide) (by omega)).mp c30
            refine g_iconst C (pc := 53) 0 dX12_read_53 (by decide) ?_
            first
            | (obtain ⟨W, FO, hWF⟩ : ∃ W FO, rdW (ln k) (sz k) l z m = (W, FO) := ⟨_, _, rfl⟩
               obtain ⟨s1, s2, s3, s4, s5⟩ := hsh k hk
               obtain ⟨hWm, hgo, hst, heq⟩ := rdW_go s3 hWF
               have hcx : x.toNatClampNeg = k := by rw [hxk]; exact nI_clamp (by omega))
            refine g_istore C (pc := 54) dX12_read_54 (by decide) (fun v54 => [(5, .int v54), (0, .ref 97), (1, .int x), (2, .int y9), (3, .int z), (4, .int u)]) (fun _ => rfl) (fun v54 ev54 => ?_)
            refine g_iconst C (pc := 56) 0 dX12_read_56 (by decide) ?_
            refine g_istore C (pc := 57) dX12_read_57 (by decide) (fun v57 => [(6, .int v57), (5, .int v54), (0, .ref 97), (1, .int x), (2, .int y9), (3, .int z), (4, .int u)]) (fun _ => rfl) (fun v57 ev57 => ?_)
            refine g_iconst C (pc := 59) 0 dX12_read_59 (by decide) ?_
            refine g_istore C (pc := 60) dX12_read_60 (by decide) (fun v60 => [(7, .int v60), (6, .int v57), (5, .int v54), (0, .ref 97), (1, .int x), (2, .int y9), (3, .int z), (4, .int u)]) (fun _ => rfl) (fun v60 ev60 => ?_)
            have L62 : ∀ (k9 : Nat) (i rr : Nat) (bi : BT) (ti : Nat) (wz7 : Int32) (wz6 : Int32) (wz5 : Int32) (J2 : Mem) (hw7 : wz7 = nI i) (hi : i ≤ m) (hw5 : wz5 = nI rr) (hr4 : rr < 4) (hs : ((rr = 0 ∧ i ≤ W ∧ wz6 = nI (i) ∧ rdS F (fun i => cl k (z.toNatClampNeg + 2 * i)) (fun i => cl k (z.toNatClampNeg + 2 * i + 1)) W 0 b t = rdS F (fun i => cl k (z.toNatClampNeg + 2 * i)) (fun i => cl k (z.toNatClampNeg + 2 * i + 1)) (W - (i)) (i) bi ti) ∨ (¬ rr = 0 ∧ rr = FO ∧ W < m ∧ wz6 = nI W ∧ rdS F (fun i => cl k (z.toNatClampNeg + 2 * i)) (fun i => cl k (z.toNatClampNeg + 2 * i + 1)) W 0 b t = (none, bi, ti)))) (hQ : QN J2 F bi) (hT2 : J2 98 19 = nI ti) (hti : ti ≤ 999) (hB2 : BW F bi) (hL2 : L1 F bi) (hP2 : PW F bi) (hFr : FrD I J2), m - i < k9 → G κ n ρ 62 [(7, .int wz7), (6, .int wz6), (5, .int wz5), (0, .ref 97), (1, .int x), (2, .int y9), (3, .int z), (4, .int u)] [] J2 := by
              intro k9
              induction k9 with
              | zero => intro i rr bi ti wz7 wz6 wz5 J2 hw7 hi hw5 hr4 hs hQ hT2 hti hB2 hL2 hP2 hFr hm62; exact absurd hm62 (Nat.not_lt_zero _)
              | succ k9 ih62 =>
                intro i rr bi ti wz7 wz6 wz5 J2 hw7 hi hw5 hr4 hs hQ hT2 hti hB2 hL2 hP2 hFr hm62
                subst hw7 hw5
                have h115 : J2 115 = I 115 := hFr.2.1 115 (by decide)
                have h116 : J2 116 = I 116 := hFr.2.1 116 (by decide)
                have h117 : J2 117 = I 117 := hFr.2.1 117 (by decide)
                refine g_iload C (pc := 62) dX12_read_62 0 rfl ?_
                refine g_iload C (pc := 64) dX12_read_64 7 rfl ?_
                refine g_icmp_ge C (pc := 66) 269 dX12_read_66 (by decide) (fun c66 => ?_) (fun c66 => ?_)
                · rw [hum, nI_leI (by omega) (by omega)] at c66
                  have him : i = m := by omega
                  refine g_aload_n C (pc := 269) dX12_read_269 3 rfl ?_
                  refine g_iload C (pc := 270) dX12_read_270 2 rfl ?_
                  refine g_putI C (pc := 272) fl_RX12_363 (by decide) fp_11_41 (Or.inl rfl) ⟨rfl, rfl⟩ (by first | assumption | rfl | omega) (by first | assumption | rfl | omega) hn9 dX12_read_272 ?_
                  refine g_iload C (pc := 275) dX12_read_275 1 rfl ?_
                  refine g_iret C hR (pc := 277) rfl dX12_read_277 ?_
                  refine ⟨rfl, _, rfl, ?_⟩
                  have hfin : wz6 = nI W ∧ rr = FO ∧ rdS F (fun i => cl k (z.toNatClampNeg + 2 * i)) (fun i => cl k (z.toNatClampNeg + 2 * i + 1)) W 0 b t = (none, bi, ti) := by
                    rcases hs with ⟨g1, g2, g3, g4⟩ | ⟨g1, g2, g3, g4, g5⟩
                    · first
                      | exact absurd g1 hr1
                      | (have hWe : W = m := by omega
                         exact ⟨by rw [g3, him, hWe], g1.trans (heq hWe).symm, by rw [g4, him, hWe, Nat.sub_self]; rfl⟩)
                    · exact ⟨g4, g2, g5⟩
                  obtain ⟨f1, f2, f3⟩ := hfin
                  refine ⟨Or.inl ⟨k, l, m, ⟨hk, hl, by omega, hxk, hyl, hum⟩, ?_⟩, fun z9 h9 h8 => by rw [wr_sn h8]; exact hFr.1 z9 h9, fun i9 h9 => by rw [wr_n (by omega)]; exact hFr.2.1 i9 h9, fun z9 h1 h2 h3 => by rw [wr_n (by decide)]; exact hFr.2.2.1 z9 h1 h2 h3⟩
                  rw [hWF]
                  refine Or.inl ⟨bi, ti, f3, f1, ?_, by rw [wr_n (by decide)]; exact hT2, by rw [wr_ss, f2]⟩
                  exact ⟨hQ.1.cong (wr_sn (by decide)) (wr_sn (by decide)) (wr_sn (by decide)) (wr_n (by decide)) (wr_n (by decide)), hQ.2.1.cong (fun q _ => by rw [wr_n (by decide)]), by rw [wr_n (by decide)]; exact hQ.2.2⟩
                · rw [hum, nI_ltI (by omega) (by omega)] at c66
                  refine g_iload C (pc := 69) dX12_read_69 2 rfl ?_
                  refine g_if_ne C (pc := 71) 269 dX12_read_71 (by decide) (fun c71 => ?_) (fun c71 => ?_)
                  · have hr1 : ¬ rr = 0 := fun h9 => c71 (by rw [h9]; rfl)
                    refine g_aload_n C (pc := 269) dX12_read_269 3 rfl ?_
                    refine g_iload C (pc := 270) dX12_read_270 2 rfl ?_
                    refine g_putI C (pc := 272) fl_RX12_363 (by decide) fp_11_41 (Or.inl rfl) ⟨rfl, rfl⟩ (by first | assumption | rfl | omega) (by first | assumption | rfl | omega) hn9 dX12_read_272 ?_
                    refine g_iload C (pc := 275) dX12_read_275 1 rfl ?_
                    refine g_iret C hR (pc := 277) rfl dX12_read_277 ?_
                    refine ⟨rfl, _, rfl, ?_⟩
                    have hfin : wz6 = nI W ∧ rr = FO ∧ rdS F (fun i => cl k (z.toNatClampNeg + 2 * i)) (fun i => cl k (z.toNatClampNeg + 2 * i + 1)) W 0 b t = (none, bi, ti) := by
                      rcases hs with ⟨g1, g2, g3, g4⟩ | ⟨g1, g2, g3, g4, g5⟩
                      · first
                        | exact absurd g1 hr1
                        | (have hWe : W = m := by omega
                           exact ⟨by rw [g3, him, hWe], g1.trans (heq hWe).symm, by rw [g4, him, hWe, Nat.sub_self]; rfl⟩)
                      · exact ⟨g4, g2, g5⟩
                    obtain ⟨f1, f2, f3⟩ := hfin
                    refine ⟨Or.inl ⟨k, l, m, ⟨hk, hl, by omega, hxk, hyl, hum⟩, ?_⟩, fun z9 h9 h8 => by rw [wr_sn h8]; exact hFr.1 z9 h9, fun i9 h9 => by rw [wr_n (by omega)]; exact hFr.2.1 i9 h9, fun z9 h1 h2 h3 => by rw [wr_n (by decide)]; exact hFr.2.2.1 z9 h1 h2 h3⟩
                    rw [hWF]
                    refine Or.inl ⟨bi, ti, f3, f1, ?_, by rw [wr_n (by decide)]; exact hT2, by rw [wr_ss, f2]⟩
                    exact ⟨hQ.1.cong (wr_sn (by decide)) (wr_sn (by decide)) (wr_sn (by decide)) (wr_n (by decide)) (wr_n (by decide)), hQ.2.1.cong (fun q _ => by rw [wr_n (by decide)]), by rw [wr_n (by decide)]; exact hQ.2.2⟩
                  · have hr0 : rr = 0 := (nI_eq (b := 0) (by omega) (by decide)).mp c71
                    obtain ⟨-, hiW, h6, hrd⟩ := hs.resolve_right (fun h9 => h9.1 hr0)
                    refine g_iconst C (pc := 74) 0 dX12_read_74 (by decide) ?_
                    refine g_istore C (pc := 75) dX12_read_75 (by decide) (fun v75 => [(8, .int v75), (7, .int (nI i)), (6, .int wz6), (5, .int (nI rr)), (0, .ref 97), (1, .int x), (2, .int y9), (3, .int z), (4, .int u)]) (fun _ => rfl) (fun v75 ev75 => ?_)
                    have L77 : ∀ (k9 : Nat) (c r9 : Nat) (wz8 : Int32) (wz5 : Int32) (hw8 : wz8 = nI c) (hc2 : c ≤ 2) (hw59 : wz5 = nI r9) (hr94 : r9 < 4) (hcr : (c = 0 ∧ r9 = 0) ∨ (c = 1 ∧ r9 = rF (ln k) (sz k) l (z.toInt + 2 * (i : Int))) ∨ (c = 2 ∧ rF (ln k) (sz k) l (z.toInt + 2 * (i : Int)) = 0 ∧ r9 = rF (ln k) (sz k) l (z.toInt + 2 * (i : Int) + 1))), 2 - c < k9 → G κ n ρ 77 [(8, .int wz8), (7, .int (nI i)), (6, .int wz6), (5, .int wz5), (0, .ref 97), (1, .int x), (2, .int y9), (3, .int z), (4, .int u)] [] J2 := by
                      intro k9
                      induction k9 with
                      | zero => intro c r9 wz8 wz5 hw8 hc2 hw59 hr94 hcr hm77; exact absurd hm77 (Nat.not_lt_zero _)
                      | succ k9 ih77 =>
                        intro c r9 wz8 wz5 hw8 hc2 hw59 hr94 hcr hm77
                        subst hw8 hw59
                        refine g_iload C (pc := 77) dX12_read_77 0 rfl ?_
                        refine g_iconst C (pc := 79) 2 dX12_read_79 (by decide) ?_
                        refine g_icmp_ge C (pc := 80) 164 dX12_read_80 (by decide) (fun c80 => ?_) (fun c80 => ?_)
                        · replace c80 := (nI_leI (a := 2) (b := c) (by decide) (by omega)).mp c80
                          have hex : (rF (ln k) (sz k) l (z.toInt + 2 * (i : Int)) = 0 ∧ r9 = rF (ln k) (sz k) l (z.toInt + 2 * (i : Int) + 1)) ∨ (¬ rF (ln k) (sz k) l (z.toInt + 2 * (i : Int)) = 0 ∧ r9 = rF (ln k) (sz k) l (z.toInt + 2 * (i : Int))) := by
                            rcases hcr with h9 | h9 | h9
                            · omega
                            · omega
                            · exact Or.inl h9.2
                          refine g_iload C (pc := 164) dX12_read_164 3 rfl ?_
                          refine g_if_ne C (pc := 166) 263 dX12_read_166 (by decide) (fun c166 => ?_) (fun c166 => ?_)
                          · have hr9 : ¬ r9 = 0 := fun h9 => c166 (by rw [h9]; rfl)
                            have hiW2 : i = W := by
                              rcases Nat.lt_or_ge i W with h9 | h9
                              · obtain ⟨g1, g2, -⟩ := hgo i h9
                                rcases hex with ⟨-, h8⟩ | ⟨h8, -⟩
                                · exact absurd (h8.trans g2) hr9
                                · exact absurd g1 h8
                              · omega
                            have hrf : r9 = FO := by
                              obtain ⟨h8, h9⟩ := hst (by omega)
                              rw [← hiW2] at h9
                              rcases hex with ⟨e1, e2⟩ | ⟨e1, e2⟩
                              · rcases h9 with h9 | ⟨-, h9⟩
                                · exact absurd (h9.symm.trans e1) h8
                                · exact e2.trans h9
                              · rcases h9 with h9 | ⟨h9, -⟩
                                · exact e2.trans h9
                                · exact absurd h9 e1
                            obtain ⟨rn, bn, tn, hr5, hrn4, hs2, hQ2, hT3, hti2, hB3, hL3, hP3, hFr2⟩ : ∃ rn bn tn, nI r9 = nI rn ∧ rn < 4 ∧ ((rn = 0 ∧ i + 1 ≤ W ∧ wz6 = nI (i + 1) ∧ rdS F (fun i => cl k (z.toNatClampNeg + 2 * i)) (fun i => cl k (z.toNatClampNeg + 2 * i + 1)) W 0 b t = rdS F (fun i => cl k (z.toNatClampNeg + 2 * i)) (fun i => cl k (z.toNatClampNeg + 2 * i + 1)) (W - (i + 1)) (i + 1) bn tn) ∨ (¬ rn = 0 ∧ rn = FO ∧ W < m ∧ wz6 = nI W ∧ rdS F (fun i => cl k (z.toNatClampNeg + 2 * i)) (fun i => cl k (z.toNatClampNeg + 2 * i + 1)) W 0 b t = (none, bn, tn))) ∧ QN J2 F bn ∧ J2 98 19 = nI tn ∧ tn ≤ 999 ∧ BW F bn ∧ L1 F bn ∧ PW F bn ∧ FrD I J2 := ⟨r9, bi, ti, rfl, hr94, Or.inr ⟨hr9, hrf, by omega, by rw [h6, hiW2], by rw [hrd, hiW2, Nat.sub_self]; rfl⟩, hQ, hT2, hti, hB2, hL2, hP2, hFr⟩
                            refine g_iinc C (pc := 263) (1) dX12_read_263 1 rfl (by decide) (by decide) (fun v263 => [(7, .int v263), (8, .int (nI c)), (6, .int wz6), (5, .int (nI r9)), (0, .ref 97), (1, .int x), (2, .int y9), (3, .int z), (4, .int u)]) (fun _ => rfl) (fun v263 ev263 => ?_)
                            refine g_goto C (pc := 266) 62 dX12_read_266 (by decide) ?_
                            refine g_lv C [0, 2, 3, 4, 5, 6, 7, 8] rfl (ih62 (i + 1) rn bn tn _ _ _ _ ?_ ?_ ?_ ?_ ?_ ?_ ?_ ?_ ?_ ?_ ?_ ?_ (by omega))
                            · subst ev263; exact nI_1 _
                            · omega
                            · exact hr5
                            · exact hrn4
                            · first | exact hs2 | (rw [ev260]; exact hs2)
                            · exact hQ2
                            · exact hT3
                            · exact hti2
                            · exact hB3
                            · exact hL3
                            · exact hP3
                            · exact hFr2
                          · have hr9 : r9 = 0 := (nI_eq (b := 0) (by omega) (by decide)).mp c166
                            have hiW2 : i < W := by
                              rcases Nat.lt_or_ge i W with h9 | h9
                              · exact h9
                              · have hiw : i = W := by omega
                                obtain ⟨h8, h7⟩ := hst (by omega)
                                rw [← hiw] at h7
                                rcases hex with ⟨e1, e2⟩ | ⟨e1, e2⟩
                                · rcases h7 with h7 | ⟨-, h7⟩
                                  · exact absurd (h7.symm.trans e1) h8
                                  · exact absurd (h7.symm.trans (e2.symm.trans hr9)) h8
                                · exact absurd (e2.symm.trans hr9) e1
                            obtain ⟨-, -, hzf, hzs⟩ := hgo i hiW2
                            have hz9 : z = nI z.toNatClampNeg := i32_nat hzf (by omega)
                            obtain ⟨f, hfd⟩ : ∃ f, f = z.toNatClampNeg := ⟨_, rfl⟩
                            refine g_bipush C (pc := 169) 40 dX12_read_169 (by decide) ?_
                            refine g_iload_n C (pc := 171) dX12_read_171 5 rfl ?_
                            refine g_imul C (pc := 172) dX12_read_172 ?_
                            refine g_iload_n C (pc := 173) dX12_read_173 7 rfl ?_
                            refine g_iadd C (pc := 174) dX12_read_174 ?_
                            refine g_iconst C (pc := 175) 2 dX12_read_175 (by decide) ?_
                            refine g_iload C (pc := 176) dX12_read_176 1 rfl ?_
                            refine g_imul C (pc := 178) dX12_read_178 ?_
                            refine g_iadd C (pc := 179) dX12_read_179 ?_
                            refine g_istore C (pc := 180) dX12_read_180 (by decide) (fun v180 => [(8, .int v180), (7, .int (nI i)), (6, .int wz6), (5, .int (nI r9)), (0, .ref 97), (1, .int x), (2, .int y9), (3, .int z), (4, .int u)]) (fun _ => rfl) (fun v180 ev180 => ?_)
                            have h180 : v180 = nI (40 * k + (f + 2 * i)) := by
                              rw [ev180, hxk, hz9, ← hfd, show (40 : Int32) = nI 40 from rfl, show (2 : Int32) = nI 2 from rfl, pk_mul, pk_mul, nI_add, nI_add, Nat.add_assoc]
                            have hcl0 : J2 117 v180.toNatClampNeg = (fun i => cl k (z.toNatClampNeg + 2 * i)) i := by
                              rw [h180, nI_clamp (by omega), h117, s5 (f + 2 * i) (by omega), hfd]
                            have hcl1 : J2 117 (v180 + 1).toNatClampNeg = (fun i => cl k (z.toNatClampNeg + 2 * i + 1)) i := by
                              rw [h180, nI_1, nI_clamp (by omega), h117, show 40 * k + (f + 2 * i) + 1 = 40 * k + (f + 2 * i + 1) by omega, s5 (f + 2 * i + 1) (by omega), hfd]
                            refine g_aload_n C (pc := 182) dX12_read_182 4 rfl ?_
                            refine g_getR C (pc := 183) fl_RX12_7 (by decide) (by first | assumption | rfl | omega) (by first | assumption | rfl | omega) (by first | assumption | rfl | omega) dX12_read_183 ?_
                            refine g_bipush C (pc := 186) 19 dX12_read_186 (by decide) ?_
                            refine g_iald C (pc := 188) (by first | assumption | rfl | omega) (by first | assumption | rfl | omega) (vp_in_nI (n := 19) (by decide) (by decide)) dX12_read_188 ?_
                            rw [show J2 98 (19 : Int32).toNatClampNeg = nI ti from hT2]
                            refine g_istore C (pc := 189) dX12_read_189 (by decide) (fun v189 => [(9, .int v189), (8, .int v180), (7, .int (nI i)), (6, .int wz6), (5, .int (nI r9)), (0, .ref 97), (1, .int x), (2, .int y9), (3, .int z), (4, .int u)]) (fun _ => rfl) (fun v189 ev189 => ?_)
                            refine g_aload_n C (pc := 191) dX12_read_191 5 rfl ?_
                            refine g_aload_n C (pc := 192) dX12_read_192 5 rfl ?_
                            refine g_getR C (pc := 193) fl_RX12_68 (by decide) (by first | assumption | rfl | omega) (by first | assumption | rfl | omega) (by first | assumption | rfl | omega) dX12_read_193 ?_
                            refine g_iload C (pc := 196) dX12_read_196 1 rfl ?_
                            refine g_iald C (pc := 198) (by first | assumption | rfl | omega) (by first | assumption | rfl | omega) (by rw [h180]; exact vp_in_nI (by omega) (by decide)) dX12_read_198 ?_
                            rw [hcl0]
                            refine g_aload_n C (pc := 199) dX12_read_199 5 rfl ?_
                            refine g_getR C (pc := 200) fl_RX12_68 (by decide) (by first | assumption | rfl | omega) (by first | assumption | rfl | omega) (by first | assumption | rfl | omega) dX12_read_200 ?_
                            refine g_iload C (pc := 203) dX12_read_203 1 rfl ?_
                            refine g_iconst C (pc := 205) 1 dX12_read_205 (by decide) ?_
                            refine g_iadd C (pc := 206) dX12_read_206 ?_
                            refine g_iald C (pc := 207) (by first | assumption | rfl | omega) (by first | assumption | rfl | omega) (by rw [h180, nI_1]; exact vp_in_nI (by omega) (by decide)) dX12_read_207 ?_
                            rw [hcl1]
                            refine g_callVI C (pc := 208) mf_X12_go lk_RX12_360 (c_X12_go n ρ J2 F bi ti ((fun i => cl k (z.toNatClampNeg + 2 * i)) i) ((fun i => cl k (z.toNatClampNeg + 2 * i + 1)) i) hn9 hms hQ hrw hB2 hL2 hP2 hT2 hti) (by decide) (Nat.le_refl _) rfl (by first | assumption | rfl | omega) rfl (by first | assumption | rfl | omega) (Nat.le_of_ble_eq_true rfl) dX12_read_208 (fun v208 I208 h208 => ?_)
                            obtain h208 := h208
                            have hgq := goM_of hn6 h208
                            refine g_pop C (pc := 211) dX12_read_211 rfl ?_
                            refine g_aload_n C (pc := 212) dX12_read_212 5 rfl ?_
                            refine g_getR C (pc := 213) fl_RX12_7 (by decide) (by first | assumption | rfl | omega) (by first | assumption | rfl | omega) (by first | assumption | rfl | omega) dX12_read_213 ?_
                            refine g_bipush C (pc := 216) 19 dX12_read_216 (by decide) ?_
                            refine g_iald C (pc := 218) (by first | assumption | rfl | omega) (by first | assumption | rfl | omega) (vp_in_nI (n := 19) (by decide) (by decide)) dX12_read_218 ?_
                            refine g_iload C (pc := 219) dX12_read_219 0 rfl ?_
                            refine g_icmp_ne C (pc := 221) 260 dX12_read_221 (by decide) (fun c221 => ?_) (fun c221 => ?_)
                            · obtain ⟨b9, t9, hg1, hg2, hg3, hg4⟩ : ∃ b9 t9, goF F bi ti ((fun i => cl k (z.toNatClampNeg + 2 * i)) i) ((fun i => cl k (z.toNatClampNeg + 2 * i + 1)) i) = some (b9, t9) ∧ QN I208 F b9 ∧ I208 98 19 = nI t9 ∧ KpS J2 I208 := by
                                rcases hgq with ⟨g1, g2⟩ | h9
                                · exact absurd (show I208 98 19 = v189 by rw [g2.2 98 (by decide), ev189]; exact hT2) c221
                                · exact h9
                              obtain ⟨hw9, hwt9⟩ := goF_W hB2 hg1
                              obtain ⟨hwl9, hwp9⟩ := goF_L hrw hL2 hP2 hg1
                              obtain ⟨rn, bn, tn, hr5, hrn4, hs2, hQ2, hT3, hti2, hB3, hL3, hP3, hFr2⟩ : ∃ rn bn tn, nI r9 = nI rn ∧ rn < 4 ∧ ((rn = 0 ∧ i + 1 ≤ W ∧ (wz6 + 1) = nI (i + 1) ∧ rdS F (fun i => cl k (z.toNatClampNeg + 2 * i)) (fun i => cl k (z.toNatClampNeg + 2 * i + 1)) W 0 b t = rdS F (fun i => cl k (z.toNatClampNeg + 2 * i)) (fun i => cl k (z.toNatClampNeg + 2 * i + 1)) (W - (i + 1)) (i + 1) bn tn) ∨ (¬ rn = 0 ∧ rn = FO ∧ W < m ∧ (wz6 + 1) = nI W ∧ rdS F (fun i => cl k (z.toNatClampNeg + 2 * i)) (fun i => cl k (z.toNatClampNeg + 2 * i + 1)) W 0 b t = (none, bn, tn))) ∧ QN I208 F bn ∧ I208 98 19 = nI tn ∧ tn ≤ 999 ∧ BW F bn ∧ L1 F bn ∧ PW F bn ∧ FrD I I208 := ⟨0, b9, t9, by rw [hr9], by decide, Or.inl ⟨rfl, by omega, by rw [h6]; exact nI_1 _, by rw [hrd, show W - i = (W - (i + 1)) + 1 by omega]; exact rdS_step hg1⟩, hg2, hg3, hwt9, hw9, hwl9, hwp9, hFr.go hg4⟩
                              refine g_iinc C (pc := 260) (1) dX12_read_260 3 rfl (by decide) (by decide) (fun v260 => [(6, .int v260), (9, .int v189), (8, .int v180), (7, .int (nI i)), (5, .int (nI r9)), (0, .ref 97), (1, .int x), (2, .int y9), (3, .int z), (4, .int u)]) (fun _ => rfl) (fun v260 ev260 => ?_)
                              refine g_iinc C (pc := 263) (1) dX12_read_263 3 rfl (by decide) (by decide) (fun v263 => [(7, .int v263), (6, .int v260), (9, .int v189), (8, .int v180), (5, .int (nI r9)), (0, .ref 97), (1, .int x), (2, .int y9), (3, .int z), (4, .int u)]) (fun _ => rfl) (fun v263 ev263 => ?_)
                              refine g_goto C (pc := 266) 62 dX12_read_266 (by decide) ?_
                              refine g_lv C [0, 1, 4, 5, 6, 7, 8, 9] rfl (ih62 (i + 1) rn bn tn _ _ _ _ ?_ ?_ ?_ ?_ ?_ ?_ ?_ ?_ ?_ ?_ ?_ ?_ (by omega))
                              · subst ev263; exact nI_1 _
                              · omega
                              · exact hr5
                              · exact hrn4
                              · first | exact hs2 | (rw [ev260]; exact hs2)
                              · exact hQ2
                              · exact hT3
                              · exact hti2
                              · exact hB3
                              · exact hL3
                              · exact hP3
                              · exact hFr2
                            · obtain ⟨hg1, hg2⟩ : goF F bi ti ((fun i => cl k (z.toNatClampNeg + 2 * i)) i) ((fun i => cl k (z.toNatClampNeg + 2 * i + 1)) i) = none ∧ Kp J2 I208 := by
                                rcases hgq with h9 | ⟨b9, t9, g1, g2, g3, g4⟩
                                · exact h9
                                · exfalso
                                  obtain ⟨q1, q2, q3, -⟩ := goF_some g1
                                  have h9 : I208 98 19 = v189 := c221
                                  rw [g3, ev189] at h9
                                  have := (nI_eq (by omega) (by omega)).mp h9
                                  omega
                              have hFr3 := hFr.kp hg2
                              refine g_iconst C (pc := 224) 0 dX12_read_224 (by decide) ?_
                              refine g_istore C (pc := 225) dX12_read_225 (by decide) (fun v225 => [(10, .int v225), (9, .int v189), (8, .int v180), (7, .int (nI i)), (6, .int wz6), (5, .int (nI r9)), (0, .ref 97), (1, .int x), (2, .int y9), (3, .int z), (4, .int u)]) (fun _ => rfl) (fun v225 ev225 => ?_)
                              have L227 : ∀ (k9 : Nat) (j : Nat) (wz10 : Int32) (J3 : Mem) (hw10 : wz10 = nI j) (hj3 : j ≤ 20) (hA3 : ∀ q, q < j → J3 98 q = I 98 q) (hB9 : ∀ q, j ≤ q → J3 98 q = I208 98 q) (hF3 : ∀ i, i ≠ 98 → J3 i = I208 i), 20 - j < k9 → G κ n ρ 227 [(10, .int wz10), (7, .int (nI i)), (0, .ref 97)] [] J3 := by
                                intro k9
                                induction k9 with
                                | zero => intro j wz10 J3 hw10 hj3 hA3 hB9 hF3 hm227; exact absurd hm227 (Nat.not_lt_zero _)
                                | succ k9 ih227 =>
                                  intro j wz10 J3 hw10 hj3 hA3 hB9 hF3 hm227
                                  subst hw10
                                  refine g_iload C (pc := 227) dX12_read_227 0 rfl ?_
                                  refine g_bipush C (pc := 229) 20 dX12_read_229 (by decide) ?_
                                  refine g_icmp_ge C (pc := 231) 254 dX12_read_231 (by decide) (fun c231 => ?_) (fun c231 => ?_)
                                  · replace c231 := (nI_leI (a := 20) (b := j) (by decide) (by omega)).mp c231
                                    refine g_bipush C (pc := 254) (-20) dX12_read_254 (by decide) ?_
                                    refine g_iload C (pc := 256) dX12_read_256 1 rfl ?_
                                    refine g_isub C (pc := 258) dX12_read_258 ?_
                                    refine g_iret C hR (pc := 259) rfl dX12_read_259 ?_
                                    refine ⟨rfl, _, rfl, ?_⟩
                                    have hj20 : j = 20 := by omega
                                    subst hj20
                                    have h98 : ∀ q, J3 98 q = if q < 20 then I 98 q else I208 98 q := fun q => by
                                      by_cases h9 : q < 20
                                      · rw [if_pos h9]; exact hA3 q h9
                                      · rw [if_neg h9]; exact hB9 q (by omega)
                                    have h98b : ∀ q, q < 20 → J3 98 q = I 98 q := fun q hq => hA3 q hq
                                    have hS : ∀ z9, 12 ≤ z9 → z9 ≠ 18 → z9 ≠ 19 → J3 98 z9 = I 98 z9 := fun z9 h1 h2 h3 => by
                                      rw [h98]; split
                                      · rfl
                                      · exact hFr3.2.2.1 z9 h1 h2 h3
                                    have h97 : ∀ z9, z9 < 25 ∨ 37 < z9 → J3 97 z9 = I 97 z9 := fun z9 h9 => by rw [hF3 97 (by decide)]; exact hFr3.1 z9 h9
                                    have hIs : ∀ i9, i9 < 97 ∨ (98 < i9 ∧ i9 < 106) ∨ (114 < i9 ∧ i9 ≠ 118) → J3 i9 = I i9 := fun i9 h9 => by rw [hF3 i9 (by omega)]; exact hFr3.2.1 i9 h9
                                    refine ⟨Or.inl ⟨k, l, m, ⟨hk, hl, by omega, hxk, hyl, hum⟩, ?_⟩, fun z9 h9 _ => h97 z9 h9, hIs, hS⟩
                                    rw [hWF]
                                    refine Or.inr ⟨i, bi, ti, ?_, by omega, rfl, ?_, h98b 19 (by decide) ▸ htu, h97 41 (by decide)⟩
                                    · show rdS F (fun i => cl k (z.toNatClampNeg + 2 * i)) (fun i => cl k (z.toNatClampNeg + 2 * i + 1)) W 0 b t = _
                                      rw [hrd, show W - i = (W - (i + 1)) + 1 by omega]; exact rdS_stop hg1
                                    · exact ⟨hqf.cong (h97 2 (by decide)) (h97 3 (by decide)) (h97 4 (by decide)) (hIs 100 (by decide)) (hIs 101 (by decide)), hqe.cong (fun q hq => h98b q (by omega)), fun p hp => by rw [h98b p (by omega), h98b (6 + p) (by omega)]; exact hqs p hp, (h98b 18 (by decide)).trans hqt⟩
                                  · replace c231 := (nI_ltI (a := j) (b := 20) (by omega) (by decide)).mp c231
                                    refine g_aload_n C (pc := 234) dX12_read_234 2 rfl ?_
                                    refine g_getR C (pc := 235) fl_RX12_7 (by decide) (by first | assumption | rfl | omega) (by first | assumption | rfl | omega) (by first | assumption | rfl | omega) dX12_read_235 ?_
                                    refine g_iload C (pc := 238) dX12_read_238 0 rfl ?_
                                    refine g_aload_n C (pc := 240) dX12_read_240 2 rfl ?_
                                    refine g_getR C (pc := 241) fl_RX12_71 (by decide) (by first | assumption | rfl | omega) (by first | assumption | rfl | omega) (by first | assumption | rfl | omega) dX12_read_241 ?_
                                    refine g_iload C (pc := 244) dX12_read_244 0 rfl ?_
                                    refine g_iald C (pc := 246) (by first | assumption | rfl | omega) (by first | assumption | rfl | omega) (vp_in_nI (by omega) (by decide)) dX12_read_246 ?_
                                    refine g_iast C (pc := 247) (by first | assumption | rfl | omega) (by first | assumption | rfl | omega) hn9 (vp_in_nI (by omega) (by decide)) dX12_read_247 ?_
                                    refine g_iinc C (pc := 248) (1) dX12_read_248 0 rfl (by decide) (by decide) (fun v248 => [(10, .int v248), (7, .int (nI i)), (0, .ref 97)]) (fun _ => rfl) (fun v248 ev248 => ?_)
                                    refine g_goto C (pc := 251) 227 dX12_read_251 (by decide) ?_
                                    refine g_lv C [0, 1, 2] rfl (ih227 (j + 1) _ _ ?_ ?_ ?_ ?_ ?_ (by omega))
                                    · subst ev248; exact nI_1 _
                                    · omega
                                    · intro q hq
                                      rw [nI_clamp (by omega)]
                                      rcases Nat.lt_or_ge q j with h1 | h1
                                      · rw [wr_sn (by omega)]; exact hA3 q h1
                                      · have : q = j := by omega
                                        subst this
                                        rw [wr_ss, hF3 118 (by decide)]; exact hFr3.2.2.2 q (by omega)
                                    · intro q hq; rw [nI_clamp (by omega), wr_sn (by omega)]; exact hB9 q (by omega)
                                    · intro i h1; rw [wr_n h1]; exact hF3 i h1
                              refine g_lv C [0, 3, 6] rfl (L227 (21) 0 _ _ ?_ ?_ ?_ ?_ ?_ (by first | omega | exact Nat.lt_succ_self _))
                              · subst ev225; rfl
                              · omega
                              · intro q hq; omega
                              · intro q _; rfl
                              · intro i _; rfl
                        · replace c80 := (nI_ltI (a := c) (b := 2) (by omega) (by decide)).mp c80
                          refine g_iload C (pc := 83) dX12_read_83 3 rfl ?_
                          refine g_if_ne C (pc := 85) 164 dX12_read_85 (by decide) (fun c85 => ?_) (fun c85 => ?_)
                          · have hr1 : ¬ r9 = 0 := fun h9 => c85 (by rw [h9]; rfl)
                            have hex : (rF (ln k) (sz k) l (z.toInt + 2 * (i : Int)) = 0 ∧ r9 = rF (ln k) (sz k) l (z.toInt + 2 * (i : Int) + 1)) ∨ (¬ rF (ln k) (sz k) l (z.toInt + 2 * (i : Int)) = 0 ∧ r9 = rF (ln k) (sz k) l (z.toInt + 2 * (i : Int))) := by
                              rcases hcr with h9 | h9 | h9
                              · exact absurd h9.2 hr1
                              · exact Or.inr ⟨fun h8 => hr1 (h9.2.trans h8), h9.2⟩
                              · omega
                            refine g_iload C (pc := 164) dX12_read_164 3 rfl ?_
                            refine g_if_ne C (pc := 166) 263 dX12_read_166 (by decide) (fun c166 => ?_) (fun c166 => ?_)
                            · have hr9 : ¬ r9 = 0 := fun h9 => c166 (by rw [h9]; rfl)
                              have hiW2 : i = W := by
                                rcases Nat.lt_or_ge i W with h9 | h9
                                · obtain ⟨g1, g2, -⟩ := hgo i h9
                                  rcases hex with ⟨-, h8⟩ | ⟨h8, -⟩
                                  · exact absurd (h8.trans g2) hr9
                                  · exact absurd g1 h8
                                · omega
                              have hrf : r9 = FO := by
                                obtain ⟨h8, h9⟩ := hst (by omega)
                                rw [← hiW2] at h9
                                rcases hex with ⟨e1, e2⟩ | ⟨e1, e2⟩
                                · rcases h9 with h9 | ⟨-, h9⟩
                                  · exact absurd (h9.symm.trans e1) h8
                                  · exact e2.trans h9
                                · rcases h9 with h9 | ⟨h9, -⟩
                                  · exact e2.trans h9
                                  · exact absurd h9 e1
                              obtain ⟨rn, bn, tn, hr5, hrn4, hs2, hQ2, hT3, hti2, hB3, hL3, hP3, hFr2⟩ : ∃ rn bn tn, nI r9 = nI rn ∧ rn < 4 ∧ ((rn = 0 ∧ i + 1 ≤ W ∧ wz6 = nI (i + 1) ∧ rdS F (fun i => cl k (z.toNatClampNeg + 2 * i)) (fun i => cl k (z.toNatClampNeg + 2 * i + 1)) W 0 b t = rdS F (fun i => cl k (z.toNatClampNeg + 2 * i)) (fun i => cl k (z.toNatClampNeg + 2 * i + 1)) (W - (i + 1)) (i + 1) bn tn) ∨ (¬ rn = 0 ∧ rn = FO ∧ W < m ∧ wz6 = nI W ∧ rdS F (fun i => cl k (z.toNatClampNeg + 2 * i)) (fun i => cl k (z.toNatClampNeg + 2 * i + 1)) W 0 b t = (none, bn, tn))) ∧ QN J2 F bn ∧ J2 98 19 = nI tn ∧ tn ≤ 999 ∧ BW F bn ∧ L1 F bn ∧ PW F bn ∧ FrD I J2 := ⟨r9, bi, ti, rfl, hr94, Or.inr ⟨hr9, hrf, by omega, by rw [h6, hiW2], by rw [hrd, hiW2, Nat.sub_self]; rfl⟩, hQ, hT2, hti, hB2, hL2, hP2, hFr⟩
                              refine g_iinc C (pc := 263) (1) dX12_read_263 1 rfl (by decide) (by decide) (fun v263 => [(7, .int v263), (8, .int (nI c)), (6, .int wz6), (5, .int (nI r9)), (0, .ref 97), (1, .int x), (2, .int y9), (3, .int z), (4, .int u)]) (fun _ => rfl) (fun v263 ev263 => ?_)
                              refine g_goto C (pc := 266) 62 dX12_read_266 (by decide) ?_
                              refine g_lv C [0, 2, 3, 4, 5, 6, 7, 8] rfl (ih62 (i + 1) rn bn tn _ _ _ _ ?_ ?_ ?_ ?_ ?_ ?_ ?_ ?_ ?_ ?_ ?_ ?_ (by omega))
                              · subst ev263; exact nI_1 _
                              · omega
                              · exact hr5
                              · exact hrn4
                              · first | exact hs2 | (rw [ev260]; exact hs2)
                              · exact hQ2
                              · exact hT3
                              · exact hti2
                              · exact hB3
                              · exact hL3
                              · exact hP3
                              · exact hFr2
                            · have hr9 : r9 = 0 := (nI_eq (b := 0) (by omega) (by decide)).mp c166
                              have hiW2 : i < W := by
                                rcases Nat.lt_or_ge i W with h9 | h9
                                · exact h9
                                · have hiw : i = W := by omega
                                  obtain ⟨h8, h7⟩ := hst (by omega)
                                  rw [← hiw] at h7
                                  rcases hex with ⟨e1, e2⟩ | ⟨e1, e2⟩
                                  · rcases h7 with h7 | ⟨-, h7⟩
                                    · exact absurd (h7.symm.trans e1) h8
                                    · exact absurd (h7.symm.trans (e2.symm.trans hr9)) h8
                                  · exact absurd (e2.symm.trans hr9) e1
                              obtain ⟨-, -, hzf, hzs⟩ := hgo i hiW2
                              have hz9 : z = nI z.toNatClampNeg := i32_nat hzf (by omega)
                              obtain ⟨f, hfd⟩ : ∃ f, f = z.toNatClampNeg := ⟨_, rfl⟩
                              refine g_bipush C (pc := 169) 40 dX12_read_169 (by decide) ?_
                              refine g_iload_n C (pc := 171) dX12_read_171 5 rfl ?_
                              refine g_imul C (pc := 172) dX12_read_172 ?_
                              refine g_iload_n C (pc := 173) dX12_read_173 7 rfl ?_
                              refine g_iadd C (pc := 174) dX12_read_174 ?_
                              refine g_iconst C (pc := 175) 2 dX12_read_175 (by decide) ?_
                              refine g_iload C (pc := 176) dX12_read_176 1 rfl ?_
                              refine g_imul C (pc := 178) dX12_read_178 ?_
                              refine g_iadd C (pc := 179) dX12_read_179 ?_
                              refine g_istore C (pc := 180) dX12_read_180 (by decide) (fun v180 => [(8, .int v180), (7, .int (nI i)), (6, .int wz6), (5, .int (nI r9)), (0, .ref 97), (1, .int x), (2, .int y9), (3, .int z), (4, .int u)]) (fun _ => rfl) (fun v180 ev180 => ?_)
                              have h180 : v180 = nI (40 * k + (f + 2 * i)) := by
                                rw [ev180, hxk, hz9, ← hfd, show (40 : Int32) = nI 40 from rfl, show (2 : Int32) = nI 2 from rfl, pk_mul, pk_mul, nI_add, nI_add, Nat.add_assoc]
                              have hcl0 : J2 117 v180.toNatClampNeg = (fun i => cl k (z.toNatClampNeg + 2 * i)) i := by
                                rw [h180, nI_clamp (by omega), h117, s5 (f + 2 * i) (by omega), hfd]
                              have hcl1 : J2 117 (v180 + 1).toNatClampNeg = (fun i => cl k (z.toNatClampNeg + 2 * i + 1)) i := by
                                rw [h180, nI_1, nI_clamp (by omega), h117, show 40 * k + (f + 2 * i) + 1 = 40 * k + (f + 2 * i + 1) by omega, s5 (f + 2 * i + 1) (by omega), hfd]
                              refine g_aload_n C (pc := 182) dX12_read_182 4 rfl ?_
                              refine g_getR C (pc := 183) fl_RX12_7 (by decide) (by first | assumption | rfl | omega) (by first | assumption | rfl | omega) (by first | assumption | rfl | omega) dX12_read_183 ?_
                              refine g_bipush C (pc := 186) 19 dX12_read_186 (by decide) ?_
                              refine g_iald C (pc := 188) (by first | assumption | rfl | omega) (by first | assumption | rfl | omega) (vp_in_nI (n := 19) (by decide) (by decide)) dX12_read_188 ?_
                              rw [show J2 98 (19 : Int32).toNatClampNeg = nI ti from hT2]
                              refine g_istore C (pc := 189) dX12_read_189 (by decide) (fun v189 => [(9, .int v189), (8, .int v180), (7, .int (nI i)), (6, .int wz6), (5, .int (nI r9)), (0, .ref 97), (1, .int x), (2, .int y9), (3, .int z), (4, .int u)]) (fun _ => rfl) (fun v189 ev189 => ?_)
                              refine g_aload_n C (pc := 191) dX12_read_191 5 rfl ?_
                              refine g_aload_n C (pc := 192) dX12_read_192 5 rfl ?_
                              refine g_getR C (pc := 193) fl_RX12_68 (by decide) (by first | assumption | rfl | omega) (by first | assumption | rfl | omega) (by first | assumption | rfl | omega) dX12_read_193 ?_
                              refine g_iload C (pc := 196) dX12_read_196 1 rfl ?_
                              refine g_iald C (pc := 198) (by first | assumption | rfl | omega) (by first | assumption | rfl | omega) (by rw [h180]; exact vp_in_nI (by omega) (by decide)) dX12_read_198 ?_
                              rw [hcl0]
                              refine g_aload_n C (pc := 199) dX12_read_199 5 rfl ?_
                              refine g_getR C (pc := 200) fl_RX12_68 (by decide) (by first | assumption | rfl | omega) (by first | assumption | rfl | omega) (by first | assumption | rfl | omega) dX12_read_200 ?_
                              refine g_iload C (pc := 203) dX12_read_203 1 rfl ?_
                              refine g_iconst C (pc := 205) 1 dX12_read_205 (by decide) ?_
                              refine g_iadd C (pc := 206) dX12_read_206 ?_
                              refine g_iald C (pc := 207) (by first | assumption | rfl | omega) (by first | assumption | rfl | omega) (by rw [h180, nI_1]; exact vp_in_nI (by omega) (by decide)) dX12_read_207 ?_
                              rw [hcl1]
                              refine g_callVI C (pc := 208) mf_X12_go lk_RX12_360 (c_X12_go n ρ J2 F bi ti ((fun i => cl k (z.toNatClampNeg + 2 * i)) i) ((fun i => cl k (z.toNatClampNeg + 2 * i + 1)) i) hn9 hms hQ hrw hB2 hL2 hP2 hT2 hti) (by decide) (Nat.le_refl _) rfl (by first | assumption | rfl | omega) rfl (by first | assumption | rfl | omega) (Nat.le_of_ble_eq_true rfl) dX12_read_208 (fun v208 I208 h208 => ?_)
                              obtain h208 := h208
                              have hgq := goM_of hn6 h208
                              refine g_pop C (pc := 211) dX12_read_211 rfl ?_
                              refine g_aload_n C (pc := 212) dX12_read_212 5 rfl ?_
                              refine g_getR C (pc := 213) fl_RX12_7 (by decide) (by first | assumption | rfl | omega) (by first | assumption | rfl | omega) (by first | assumption | rfl | omega) dX12_read_213 ?_
                              refine g_bipush C (pc := 216) 19 dX12_read_216 (by decide) ?_
                              refine g_iald C (pc := 218) (by first | assumption | rfl | omega) (by first | assumption | rfl | omega) (vp_in_nI (n := 19) (by decide) (by decide)) dX12_read_218 ?_
                              refine g_iload C (pc := 219) dX12_read_219 0 rfl ?_
                              refine g_icmp_ne C (pc := 221) 260 dX12_read_221 (by decide) (fun c221 => ?_) (fun c221 => ?_)
                              · obtain ⟨b9, t9, hg1, hg2, hg3, hg4⟩ : ∃ b9 t9, goF F bi ti ((fun i => cl k (z.toNatClampNeg + 2 * i)) i) ((fun i => cl k (z.toNatClampNeg + 2 * i + 1)) i) = some (b9, t9) ∧ QN I208 F b9 ∧ I208 98 19 = nI t9 ∧ KpS J2 I208 := by
                                  rcases hgq with ⟨g1, g2⟩ | h9
                                  · exact absurd (show I208 98 19 = v189 by rw [g2.2 98 (by decide), ev189]; exact hT2) c221
                                  · exact h9
                                obtain ⟨hw9, hwt9⟩ := goF_W hB2 hg1
                                obtain ⟨hwl9, hwp9⟩ := goF_L hrw hL2 hP2 hg1
                                obtain ⟨rn, bn, tn, hr5, hrn4, hs2, hQ2, hT3, hti2, hB3, hL3, hP3, hFr2⟩ : ∃ rn bn tn, nI r9 = nI rn ∧ rn < 4 ∧ ((rn = 0 ∧ i + 1 ≤ W ∧ (wz6 + 1) = nI (i + 1) ∧ rdS F (fun i => cl k (z.toNatClampNeg + 2 * i)) (fun i => cl k (z.toNatClampNeg + 2 * i + 1)) W 0 b t = rdS F (fun i => cl k (z.toNatClampNeg + 2 * i)) (fun i => cl k (z.toNatClampNeg + 2 * i + 1)) (W - (i + 1)) (i + 1) bn tn) ∨ (¬ rn = 0 ∧ rn = FO ∧ W < m ∧ (wz6 + 1) = nI W ∧ rdS F (fun i => cl k (z.toNatClampNeg + 2 * i)) (fun i => cl k (z.toNatClampNeg + 2 * i + 1)) W 0 b t = (none, bn, tn))) ∧ QN I208 F bn ∧ I208 98 19 = nI tn ∧ tn ≤ 999 ∧ BW F bn ∧ L1 F bn ∧ PW F bn ∧ FrD I I208 := ⟨0, b9, t9, by rw [hr9], by decide, Or.inl ⟨rfl, by omega, by rw [h6]; exact nI_1 _, by rw [hrd, show W - i = (W - (i + 1)) + 1 by omega]; exact rdS_step hg1⟩, hg2, hg3, hwt9, hw9, hwl9, hwp9, hFr.go hg4⟩
                                refine g_iinc C (pc := 260) (1) dX12_read_260 3 rfl (by decide) (by decide) (fun v260 => [(6, .int v260), (9, .int v189), (8, .int v180), (7, .int (nI i)), (5, .int (nI r9)), (0, .ref 97), (1, .int x), (2, .int y9), (3, .int z), (4, .int u)]) (fun _ => rfl) (fun v260 ev260 => ?_)
                                refine g_iinc C (pc := 263) (1) dX12_read_263 3 rfl (by decide) (by decide) (fun v263 => [(7, .int v263), (6, .int v260), (9, .int v189), (8, .int v180), (5, .int (nI r9)), (0, .ref 97), (1, .int x), (2, .int y9), (3, .int z), (4, .int u)]) (fun _ => rfl) (fun v263 ev263 => ?_)
                                refine g_goto C (pc := 266) 62 dX12_read_266 (by decide) ?_
                                refine g_lv C [0, 1, 4, 5, 6, 7, 8, 9] rfl (ih62 (i + 1) rn bn tn _ _ _ _ ?_ ?_ ?_ ?_ ?_ ?_ ?_ ?_ ?_ ?_ ?_ ?_ (by omega))
                                · subst ev263; exact nI_1 _
                                · omega
                                · exact hr5
                                · exact hrn4
                                · first | exact hs2 | (rw [ev260]; exact hs2)
                                · exact hQ2
                                · exact hT3
                                · exact hti2
                                · exact hB3
                                · exact hL3
                                · exact hP3
                                · exact hFr2
                              · obtain ⟨hg1, hg2⟩ : goF F bi ti ((fun i => cl k (z.toNatClampNeg + 2 * i)) i) ((fun i => cl k (z.toNatClampNeg + 2 * i + 1)) i) = none ∧ Kp J2 I208 := by
                                  rcases hgq with h9 | ⟨b9, t9, g1, g2, g3, g4⟩
                                  · exact h9
                                  · exfalso
                                    obtain ⟨q1, q2, q3, -⟩ := goF_some g1
                                    have h9 : I208 98 19 = v189 := c221
                                    rw [g3, ev189] at h9
                                    have := (nI_eq (by omega) (by omega)).mp h9
                                    omega
                                have hFr3 := hFr.kp hg2
                                refine g_iconst C (pc := 224) 0 dX12_read_224 (by decide) ?_
                                refine g_istore C (pc := 225) dX12_read_225 (by decide) (fun v225 => [(10, .int v225), (9, .int v189), (8, .int v180), (7, .int (nI i)), (6, .int wz6), (5, .int (nI r9)), (0, .ref 97), (1, .int x), (2, .int y9), (3, .int z), (4, .int u)]) (fun _ => rfl) (fun v225 ev225 => ?_)
                                have L227 : ∀ (k9 : Nat) (j : Nat) (wz10 : Int32) (J3 : Mem) (hw10 : wz10 = nI j) (hj3 : j ≤ 20) (hA3 : ∀ q, q < j → J3 98 q = I 98 q) (hB9 : ∀ q, j ≤ q → J3 98 q = I208 98 q) (hF3 : ∀ i, i ≠ 98 → J3 i = I208 i), 20 - j < k9 → G κ n ρ 227 [(10, .int wz10), (7, .int (nI i)), (0, .ref 97)] [] J3 := by
                                  intro k9
                                  induction k9 with
                                  | zero => intro j wz10 J3 hw10 hj3 hA3 hB9 hF3 hm227; exact absurd hm227 (Nat.not_lt_zero _)
                                  | succ k9 ih227 =>
                                    intro j wz10 J3 hw10 hj3 hA3 hB9 hF3 hm227
                                    subst hw10
                                    refine g_iload C (pc := 227) dX12_read_227 0 rfl ?_
                                    refine g_bipush C (pc := 229) 20 dX12_read_229 (by decide) ?_
                                    refine g_icmp_ge C (pc := 231) 254 dX12_read_231 (by decide) (fun c231 => ?_) (fun c231 => ?_)
                                    · replace c231 := (nI_leI (a := 20) (b := j) (by decide) (by omega)).mp c231
                                      refine g_bipush C (pc := 254) (-20) dX12_read_254 (by decide) ?_
                                      refine g_iload C (pc := 256) dX12_read_256 1 rfl ?_
                                      refine g_isub C (pc := 258) dX12_read_258 ?_
                                      refine g_iret C hR (pc := 259) rfl dX12_read_259 ?_
                                      refine ⟨rfl, _, rfl, ?_⟩
                                      have hj20 : j = 20 := by omega
                                      subst hj20
                                      have h98 : ∀ q, J3 98 q = if q < 20 then I 98 q else I208 98 q := fun q => by
                                        by_cases h9 : q < 20
                                        · rw [if_pos h9]; exact hA3 q h9
                                        · rw [if_neg h9]; exact hB9 q (by omega)
                                      have h98b : ∀ q, q < 20 → J3 98 q = I 98 q := fun q hq => hA3 q hq
                                      have hS : ∀ z9, 12 ≤ z9 → z9 ≠ 18 → z9 ≠ 19 → J3 98 z9 = I 98 z9 := fun z9 h1 h2 h3 => by
                                        rw [h98]; split
                                        · rfl
                                        · exact hFr3.2.2.1 z9 h1 h2 h3
                                      have h97 : ∀ z9, z9 < 25 ∨ 37 < z9 → J3 97 z9 = I 97 z9 := fun z9 h9 => by rw [hF3 97 (by decide)]; exact hFr3.1 z9 h9
                                      have hIs : ∀ i9, i9 < 97 ∨ (98 < i9 ∧ i9 < 106) ∨ (114 < i9 ∧ i9 ≠ 118) → J3 i9 = I i9 := fun i9 h9 => by rw [hF3 i9 (by omega)]; exact hFr3.2.1 i9 h9
                                      refine ⟨Or.inl ⟨k, l, m, ⟨hk, hl, by omega, hxk, hyl, hum⟩, ?_⟩, fun z9 h9 _ => h97 z9 h9, hIs, hS⟩
                                      rw [hWF]
                                      refine Or.inr ⟨i, bi, ti, ?_, by omega, rfl, ?_, h98b 19 (by decide) ▸ htu, h97 41 (by decide)⟩
                                      · show rdS F (fun i => cl k (z.toNatClampNeg + 2 * i)) (fun i => cl k (z.toNatClampNeg + 2 * i + 1)) W 0 b t = _
                                        rw [hrd, show W - i = (W - (i + 1)) + 1 by omega]; exact rdS_stop hg1
                                      · exact ⟨hqf.cong (h97 2 (by decide)) (h97 3 (by decide)) (h97 4 (by decide)) (hIs 100 (by decide)) (hIs 101 (by decide)), hqe.cong (fun q hq => h98b q (by omega)), fun p hp => by rw [h98b p (by omega), h98b (6 + p) (by omega)]; exact hqs p hp, (h98b 18 (by decide)).trans hqt⟩
                                    · replace c231 := (nI_ltI (a := j) (b := 20) (by omega) (by decide)).mp c231
                                      refine g_aload_n C (pc := 234) dX12_read_234 2 rfl ?_
                                      refine g_getR C (pc := 235) fl_RX12_7 (by decide) (by first | assumption | rfl | omega) (by first | assumption | rfl | omega) (by first | assumption | rfl | omega) dX12_read_235 ?_
                                      refine g_iload C (pc := 238) dX12_read_238 0 rfl ?_
                                      refine g_aload_n C (pc := 240) dX12_read_240 2 rfl ?_
                                      refine g_getR C (pc := 241) fl_RX12_71 (by decide) (by first | assumption | rfl | omega) (by first | assumption | rfl | omega) (by first | assumption | rfl | omega) dX12_read_241 ?_
                                      refine g_iload C (pc := 244) dX12_read_244 0 rfl ?_
                                      refine g_iald C (pc := 246) (by first | assumption | rfl | omega) (by first | assumption | rfl | omega) (vp_in_nI (by omega) (by decide)) dX12_read_246 ?_
                                      refine g_iast C (pc := 247) (by first | assumption | rfl | omega) (by first | assumption | rfl | omega) hn9 (vp_in_nI (by omega) (by decide)) dX12_read_247 ?_
                                      refine g_iinc C (pc := 248) (1) dX12_read_248 0 rfl (by decide) (by decide) (fun v248 => [(10, .int v248), (7, .int (nI i)), (0, .ref 97)]) (fun _ => rfl) (fun v248 ev248 => ?_)
                                      refine g_goto C (pc := 251) 227 dX12_read_251 (by decide) ?_
                                      refine g_lv C [0, 1, 2] rfl (ih227 (j + 1) _ _ ?_ ?_ ?_ ?_ ?_ (by omega))
                                      · subst ev248; exact nI_1 _
                                      · omega
                                      · intro q hq
                                        rw [nI_clamp (by omega)]
                                        rcases Nat.lt_or_ge q j with h1 | h1
                                        · rw [wr_sn (by omega)]; exact hA3 q h1
                                        · have : q = j := by omega
                                          subst this
                                          rw [wr_ss, hF3 118 (by decide)]; exact hFr3.2.2.2 q (by omega)
                                      · intro q hq; rw [nI_clamp (by omega), wr_sn (by omega)]; exact hB9 q (by omega)
                                      · intro i h1; rw [wr_n h1]; exact hF3 i h1
                                refine g_lv C [0, 3, 6] rfl (L227 (21) 0 _ _ ?_ ?_ ?_ ?_ ?_ (by first | omega | exact Nat.lt_succ_self _))
                                · subst ev225; rfl
                                · omega
                                · intro q hq; omega
                                · intro q _; rfl
                                · intro i _; rfl
                          · have hr10 : r9 = 0 := (nI_eq (b := 0) (by omega) (by decide)).mp c85
                            refine g_iload_n C (pc := 88) dX12_read_88 7 rfl ?_
                            refine g_i2l C (pc := 89) dX12_read_89 ?_
                            refine g_iconst C (pc := 90) 2 dX12_read_90 (by decide) ?_
                            refine g_iload C (pc := 91) dX12_read_91 1 rfl ?_
                            refine g_imul C (pc := 93) dX12_read_93 ?_
                            refine g_i2l C (pc := 94) dX12_read_94 ?_
                            refine g_ladd C (pc := 95) dX12_read_95 ?_
                            refine g_iload C (pc := 96) dX12_read_96 0 rfl ?_
                            refine g_i2l C (pc := 98) dX12_read_98 ?_
                            refine g_ladd C (pc := 99) dX12_read_99 ?_
                            refine g_lstore C (pc := 100) dX12_read_100 (by decide) (fun v100 => [(9, .long v100), (8, .int (nI c)), (7, .int (nI i)), (6, .int wz6), (5, .int (nI r9)), (0, .ref 97), (1, .int x), (2, .int y9), (3, .int z), (4, .int u)]) (fun _ => rfl) (fun v100 ev100 => ?_)
                            have hv100 : v100.toInt = z.toInt + 2 * (i : Int) + (c : Int) := by rw [ev100]; exact cp_long (by omega) (by omega)
                            refine g_aload_n C (pc := 102) dX12_read_102 5 rfl ?_
                            refine g_getR C (pc := 103) fl_RX12_62 (by decide) (by first | assumption | rfl | omega) (by first | assumption | rfl | omega) (by first | assumption | rfl | omega) dX12_read_103 ?_
                            refine g_iload_n C (pc := 106) dX12_read_106 6 rfl ?_
                            refine g_iald C (pc := 107) (by first | assumption | rfl | omega) (by first | assumption | rfl | omega) (by rw [hxk]; exact vp_in_nI (by omega) (by decide)) dX12_read_107 ?_
                            rw [hcx, h115, s1]
                            refine g_bipush C (pc := 108) (-4) dX12_read_108 (by decide) ?_
                            refine g_icmp_ne C (pc := 110) 117 dX12_read_110 (by decide) (fun c110 => ?_) (fun c110 => ?_)
                            · obtain ⟨l9, hln⟩ : ∃ l9, ln k = some l9 := by
                                cases h9 : ln k with
                                | none => exact absurd (by rw [h9]; rfl) c110
                                | some l9 => exact ⟨l9, rfl⟩
                              have hl93 := s4 l9 hln
                              have hrs : ∀ p, rF (ln k) (sz k) l p = if l9 = l then (if 0 ≤ p ∧ p < (sz k : Int) then 0 else 2) else 3 := fun p => by rw [hln]; rfl
                              refine g_aload_n C (pc := 117) dX12_read_117 5 rfl ?_
                              refine g_getR C (pc := 118) fl_RX12_62 (by decide) (by first | assumption | rfl | omega) (by first | assumption | rfl | omega) (by first | assumption | rfl | omega) dX12_read_118 ?_
                              refine g_iload_n C (pc := 121) dX12_read_121 6 rfl ?_
                              refine g_iald C (pc := 122) (by first | assumption | rfl | omega) (by first | assumption | rfl | omega) (by rw [hxk]; exact vp_in_nI (by omega) (by decide)) dX12_read_122 ?_
                              rw [hcx, h115, s1]
                              refine g_iload_n C (pc := 123) dX12_read_123 7 rfl ?_
                              refine g_icmp_eq C (pc := 124) 131 dX12_read_124 (by decide) (fun c124 => ?_) (fun c124 => ?_)
                              · have hll : l9 = l := by
                                  rw [hln, hyl] at c124
                                  exact (nI_eq (by omega) (by omega)).mp c124
                                refine g_lload C (pc := 131) dX12_read_131 0 rfl ?_
                                refine g_lconst C (pc := 133) 0 dX12_read_133 (by decide) ?_
                                refine g_lcmp C (pc := 134) dX12_read_134 ?_
                                refine g_if_lt C (pc := 135) 151 dX12_read_135 (by decide) (fun c135 => ?_) (fun c135 => ?_)
                                · have hrF : rF (ln k) (sz k) l (z.toInt + 2 * (i : Int) + (c : Int)) = 2 := by
                                    have h9 := Int64.lt_iff_toInt_lt.mp (lcmp_lt.mp c135)
                                    have h8 : (0 : Int64).toInt = 0 := by decide
                                    rw [hrs, if_pos hll, if_neg]
                                    rintro ⟨h1, h2⟩; omega
                                  refine g_iconst C (pc := 151) 2 dX12_read_151 (by decide) ?_
                                  refine g_goto C (pc := 152) 156 dX12_read_152 (by decide) ?_
                                  refine g_istore C (pc := 156) dX12_read_156 (by decide) (fun v156 => [(5, .int v156), (9, .long v100), (8, .int (nI c)), (7, .int (nI i)), (6, .int wz6), (0, .ref 97), (1, .int x), (2, .int y9), (3, .int z), (4, .int u)]) (fun _ => rfl) (fun v156 ev156 => ?_)
                                  have h156 : v156 = nI (rF (ln k) (sz k) l (z.toInt + 2 * (i : Int) + (c : Int))) := by rw [ev156, hrF]; rfl
                                  refine g_iinc C (pc := 158) (1) dX12_read_158 2 rfl (by decide) (by decide) (fun v158 => [(8, .int v158), (5, .int v156), (9, .long v100), (7, .int (nI i)), (6, .int wz6), (0, .ref 97), (1, .int x), (2, .int y9), (3, .int z), (4, .int u)]) (fun _ => rfl) (fun v158 ev158 => ?_)
                                  refine g_goto C (pc := 161) 77 dX12_read_161 (by decide) ?_
                                  refine g_lv C [0, 3, 4, 1, 5, 6, 7, 8, 9] rfl (ih77 (c + 1) (rF (ln k) (sz k) l (z.toInt + 2 * (i : Int) + (c : Int))) _ _ ?_ ?_ ?_ ?_ ?_ (by omega))
                                  · subst ev158; exact nI_1 _
                                  · omega
                                  · exact h156
                                  · exact rF_lt
                                  · have hcc : c = 0 ∨ c = 1 := by omega
                                    rcases hcc with rfl | rfl
                                    · right; left; exact ⟨rfl, by rw [show ((0 : Nat) : Int) = 0 from rfl, Int.add_zero]⟩
                                    · right; right; exact ⟨rfl, by rcases hcr with h9 | h9 | h9 <;> omega, rfl⟩
                                · have hp0 : 0 ≤ z.toInt + 2 * (i : Int) + (c : Int) := by
                                    have h9 : ¬ v100 < 0 := fun h => absurd (lcmp_lt.mpr h) (Int32.not_lt.mpr c135)
                                    have h8 : (0 : Int64).toInt = 0 := by decide
                                    rw [Int64.lt_iff_toInt_lt] at h9; omega
                                  refine g_lload C (pc := 138) dX12_read_138 0 rfl ?_
                                  refine g_aload_n C (pc := 140) dX12_read_140 5 rfl ?_
                                  refine g_getR C (pc := 141) fl_RX12_65 (by decide) (by first | assumption | rfl | omega) (by first | assumption | rfl | omega) (by first | assumption | rfl | omega) dX12_read_141 ?_
                                  refine g_iload_n C (pc := 144) dX12_read_144 6 rfl ?_
                                  refine g_iald C (pc := 145) (by first | assumption | rfl | omega) (by first | assumption | rfl | omega) (by rw [hxk]; exact vp_in_nI (by omega) (by decide)) dX12_read_145 ?_
                                  rw [hcx, h116, s2]
                                  refine g_i2l C (pc := 146) dX12_read_146 ?_
                                  refine g_lcmp C (pc := 147) dX12_read_147 ?_
                                  refine g_if_lt C (pc := 148) 155 dX12_read_148 (by decide) (fun c148 => ?_) (fun c148 => ?_)
                                  · have hrF : rF (ln k) (sz k) l (z.toInt + 2 * (i : Int) + (c : Int)) = 0 := by
                                      have h9 := Int64.lt_iff_toInt_lt.mp (lcmp_lt.mp c148)
                                      rw [nI_l (by omega), lN_toInt (by omega)] at h9
                                      rw [hrs, if_pos hll, if_pos]
                                      exact ⟨hp0, by omega⟩
                                    refine g_iconst C (pc := 155) 0 dX12_read_155 (by decide) ?_
                                    refine g_istore C (pc := 156) dX12_read_156 (by decide) (fun v156 => [(5, .int v156), (9, .long v100), (8, .int (nI c)), (7, .int (nI i)), (6, .int wz6), (0, .ref 97), (1, .int x), (2, .int y9), (3, .int z), (4, .int u)]) (fun _ => rfl) (fun v156 ev156 => ?_)
                                    have h156 : v156 = nI (rF (ln k) (sz k) l (z.toInt + 2 * (i : Int) + (c : Int))) := by rw [ev156, hrF]; rfl
                                    refine g_iinc C (pc := 158) (1) dX12_read_158 2 rfl (by decide) (by decide) (fun v158 => [(8, .int v158), (5, .int v156), (9, .long v100), (7, .int (nI i)), (6, .int wz6), (0, .ref 97), (1, .int x), (2, .int y9), (3, .int z), (4, .int u)]) (fun _ => rfl) (fun v158 ev158 => ?_)
                                    refine g_goto C (pc := 161) 77 dX12_read_161 (by decide) ?_
                                    refine g_lv C [0, 3, 4, 1, 5, 6, 7, 8, 9] rfl (ih77 (c + 1) (rF (ln k) (sz k) l (z.toInt + 2 * (i : Int) + (c : Int))) _ _ ?_ ?_ ?_ ?_ ?_ (by omega))
                                    · subst ev158; exact nI_1 _
                                    · omega
                                    · exact h156
                                    · exact rF_lt
                                    · have hcc : c = 0 ∨ c = 1 := by omega
                                      rcases hcc with rfl | rfl
                                      · right; left; exact ⟨rfl, by rw [show ((0 : Nat) : Int) = 0 from rfl, Int.add_zero]⟩
                                      · right; right; exact ⟨rfl, by rcases hcr with h9 | h9 | h9 <;> omega, rfl⟩
                                  · have hrF : rF (ln k) (sz k) l (z.toInt + 2 * (i : Int) + (c : Int)) = 2 := by
                                      have h9 : ¬ v100 < (nI (sz k)).toInt64 := fun h => absurd (lcmp_lt.mpr h) (Int32.not_lt.mpr c148)
                                      rw [Int64.lt_iff_toInt_lt, nI_l (by omega), lN_toInt (by omega)] at h9
                                      rw [hrs, if_pos hll, if_neg]
                                      rintro ⟨h1, h2⟩; omega
                                    refine g_iconst C (pc := 151) 2 dX12_read_151 (by decide) ?_
                                    refine g_goto C (pc := 152) 156 dX12_read_152 (by decide) ?_
                                    refine g_istore C (pc := 156) dX12_read_156 (by decide) (fun v156 => [(5, .int v156), (9, .long v100), (8, .int (nI c)), (7, .int (nI i)), (6, .int wz6), (0, .ref 97), (1, .int x), (2, .int y9), (3, .int z), (4, .int u)]) (fun _ => rfl) (fun v156 ev156 => ?_)
                                    have h156 : v156 = nI (rF (ln k) (sz k) l (z.toInt + 2 * (i : Int) + (c : Int))) := by rw [ev156, hrF]; rfl
                                    refine g_iinc C (pc := 158) (1) dX12_read_158 2 rfl (by decide) (by decide) (fun v158 => [(8, .int v158), (5, .int v156), (9, .long v100), (7, .int (nI i)), (6, .int wz6), (0, .ref 97), (1, .int x), (2, .int y9), (3, .int z), (4, .int u)]) (fun _ => rfl) (fun v158 ev158 => ?_)
                                    refine g_goto C (pc := 161) 77 dX12_read_161 (by decide) ?_
                                    refine g_lv C [0, 3, 4, 1, 5, 6, 7, 8, 9] rfl (ih77 (c + 1) (rF (ln k) (sz k) l (z.toInt + 2 * (i : Int) + (c : Int))) _ _ ?_ ?_ ?_ ?_ ?_ (by omega))
                                    · subst ev158; exact nI_1 _
                                    · omega
                                    · exact h156
                                    · exact rF_lt
                                    · have hcc : c = 0 ∨ c = 1 := by omega
                                      rcases hcc with rfl | rfl
                                      · right; left; exact ⟨rfl, by rw [show ((0 : Nat) : Int) = 0 from rfl, Int.add_zero]⟩
                                      · right; right; exact ⟨rfl, by rcases hcr with h9 | h9 | h9 <;> omega, rfl⟩
                              · have hrF : rF (ln k) (sz k) l (z.toInt + 2 * (i : Int) + (c : Int)) = 3 := by
                                  rw [hrs, if_neg ?_]
                                  intro h9
                                  exact c124 (by rw [hln, hyl, h9]; rfl)
                                refine g_iconst C (pc := 127) 3 dX12_read_127 (by decide) ?_
                                refine g_goto C (pc := 128) 156 dX12_read_128 (by decide) ?_
                                refine g_istore C (pc := 156) dX12_read_156 (by decide) (fun v156 => [(5, .int v156), (9, .long v100), (8, .int (nI c)), (7, .int (nI i)), (6, .int wz6), (0, .ref 97), (1, .int x), (2, .int y9), (3, .int z), (4, .int u)]) (fun _ => rfl) (fun v156 ev156 => ?_)
                                have h156 : v156 = nI (rF (ln k) (sz k) l (z.toInt + 2 * (i : Int) + (c : Int))) := by rw [ev156, hrF]; rfl
                                refine g_iinc C (pc := 158) (1) dX12_read_158 2 rfl (by decide) (by decide) (fun v158 => [(8, .int v158), (5, .int v156), (9, .long v100), (7, .int (nI i)), (6, .int wz6), (0, .ref 97), (1, .int x), (2, .int y9), (3, .int z), (4, .int u)]) (fun _ => rfl) (fun v158 ev158 => ?_)
                                refine g_goto C (pc := 161) 77 dX12_read_161 (by decide) ?_
                                refine g_lv C [0, 3, 4, 1, 5, 6, 7, 8, 9] rfl (ih77 (c + 1) (rF (ln k) (sz k) l (z.toInt + 2 * (i : Int) + (c : Int))) _ _ ?_ ?_ ?_ ?_ ?_ (by omega))
                                · subst ev158; exact nI_1 _
                                · omega
                                · exact h156
                                · exact rF_lt
                                · have hcc : c = 0 ∨ c = 1 := by omega
                                  rcases hcc with rfl | rfl
                                  · right; left; exact ⟨rfl, by rw [show ((0 : Nat) : Int) = 0 from rfl, Int.add_zero]⟩
                                  · right; right; exact ⟨rfl, by rcases hcr with h9 | h9 | h9 <;> omega, rfl⟩
                            · have hln : ln k = none := (oI_none (fun q hq => by have := s4 q hq; omega)).mp c110
                              have hrF : rF (ln k) (sz k) l (z.toInt + 2 * (i : Int) + (c : Int)) = 1 := by
                                rw [hln]; rfl
                              refine g_iconst C (pc := 113) 1 dX12_read_113 (by decide) ?_
                              refine g_goto C (pc := 114) 156 dX12_read_114 (by decide) ?_
                              refine g_istore C (pc := 156) dX12_read_156 (by decide) (fun v156 => [(5, .int v156), (9, .long v100), (8, .int (nI c)), (7, .int (nI i)), (6, .int wz6), (0, .ref 97), (1, .int x), (2, .int y9), (3, .int z), (4, .int u)]) (fun _ => rfl) (fun v156 ev156 => ?_)
                              have h156 : v156 = nI (rF (ln k) (sz k) l (z.toInt + 2 * (i : Int) + (c : Int))) := by rw [ev156, hrF]; rfl
                              refine g_iinc C (pc := 158) (1) dX12_read_158 2 rfl (by decide) (by decide) (fun v158 => [(8, .int v158), (5, .int v156), (9, .long v100), (7, .int (nI i)), (6, .int wz6), (0, .ref 97), (1, .int x), (2, .int y9), (3, .int z), (4, .int u)]) (fun _ => rfl) (fun v158 ev158 => ?_)
                              refine g_goto C (pc := 161) 77 dX12_read_161 (by decide) ?_
                              refine g_lv C [0, 3, 4, 1, 5, 6, 7, 8, 9] rfl (ih77 (c + 1) (rF (ln k) (sz k) l (z.toInt + 2 * (i : Int) + (c : Int))) _ _ ?_ ?_ ?_ ?_ ?_ (by omega))
                              · subst ev158; exact nI_1 _
                              · omega
                              · exact h156
                              · exact rF_lt
                              · have hcc : c = 0 ∨ c = 1 := by omega
                                rcases hcc with rfl | rfl
                                · right; left; exact ⟨rfl, by rw [show ((0 : Nat) : Int) = 0 from rfl, Int.add_zero]⟩
                                · right; right; exact ⟨rfl, by rcases hcr with h9 | h9 | h9 <;> omega, rfl⟩
                    refine g_lv C [0, 1, 2, 3, 4, 5, 6, 7, 8] rfl (L77 (_ + 1) 0 0 _ _ ?_ ?_ ?_ ?_ ?_ (by first | omega | exact Nat.lt_succ_self _))
                    · subst ev75; rfl
                    · omega
                    · rw [hr0]
                    · decide
                    · exact Or.inl ⟨rfl, rfl⟩
            refine g_lv C [0, 1, 2, 3, 4, 5, 6, 7] rfl (L62 (_ + 1) 0 0 b t _ _ _ _ ?_ ?_ ?_ ?_ ?_ ?_ ?_ ?_ ?_ ?_ ?_ ?_ (by first | omega | exact Nat.lt_succ_self _))
            · subst ev60; rfl
            · omega
            · subst ev54; rfl
            · decide
            · subst ev57; exact Or.inl ⟨rfl, Nat.zero_le _, rfl, by rw [Nat.sub_zero]⟩
            · exact hqn.kpj hF
            · rw [hF 98 (by decide)]; exact htu
            · exact ht9
            · exact hbw
            · exact hl1
            · exact hpw
            · exact ⟨fun z9 _ => by rw [hF 97 (by decide)], fun i9 h9 => hF i9 (by omega), fun z9 _ _ _ => by rw [hF 98 (by decide)], fun q hq => hA q (by omega)⟩
          · replace c30 := (nI_ltI (a := j) (b := 20) (by omega) (by decide)).mp c30
            refine g_aload_n C (pc := 33) dX12_read_33 1 rfl ?_
            refine g_getR C (pc := 34) fl_RX12_71 (by decide) (by first | assumption | rfl | omega) (by first | assumption | rfl | omega) (by first | assumption | rfl | omega) dX12_read_34 ?_
            refine g_iload C (pc := 37) dX12_read_37 0 rfl ?_
            refine g_aload_n C (pc := 39) dX12_read_39 1 rfl ?_
            refine g_getR C (pc := 40) fl_RX12_7 (by decide) (by first | assumption | rfl | omega) (by first | assumption | rfl | omega) (by first | assumption | rfl | omega) dX12_read_40 ?_
            refine g_iload C (pc := 43) dX12_read_43 0 rfl ?_
            refine g_iald C (pc := 45) (by first | assumption | rfl | omega) (by first | assumption | rfl | omega) (vp_in_nI (by omega) (by decide)) dX12_read_45 ?_
            refine g_iast C (pc := 46) (by first | assumption | rfl | omega) (by first | assumption | rfl | omega) hn9 (vp_in_nI (by omega) (by decide)) dX12_read_46 ?_
            refine g_iinc C (pc := 47) (1) dX12_read_47 0 rfl (by decide) (by decide) (fun v47 => [(5, .int v47), (0, .ref 97), (1, .int x), (2, .int y9), (3, .int z), (4, .int u)]) (fun _ => rfl) (fun v47 ev47 => ?_)
            refine g_goto C (pc := 50) 26 dX12_read_50 (by decide) ?_
            refine g_lv C [0, 1, 2, 3, 4, 5] rfl (ih26 (j + 1) _ _ ?_ ?_ ?_ ?_ (by omega))
            · subst ev47; exact nI_1 _
            · omega
            · intro q hq
              rw [nI_clamp (by omega)]
              rcases Nat.lt_or_ge q j with h1 | h1
              · rw [wr_sn (by omega)]; exact hA q h1
              · have : q = j := by omega
                subst this
                rw [wr_ss, hF 98 (by decide)]
            · intro i h1; rw [wr_n h1]; exact hF i h1
      refine g_lv C [0, 1, 2, 3, 4, 5] rfl (L26 (_ + 1) 0 _ _ ?_ ?_ ?_ ?_ (by first | omega | exact Nat.lt_succ_self _))
      · subst_vars; rfl
      · omega
      · intro q hq; omega
      · intro i _; rfl
    · have hu := fun h => bI_0.mp (e15.symm.trans c18) ((inL (x := u) (lo := 0) (hi := 13) (by decide) (by decide)).mpr h)
      refine g_iconst C (pc := 21) (-1) dX12_read_21 (by decide) ?_
      refine g_iret C hR (pc := 22) rfl dX12_read_22 ?_
      refine ⟨rfl, _, rfl, ?_⟩
      refine ⟨Or.inr ⟨?_, rfl, rfl⟩, fun _ _ _ => rfl, fun _ _ => rfl, fun _ _ _ _ => rfl⟩
      rintro ⟨k9, l9, m9, h1, h2, h3, h4, h5, h6⟩
      first | (exact hx ⟨by rw [h4]; exact ⟨nI_pos' (by omega), nI_lt (b := 4) h1 (by decide)⟩, by rw [h5]; exact ⟨nI_pos' (by omega), nI_lt (b := 3) h2 (by decide)⟩⟩) | exact hu ⟨m9, by omega, h3, h6⟩
