/-- which move a number names; none -/
def selM (F : RT) (b : BT) (w : Nat) (z : Int32) : Option (Option Nat) := if 0 ≤ z ∧ z < nI (mvs F b w).length then some ((mvs F b w)[z.toNatClampNeg]?) else if z = -4 ∧ (mvs F b w).length = 0 then some none else none
theorem selM_iff {F : RT} {b : BT} {w : Nat} {z : Int32} {mv : Option Nat} (hn : rN F ≤ 6) : MvS F b w z mv ↔ selM F b w z = some mv := by
  have hl := mvs_len (F := F) (b := b) (w := w) hn
  unfold selM
  constructor
  · rintro (⟨k, m, h1, h2, h3⟩ | ⟨h1, h2, h3⟩)
    · have hk := (List.getElem?_eq_some_iff.mp h2).1
      rw [if_pos (by rw [h1]; exact ⟨nI_pos' (by omega), nI_lt hk (by omega)⟩), h1, nI_clamp (by omega), h2, h3]
    · rw [if_neg (by rw [h1]; intro h; exact absurd h.1 (by decide)), if_pos ⟨h1, h2⟩, h3]
  · intro h
    split at h
    · rename_i hz
      obtain ⟨k, hk, rfl⟩ := ix_of (by omega) hz
      rw [nI_clamp (by omega)] at h
      exact Or.inl ⟨k, _, rfl, List.getElem?_eq_getElem hk, by rw [← Option.some.inj h, List.getElem?_eq_getElem hk]⟩
    · split at h
      · rename_i h2
        exact Or.inr ⟨h2.1, h2.2, (Option.some.inj h).symm⟩
      · cases h
/-- a turn by go(): the board and the turns behind it; none where it is refused -/
def goF (F : RT) (b : BT) (t : Nat) (x z : Int32) : Option (BT × Nat) := if 0 ≤ x ∧ x < 5 then (match selM F b x.toNatClampNeg z with
  | some mv => if lostP F b = none ∧ t < 999 then some (playB F b x.toNatClampNeg mv, t + 1) else none
  | none => none) else none
theorem goF_some {F : RT} {b b' : BT} {t t' : Nat} {x z : Int32} (h : goF F b t x z = some (b', t')) : lostP F b = none ∧ t < 999 ∧ t' = t + 1 ∧ ∃ w mv, w < 5 ∧ x = nI w ∧ selM F b w z = some mv ∧ b' = playB F b w mv := by
  unfold goF at h
  split at h
  · rename_i hx
    obtain ⟨w, hw, rfl⟩ := ix_of (n := 5) (by decide) hx
    rw [nI_clamp (by omega)] at h
    cases e : selM F b w z with
    | none => rw [e] at h; cases h
    | some mv =>
      rw [e] at h
      replace h : (if lostP F b = none ∧ t < 999 then some (playB F b w mv, t + 1) else none) = some (b', t') := h
      split at h
      · rename_i h2
        cases h
        exact ⟨h2.1, h2.2, rfl, w, mv, hw, rfl, e, rfl⟩
      · cases h
  · cases h
theorem selM_ok {F : RT} {b : BT} {w : Nat} {z : Int32} {mv : Option Nat} (h : selM F b w z = some mv) : ∀ m, mv = some m → m / 100 < rN F ∧ m % 100 < 25 := by
  intro m hm
  subst hm
  unfold selM at h
  split at h
  · have := Option.some.inj h
    exact ⟨(mvs_ok this).1, (mvs_ok this).2.1⟩
  · split at h
    · cases h
    · cases h
theorem goF_W {F : RT} {b b' : BT} {t t' : Nat} {x z : Int32} (hw : BW F b) (h : goF F b t x z = some (b', t')) : BW F b' ∧ t' ≤ 999 := by
  obtain ⟨h1, h2, h3, w, mv, h4, h5, h6, h7⟩ := goF_some h
  rw [h7]
  exact ⟨playB_W hw (selM_ok h6), by omega⟩
/-- turns read one behind another: the first that is refused; the board, the turns -/
def rdS (F : RT) (ws ms : Nat → Int32) : Nat → Nat → BT → Nat → Option Nat × BT × Nat
  | 0, _, b, t => (none, b, t)
  | k + 1, i, b, t => match goF F b t (ws i) (ms i) with
    | none => (some i, b, t)
    | some (b', t') => rdS F ws ms k (i + 1) b' t'
def GoP (I I1 : Mem) (F : RT) (b : BT) (t : Nat) (x z v : Int32) : Prop :=
  (goF F b t x z = none ∧ (v = -1 ∨ v = -2 ∨ v = -3) ∧ ∀ i, i ≠ 52 → I1 i = I i) ∨
  (∃ b' t', goF F b t x z = some (b', t') ∧ ¬ (v = -1 ∨ v = -2 ∨ v = -3) ∧ BR I1 (1 + 5) F b' ∧ I1 1 5 = nI t' ∧ (∀ z, z ≠ 5 → I1 1 z = I 1 z) ∧ ∀ i, i ≠ 1 → i ≠ 52 → i ≠ 6 → i ≠ 7 → i ≠ 8 → i ≠ 9 → I1 i = I i)
theorem oI_no {a : Option Nat} (h : ∀ q, a = some q → q < 2 ^ 31) : ¬ (oI a = -1 ∨ oI a = -2 ∨ oI a = -3) := by
  cases a with
  | none => decide
  | some q =>
    have hq := h q rfl
    have h0 : (0 : Int32) ≤ nI q := nI_pos' hq
    rintro (e | e | e)
    · rw [show oI (some q) = nI q from rfl] at e; rw [e] at h0; exact absurd h0 (by decide)
    · rw [show oI (some q) = nI q from rfl] at e; rw [e] at h0; exact absurd h0 (by decide)
    · rw [show oI (some q) = nI q from rfl] at e; rw [e] at h0; exact absurd h0 (by decide)
theorem goP_of {I I1 : Mem} {F : RT} {b : BT} {t : Nat} {x z v : Int32} (hn : rN F ≤ 6)
    (h : (¬ (∃ w mv, (w < 5 ∧ x = nI w ∧ MvS F b w z mv)) ∧ v = -1 ∧ ∀ i, i ≠ 52 → I1 i = I i) ∨ (∃ w mv, (w < 5 ∧ x = nI w ∧ MvS F b w z mv) ∧ ((¬ lostB F b = none ∧ v = -2 ∧ ∀ i, i ≠ 52 → I1 i = I i) ∨ (lostB F b = none ∧ 999 ≤ t ∧ v = -3 ∧ ∀ i, i ≠ 52 → I1 i = I i) ∨ (lostB F b = none ∧ t < 999 ∧ v = oI (mv.bind (fun m => pon F b (m % 100))) ∧ BR I1 (1 + 5) F (playB F b w mv) ∧ I1 1 5 = nI (t + 1) ∧ (∀ z, z ≠ 5 → I1 1 z = I 1 z) ∧ ∀ i, i ≠ 1 → i ≠ 52 → i ≠ 6 → i ≠ 7 → i ≠ 8 → i ≠ 9 → I1 i = I i)))) : GoP I I1 F b t x z v := by
  have hx5 : ∀ w, w < 5 → (0 ≤ nI w ∧ nI w < (5 : Int32)) := fun w hw => ⟨nI_pos' (by omega), nI_lt (b := 5) hw (by decide)⟩
  rcases h with ⟨h1, h2, h3⟩ | ⟨w, mv, ⟨h1, h2, h3⟩, h⟩
  · left
    refine ⟨?_, Or.inl h2, h3⟩
    unfold goF
    split
    · rename_i hx
      obtain ⟨w, hw, rfl⟩ := ix_of (n := 5) (by decide) hx
      rw [nI_clamp (by omega)]
      cases e : selM F b w z with
      | none => rfl
      | some mv => exact absurd ⟨w, mv, hw, rfl, (selM_iff hn).mpr e⟩ h1
    · rfl
  · subst h2
    have hs := (selM_iff hn).mp h3
    have hg : goF F b t (nI w) z = if lostP F b = none ∧ t < 999 then some (playB F b w mv, t + 1) else none := by
      unfold goF
      rw [if_pos (hx5 w h1), nI_clamp (by omega), hs]
    rcases h with ⟨a1, a2, a3⟩ | ⟨a1, a2, a3, a4⟩ | ⟨a1, a2, a3, a4⟩
    · left
      exact ⟨by rw [hg, if_neg (fun h => a1 (lostB_none.mpr h.1))], Or.inr (Or.inl a2), a3⟩
    · left
      exact ⟨by rw [hg, if_neg (fun h => by omega)], Or.inr (Or.inr a3), a4⟩
    · right
      refine ⟨_, _, by rw [hg, if_pos ⟨lostB_none.mp a1, a2⟩], ?_, a4⟩
      rw [a3]
      refine oI_no (fun q hq => ?_)
      obtain ⟨m, hm, hp⟩ := Option.bind_eq_some_iff.mp hq
      have := (pon_some hp).1
      omega
theorem CpG.cong {I I1 : Mem} {g o : Nat} (h : CpG I I1 g o) : ∀ i, ¬ (g ≤ i ∧ i ≤ g + 11) → I1 i = I i := h.2.2.2
theorem le_lt {x : Int32} {L : Nat} (hL : L < 1000) (h : x ≤ nI L) : x < nI (L + 1) := by
  have := Int32.le_iff_toInt_le.mp h
  rw [Int32.lt_iff_toInt_lt]
  rw [nI_toInt (by omega)] at this ⊢
  omega
set_option maxHeartbeats 400000 in
theorem c_X11_sheet (n : Nat) (ρ : Rho) (I : Mem) (x y9 z : Int32) (hn9 : n ≤ 999) (hxs : XS n ρ) : MI yX11_sheet cX11_sheet 4 (some .int) 2 [.ref 0, .int x, .int y9, .int z] n ρ I (fun v I1 => (∃ k l, (k < 4 ∧ l < 3 ∧ x = nI k ∧ y9 = nI l ∧ z ≤ 40) ∧ ((z < 0 ∧ v = -14 ∧ I = I1) ∨ (0 ≤ z ∧ v = 1 ∧ (∀ i, i < 40 → I1 (65 + k) i = 0) ∧ I1 62 = upd (I 62) k y9 ∧ I1 63 = upd (I 63) k z ∧ ∀ i, i ≠ 62 → i ≠ 63 → i ≠ 65 + k → I1 i = I i))) ∨ (¬ (∃ k l, (k < 4 ∧ l < 3 ∧ x = nI k ∧ y9 = nI l ∧ z ≤ 40)) ∧ v = -1 ∧ I = I1)) := by
  refine MG.of (by decide +kernel) (Nat.le_of_ble_eq_true rfl) hn9 ?_
  intro κ C hR
  show G κ n ρ 0 [(0, .ref 0), (1, .int x), (2, .int y9), (3, .int z)] [] I
  obtain ⟨hxc, ⟨xb1, xb2, xb3, xb4, xb5, xb6, xb8⟩, ⟨xi0, xi1, xga, xgb⟩, ⟨xt0, xt1, xgd⟩, hch, ⟨xr0, xr1, xr2⟩, xa0, ⟨xw0, xw1⟩, xst⟩ := id hxs
  obtain ⟨xc0, xcn, xc1, hga, xc7, hss⟩ := id hxc
  have xcz : 0 < n := by omega
  obtain ⟨ga0, ga1, ga2, ga3, ga4, ga5, ga6, ga7, ga8, gan, hrf, hst⟩ := id hga
  have hrf0 := hrf.1
  have hst0 := hst.1
  have hsp := hch.sp
  obtain ⟨hp0, hpn, hp1, hp2, hp3, hp4⟩ := id hsp
  refine g_iload_n C (pc := 0) dX11_sheet_0 1 rfl ?_
  refine g_callSI C (pc := 1) mf_X11_isSheet lk_RX11_308 (c_X11_isSheet n ρ I x hn9) (by decide) (Nat.le_refl _) rfl (Nat.le_of_ble_eq_true rfl) dX11_sheet_1 (fun v1 I1 h1 => ?_)
  obtain ⟨e1, rfl⟩ := h1
  refine g_if_eq C (pc := 4) 20 dX11_sheet_4 (by decide) (fun c4 => ?_) (fun c4 => ?_)
  · have hx := bI_0.mp (e1.symm.trans c4)
    refine g_iconst C (pc := 20) (-1) dX11_sheet_20 (by decide) ?_
    refine g_iret C hR (pc := 21) rfl dX11_sheet_21 ?_
    refine ⟨rfl, _, rfl, ?_⟩
    refine Or.inr ⟨?_, rfl, rfl⟩
    rintro ⟨k9, l9, h1, h2, h3, h4, h5⟩
    first | (exact hx (by rw [h3]; exact ⟨nI_pos' (by omega), nI_lt (b := 4) h1 (by decide)⟩)) | (exact hy (by rw [h4]; exact ⟨nI_pos' (by omega), nI_lt (b := 3) h2 (by decide)⟩)) | exact absurd c17 (Int32.not_lt.mpr h5)
  · have hx := bI_1.mp (fun h => c4 (e1.trans h))
    obtain ⟨k, hk, hxk⟩ := ix_of (n := 4) (by decide) hx
    have hcl : x.toNatClampNeg = k := by rw [hxk]; exact nI_clamp (by omega)
    refine g_iload_n C (pc := 7) dX11_sheet_7 2 rfl ?_
    refine g_callSI C (pc := 8) mf_X11_isLane lk_RX11_311 (c_X11_isLane n ρ I y9 hn9) (by decide) (Nat.le_refl _) rfl (Nat.le_of_ble_eq_true rfl) dX11_sheet_8 (fun v8 I8 h8 => ?_)
    obtain ⟨e8, rfl⟩ := h8
    refine g_if_eq C (pc := 11) 20 dX11_sheet_11 (by decide) (fun c11 => ?_) (fun c11 => ?_)
    · have hy := bI_0.mp (e8.symm.trans c11)
      refine g_iconst C (pc := 20) (-1) dX11_sheet_20 (by decide) ?_
      refine g_iret C hR (pc := 21) rfl dX11_sheet_21 ?_
      refine ⟨rfl, _, rfl, ?_⟩
      refine Or.inr ⟨?_, rfl, rfl⟩
      rintro ⟨k9, l9, h1, h2, h3, h4, h5⟩
      first | (exact hx (by rw [h3]; exact ⟨nI_pos' (by omega), nI_lt (b := 4) h1 (by decide)⟩)) | (exact hy (by rw [h4]; exact ⟨nI_pos' (by omega), nI_lt (b := 3) h2 (by decide)⟩)) | exact absurd c17 (Int32.not_lt.mpr h5)
    · have hy := bI_1.mp (fun h => c11 (e8.trans h))
      obtain ⟨l, hl, hyl⟩ := ix_of (n := 3) (by decide) hy
      refine g_iload_n C (pc := 14) dX11_sheet_14 3 rfl ?_
      refine g_bipush C (pc := 15) 40 dX11_sheet_15 (by decide) ?_
      refine g_icmp_le C (pc := 17) 22 dX11_sheet_17 (by decide) (fun c17 => ?_) (fun c17 => ?_)
      · refine g_iload_n C (pc := 22) dX11_sheet_22 3 rfl ?_
        refine g_if_ge C (pc := 23) 29 dX11_sheet_23 (by decide) (fun c23 => ?_) (fun c23 => ?_)
        · refine g_aload_n C (pc := 29) dX11_sheet_29 0 rfl ?_
          refine g_getR C (pc := 30) fl_RX11_56 (by decide) (by first | assumption | rfl | omega) (by first | assumption | rfl | omega) (by first | assumption | rfl | omega) dX11_sheet_30 ?_
          refine g_iload_n C (pc := 33) dX11_sheet_33 1 rfl ?_
          refine g_iload_n C (pc := 34) dX11_sheet_34 2 rfl ?_
          refine g_iload_n C (pc := 35) dX11_sheet_35 3 rfl ?_
          refine g_callVV C (pc := 36) mf_X7_renew lk_RX11_314 (c_X7_renew n ρ I 61 x y9 z hn9 hss) (by decide) (Nat.le_refl _) rfl (by first | assumption | rfl | omega) rfl (by first | assumption | rfl | omega) (Nat.le_of_ble_eq_true rfl) dX11_sheet_36 (fun I36 h36 => ?_)
          obtain h36 := h36
          obtain ⟨r1, r2, r3, r4⟩ := (h36.resolve_right (fun h9 => h9.1 hx)).2
          rw [hcl] at r1 r2 r3 r4
          refine g_iconst C (pc := 39) 1 dX11_sheet_39 (by decide) ?_
          refine g_iret C hR (pc := 40) rfl dX11_sheet_40 ?_
          refine ⟨rfl, _, rfl, ?_⟩
          exact Or.inl ⟨k, l, ⟨hk, hl, hxk, hyl, c17⟩, Or.inr ⟨c23, rfl, r1, r2, r3, r4⟩⟩
        · refine g_bipush C (pc := 26) (-14) dX11_sheet_26 (by decide) ?_
          refine g_iret C hR (pc := 28) rfl dX11_sheet_28 ?_
          refine ⟨rfl, _, rfl, ?_⟩
          exact Or.inl ⟨k, l, ⟨hk, hl, hxk, hyl, c17⟩, Or.inl ⟨c23, rfl, rfl⟩⟩
      · refine g_iconst C (pc := 20) (-1) dX11_sheet_20 (by decide) ?_
        refine g_iret C hR (pc := 21) rfl dX11_sheet_21 ?_
        refine ⟨rfl, _, rfl, ?_⟩
        refine Or.inr ⟨?_, rfl, rfl⟩
        rintro ⟨k9, l9, h1, h2, h3, h4, h5⟩
        first | (exact hx (by rw [h3]; exact ⟨nI_pos' (by omega), nI_lt (b := 4) h1 (by decide)⟩)) | (exact hy (by rw [h4]; exact ⟨nI_pos' (by omega), nI_lt (b := 3) h2 (by decide)⟩)) | exact absurd c17 (Int32.not_lt.mpr h5)
set_option maxHeartbeats 400000 in
theorem c_X11_lay (n : Nat) (ρ : Rho) (I : Mem) (ln : Nat → Option Nat) (sz : Nat → Nat) (cl : Nat → Nat → Int32) (x z w : Int32) (hn9 : n ≤ 999) (hxs : XS n ρ) (hsh : ShR I 61 ln sz cl) : MI yX11_lay cX11_lay 5 (some .int) 4 [.ref 0, .int x, .int z, .int w] n ρ I (fun v I1 => (∃ k, (k < 4 ∧ x = nI k) ∧ ((ln k = none ∧ v = -11 ∧ I = I1) ∨ (∃ l, ln k = some l ∧ ((¬ (0 ≤ z ∧ z < nI (sz k)) ∧ v = -12 ∧ I = I1) ∨ (∃ i, i < sz k ∧ z = nI i ∧ v = 1 ∧ wr I (65 + k) i (cutL l w) = I1))))) ∨ (¬ (∃ k, (k < 4 ∧ x = nI k)) ∧ v = -1 ∧ I = I1)) := by
  refine MG.of (by decide +kernel) (Nat.le_of_ble_eq_true rfl) hn9 ?_
  intro κ C hR
  show G κ n ρ 0 [(0, .ref 0), (1, .int x), (2, .int z), (3, .int w)] [] I
  obtain ⟨hxc, ⟨xb1, xb2, xb3, xb4, xb5, xb6, xb8⟩, ⟨xi0, xi1, xga, xgb⟩, ⟨xt0, xt1, xgd⟩, hch, ⟨xr0, xr1, xr2⟩, xa0, ⟨xw0, xw1⟩, xst⟩ := id hxs
  obtain ⟨xc0, xcn, xc1, hga, xc7, hss⟩ := id hxc
  have xcz : 0 < n := by omega
  obtain ⟨ga0, ga1, ga2, ga3, ga4, ga5, ga6, ga7, ga8, gan, hrf, hst⟩ := id hga
  have hrf0 := hrf.1
  have hst0 := hst.1
  have hsp := hch.sp
  obtain ⟨hp0, hpn, hp1, hp2, hp3, hp4⟩ := id hsp
  refine g_iload_n C (pc := 0) dX11_lay_0 1 rfl ?_
  refine g_callSI C (pc := 1) mf_X11_isSheet lk_RX11_308 (c_X11_isSheet n ρ I x hn9) (by decide) (Nat.le_refl _) rfl (Nat.le_of_ble_eq_true rfl) dX11_lay_1 (fun v1 I1 h1 => ?_)
  obtain ⟨e1, rfl⟩ := h1
  refine g_if_ne C (pc := 4) 9 dX11_lay_4 (by decide) (fun c4 => ?_) (fun c4 => ?_)
  · have hx := bI_1.mp (fun h => c4 (e1.trans h))
    obtain ⟨k, hk, hxk⟩ := ix_of (n := 4) (by decide) hx
    have hcl : x.toNatClampNeg = k := by rw [hxk]; exact nI_clamp (by omega)
    refine g_aload_n C (pc := 9) dX11_lay_9 0 rfl ?_
    refine g_getR C (pc := 10) fl_RX11_56 (by decide) (by first | assumption | rfl | omega) (by first | assumption | rfl | omega) (by first | assumption | rfl | omega) dX11_lay_10 ?_
    refine g_iload_n C (pc := 13) dX11_lay_13 1 rfl ?_
    refine g_iload_n C (pc := 14) dX11_lay_14 2 rfl ?_
    refine g_callVI C (pc := 15) mf_X7_faultAt lk_RX11_318 (c_X7_faultAt n ρ I 61 x z hn9 hss) (by decide) (Nat.le_refl _) rfl (by first | assumption | rfl | omega) rfl (by first | assumption | rfl | omega) (Nat.le_of_ble_eq_true rfl) dX11_lay_15 (fun v15 I15 h15 => ?_)
    obtain ⟨e15, rfl⟩ := h15
    rw [hxk, sz_at hsh hk] at e15
    obtain ⟨s1, s2, s3, s4, s5⟩ := hsh k hk
    have hfa : (ln k = none ∧ v15 = 1) ∨ (∃ l, ln k = some l ∧ ((¬ (0 ≤ z ∧ z < nI (sz k)) ∧ v15 = 2) ∨ (∃ i, i < sz k ∧ z = nI i ∧ v15 = 0))) := by
      cases h9 : ln k with
      | none => left; rw [h9] at e15; exact ⟨rfl, e15⟩
      | some l =>
        right
        rw [h9] at e15
        replace e15 : v15 = (if nI (sz k) = -4 then 1 else if 0 ≤ z ∧ z < nI (sz k) then 0 else 2) := e15
        rw [if_neg (nI_ne4 (by omega))] at e15
        refine ⟨l, rfl, ?_⟩
        by_cases h8 : 0 ≤ z ∧ z < nI (sz k)
        · rw [if_pos h8] at e15
          obtain ⟨i, hi, hzi⟩ := ix_of (by omega) h8
          exact Or.inr ⟨i, hi, hzi, e15⟩
        · rw [if_neg h8] at e15
          exact Or.inl ⟨h8, e15⟩
    refine g_istore C (pc := 18) dX11_lay_18 (by decide) (fun v18 => [(4, .int v18), (0, .ref 0), (1, .int x), (2, .int z), (3, .int w)]) (fun _ => rfl) (fun v18 ev18 => ?_)
    refine g_iload C (pc := 20) dX11_lay_20 0 rfl ?_
    refine g_if_eq C (pc := 22) 31 dX11_lay_22 (by decide) (fun c22 => ?_) (fun c22 => ?_)
    · obtain ⟨l, hl, i, hi, hzi⟩ : ∃ l, ln k = some l ∧ ∃ i, i < sz k ∧ z = nI i := by
        rcases hfa with ⟨-, h9⟩ | ⟨l, hl, ⟨-, h9⟩ | ⟨i, hi, hzi, -⟩⟩
        · rw [ev18, h9] at c22; exact absurd c22 (by decide)
        · rw [ev18, h9] at c22; exact absurd c22 (by decide)
        · exact ⟨l, hl, i, hi, hzi⟩
      refine g_aload_n C (pc := 31) dX11_lay_31 1 rfl ?_
      refine g_getR C (pc := 32) fl_RX11_56 (by decide) (by first | assumption | rfl | omega) (by first | assumption | rfl | omega) (by first | assumption | rfl | omega) dX11_lay_32 ?_
      refine g_iload_n C (pc := 35) dX11_lay_35 2 rfl ?_
      refine g_iload_n C (pc := 36) dX11_lay_36 3 rfl ?_
      refine g_iload_n C (pc := 37) dX11_lay_37 4 rfl ?_
      refine g_callVV C (pc := 38) mf_X7_set lk_RX11_321 (c_X7_set n ρ I 61 x z w hn9 hss) (by decide) (Nat.le_refl _) rfl (by first | assumption | rfl | omega) rfl (by first | assumption | rfl | omega) (Nat.le_of_ble_eq_true rfl) dX11_lay_38 (fun I38 h38 => ?_)
      obtain h38 := h38
      have hwr : wr I (65 + k) i (cutL l w) = I38 := by
        have hcd : (¬ (if 0 ≤ x ∧ x < 4 ∧ I (61 + 1) x.toNatClampNeg ≠ -4 then I (61 + 2) x.toNatClampNeg else -4) = -4 ∧ 0 ≤ z ∧ z < (if 0 ≤ x ∧ x < 4 ∧ I (61 + 1) x.toNatClampNeg ≠ -4 then I (61 + 2) x.toNatClampNeg else -4)) ∧ z < 40 := by
          rw [hxk, sz_at hsh hk, hl]
          show (¬ nI (sz k) = -4 ∧ 0 ≤ z ∧ z < nI (sz k)) ∧ z < 40
          refine ⟨⟨nI_ne4 (by omega), ?_, ?_⟩, ?_⟩
          · rw [hzi]; exact nI_pos' (by omega)
          · rw [hzi]; exact nI_lt hi (by omega)
          · rw [hzi]; exact nI_lt (b := 40) (by omega) (by decide)
        have h9 := (h38.resolve_right (fun h8 => h8.1 hcd)).2
        have hl3 := s4 l hl
        rw [hcl, hzi, nI_clamp (by omega), s1, hl] at h9
        rw [← h9]
        congr 1
        unfold cutL oI
        have : l = 0 ∨ l = 1 ∨ l = 2 := by omega
        rcases this with rfl | rfl | rfl <;> rfl
      refine g_iconst C (pc := 41) 1 dX11_lay_41 (by decide) ?_
      refine g_iret C hR (pc := 42) rfl dX11_lay_42 ?_
      refine ⟨rfl, _, rfl, ?_⟩
      exact Or.inl ⟨k, ⟨hk, hxk⟩, Or.inr ⟨l, hl, Or.inr ⟨i, hi, hzi, rfl, hwr⟩⟩⟩
    · have hbad : (ln k = none ∧ v15 = 1) ∨ (∃ l, ln k = some l ∧ (¬ (0 ≤ z ∧ z < nI (sz k)) ∧ v15 = 2)) := by
        rcases hfa with h9 | ⟨l, hl, h9 | ⟨i, hi, hzi, h9⟩⟩
        · exact Or.inl h9
        · exact Or.inr ⟨l, hl, h9⟩
        · exact absurd (ev18.trans h9) c22
      refine g_bipush C (pc := 25) (-10) dX11_lay_25 (by decide) ?_
      refine g_iload C (pc := 27) dX11_lay_27 0 rfl ?_
      refine g_isub C (pc := 29) dX11_lay_29 ?_
      refine g_iret C hR (pc := 30) rfl dX11_lay_30 ?_
      refine ⟨rfl, _, rfl, ?_⟩
      refine Or.inl ⟨k, ⟨hk, hxk⟩, ?_⟩
      rcases hbad with ⟨h8, h9⟩ | ⟨l, hl, h8, h9⟩
      · exact Or.inl ⟨h8, by rw [ev18, h9]; rfl, rfl⟩
      · exact Or.inr ⟨l, hl, Or.inl ⟨h8, by rw [ev18, h9]; rfl, rfl⟩⟩
  · have hx := bI_0.mp (e1.symm.trans c4)
    refine g_iconst C (pc := 7) (-1) dX11_lay_7 (by decide) ?_
    refine g_iret C hR (pc := 8) rfl dX11_lay_8 ?_
    refine ⟨rfl, _, rfl, ?_⟩
    refine Or.inr ⟨?_, rfl, rfl⟩
    rintro ⟨k9, h1, h3⟩
    exact hx (by rw [h3]; exact ⟨nI_pos' (by omega), nI_lt (b := 4) h1 (by decide)⟩)
set_option maxHeartbeats 400000 in
theorem c_X11_count (n : Nat) (ρ : Rho) (I : Mem) (F : RT) (b : BT) (ln : Nat → Option Nat) (sz : Nat → Nat) (cl : Nat → Nat → Int32) (kp : Nat → Bool) (x : Int32) (hn9 : n ≤ 999) (hxs : XS n ρ) (hrr : RR I (1 + 1) F) (hrw : RW F) (hbr : BR I (1 + 5) F b) (hbw : BW F b) (hsh : ShR I 61 ln sz cl) (him : ∀ k, k < 2 → I 14 k = bI (kp k = true)) : MI yX11_count cX11_count 2 (some .int) 2 [.ref 0, .int x] n ρ I (fun v I1 => v = (if x = 0 then nI (ctP (fun p => decide (bP b p ≠ none)) (rN F)) else if x = 1 then I 1 6 else if x = 2 then I 1 7 else if x = 3 then bI (kp 0 = true) + bI (kp 1 = true) else if x = 4 then I 15 2 else if x = 5 then oI ((ln 0).map (fun _ => sz 0)) else if x = 6 then nI (smP (bO b) (rN F)) else -1) ∧ I = I1) := by
  refine MG.of (by decide +kernel) (Nat.le_of_ble_eq_true rfl) hn9 ?_
  intro κ C hR
  show G κ n ρ 0 [(0, .ref 0), (1, .int x)] [] I
  obtain ⟨hxc, ⟨xb1, xb2, xb3, xb4, xb5, xb6, xb8⟩, ⟨xi0, xi1, xga, xgb⟩, ⟨xt0, xt1, xgd⟩, hch, ⟨xr0, xr1, xr2⟩, xa0, ⟨xw0, xw1⟩, xst⟩ := id hxs
  obtain ⟨xc0, xcn, xc1, hga, xc7, hss⟩ := id hxc
  have xcz : 0 < n := by omega
  obtain ⟨ga0, ga1, ga2, ga3, ga4, ga5, ga6, ga7, ga8, gan, hrf, hst⟩ := id hga
  have hrf0 := hrf.1
  have hst0 := hst.1
  have hsp := hch.sp
  obtain ⟨hp0, hpn, hp1, hp2, hp3, hp4⟩ := id hsp
  have hnp : rN F ≤ 6 := hrw.2.2.2.2.1
  have hN := hrr.2.2.1
  refine g_iload_n C (pc := 0) dX11_count_0 1 rfl ?_
  refine g_tsw C (pc := 1) dX11_count_1 (by decide) (by decide) (by decide) (by decide) (swK_cons (fun c1_0 => ?_) (swK_cons (fun c1_1 => ?_) (swK_cons (fun c1_2 => ?_) (swK_cons (fun c1_3 => ?_) (swK_cons (fun c1_4 => ?_) (swK_cons (fun c1_5 => ?_) (swK_cons (fun c1_6 => ?_) swK_nil))))))) (fun c1_d => ?_)
  · show G κ n ρ 44 _ _ _
    replace c1_0 : x = 0 := c1_0
    refine g_aload_n C (pc := 44) dX11_count_44 0 rfl ?_
    refine g_getR C (pc := 45) fl_RX11_10 (by decide) (by first | assumption | rfl | omega) (by first | assumption | rfl | omega) (by first | assumption | rfl | omega) dX11_count_45 ?_
    refine g_getR C (pc := 48) fl_RX11_122 (by decide) (by first | assumption | rfl | omega) (by first | assumption | rfl | omega) (by first | assumption | rfl | omega) dX11_count_48 ?_
    refine g_aload_n C (pc := 51) dX11_count_51 0 rfl ?_
    refine g_getR C (pc := 52) fl_RX11_10 (by decide) (by first | assumption | rfl | omega) (by first | assumption | rfl | omega) (by first | assumption | rfl | omega) dX11_count_52 ?_
    refine g_getR C (pc := 55) fl_RX11_104 (by decide) (by first | assumption | rfl | omega) (by first | assumption | rfl | omega) (by first | assumption | rfl | omega) dX11_count_55 ?_
    refine g_callVI C (pc := 58) mf_X8_standing lk_RX11_337 (c_X8_standing n ρ I (1 + 5) (1 + 1) (rN F) hn9 hst hrf hN hnp) (by decide) (Nat.le_refl _) rfl (by first | assumption | rfl | omega) rfl (by first | assumption | rfl | omega) (Nat.le_of_ble_eq_true rfl) dX11_count_58 (fun v58 I58 h58 => ?_)
    obtain ⟨e58, rfl⟩ := h58
    refine g_iret C hR (pc := 61) rfl dX11_count_61 ?_
    refine ⟨rfl, _, rfl, ?_⟩
    refine ⟨?_, rfl⟩
    first | (subst c1_0; rw [e58]; show _ = nI _; congr 1; exact ctP_cong (fun p hp => by rw [(hbr.2.1 p hp).1]; have h9 := oI_none (a := bP b p) (pl_lt hbw hp); rw [Bool.eq_iff_iff, decide_eq_true_iff, decide_eq_true_iff]; exact not_congr h9)) | (subst c1_1; rfl) | (subst c1_2; rfl) | (subst c1_3; rw [if_neg (by decide), if_neg (by decide), if_neg (by decide), if_pos rfl, k0, k1]; done) | (subst c1_3; rw [if_neg (by decide), if_neg (by decide), if_neg (by decide), if_pos rfl, k0, k1]; rfl) | (subst c1_4; rfl) | (subst c1_5; exact e121.trans (sz_at (k := 0) hsh (by decide))) | (subst c1_6; rw [e139]; exact smI_nI (fun q hq => (hbr.2.1 q hq).2)) | (rw [if_neg (show ¬ x = 0 from hnd 0 (by decide)), if_neg (show ¬ x = 1 from hnd 1 (by decide)), if_neg (show ¬ x = 2 from hnd 2 (by decide)), if_neg (show ¬ x = 3 from hnd 3 (by decide)), if_neg (show ¬ x = 4 from hnd 4 (by decide)), if_neg (show ¬ x = 5 from hnd 5 (by decide)), if_neg (show ¬ x = 6 from hnd 6 (by decide))])
  · show G κ n ρ 62 _ _ _
    replace c1_1 : x = 1 := c1_1
    refine g_aload_n C (pc := 62) dX11_count_62 0 rfl ?_
    refine g_getR C (pc := 63) fl_RX11_10 (by decide) (by first | assumption | rfl | omega) (by first | assumption | rfl | omega) (by first | assumption | rfl | omega) dX11_count_63 ?_
    refine g_getI C (pc := 66) fl_RX11_268 (by decide) (by first | assumption | rfl | omega) (by first | assumption | rfl | omega) dX11_count_66 ?_
    refine g_iret C hR (pc := 69) rfl dX11_count_69 ?_
    refine ⟨rfl, _, rfl, ?_⟩
    refine ⟨?_, rfl⟩
    first | (subst c1_0; rw [e58]; show _ = nI _; congr 1; exact ctP_cong (fun p hp => by rw [(hbr.2.1 p hp).1]; have h9 := oI_none (a := bP b p) (pl_lt hbw hp); rw [Bool.eq_iff_iff, decide_eq_true_iff, decide_eq_true_iff]; exact not_congr h9)) | (subst c1_1; rfl) | (subst c1_2; rfl) | (subst c1_3; rw [if_neg (by decide), if_neg (by decide), if_neg (by decide), if_pos rfl, k0, k1]; done) | (subst c1_3; rw [if_neg (by decide), if_neg (by decide), if_neg (by decide), if_pos rfl, k0, k1]; rfl) | (subst c1_4; rfl) | (subst c1_5; exact e121.trans (sz_at (k := 0) hsh (by decide))) | (subst c1_6; rw [e139]; exact smI_nI (fun q hq => (hbr.2.1 q hq).2)) | (rw [if_neg (show ¬ x = 0 from hnd 0 (by decide)), if_neg (show ¬ x = 1 from hnd 1 (by decide)), if_neg (show ¬ x = 2 from hnd 2 (by decide)), if_neg (show ¬ x = 3 from hnd 3 (by decide)), if_neg (show ¬ x = 4 from hnd 4 (by decide)), if_neg (show ¬ x = 5 from hnd 5 (by decide)), if_neg (show ¬ x = 6 from hnd 6 (by decide))])
  · show G κ n ρ 70 _ _ _
    replace c1_2 : x = 2 := c1_2
    refine g_aload_n C (pc := 70) dX11_count_70 0 rfl ?_
    refine g_getR C (pc := 71) fl_RX11_10 (by decide) (by first | assumption | rfl | omega) (by first | assumption | rfl | omega) (by first | assumption | rfl | omega) dX11_count_71 ?_
    refine g_getI C (pc := 74) fl_RX11_280 (by decide) (by first | assumption | rfl | omega) (by first | assumption | rfl | omega) dX11_count_74 ?_
    refine g_iret C hR (pc := 77) rfl dX11_count_77 ?_
    refine ⟨rfl, _, rfl, ?_⟩
    refine ⟨?_, rfl⟩
    first | (subst c1_0; rw [e58]; show _ = nI _; congr 1; exact ctP_cong (fun p hp => by rw [(hbr.2.1 p hp).1]; have h9 := oI_none (a := bP b p) (pl_lt hbw hp); rw [Bool.eq_iff_iff, decide_eq_true_iff, decide_eq_true_iff]; exact not_congr h9)) | (subst c1_1; rfl) | (subst c1_2; rfl) | (subst c1_3; rw [if_neg (by decide), if_neg (by decide), if_neg (by decide), if_pos rfl, k0, k1]; done) | (subst c1_3; rw [if_neg (by decide), if_neg (by decide), if_neg (by decide), if_pos rfl, k0, k1]; rfl) | (subst c1_4; rfl) | (subst c1_5; exact e121.trans (sz_at (k := 0) hsh (by decide))) | (subst c1_6; rw [e139]; exact smI_nI (fun q hq => (hbr.2.1 q hq).2)) | (rw [if_neg (show ¬ x = 0 from hnd 0 (by decide)), if_neg (show ¬ x = 1 from hnd 1 (by decide)), if_neg (show ¬ x = 2 from hnd 2 (by decide)), if_neg (show ¬ x = 3 from hnd 3 (by decide)), if_neg (show ¬ x = 4 from hnd 4 (by decide)), if_neg (show ¬ x = 5 from hnd 5 (by decide)), if_neg (show ¬ x = 6 from hnd 6 (by decide))])
  · show G κ n ρ 78 _ _ _
    replace c1_3 : x = 3 := c1_3
    refine g_aload_n C (pc := 78) dX11_count_78 0 rfl ?_
    refine g_getR C (pc := 79) fl_RX11_20 (by decide) (by first | assumption | rfl | omega) (by first | assumption | rfl | omega) (by first | assumption | rfl | omega) dX11_count_79 ?_
    refine g_iconst C (pc := 82) 0 dX11_count_82 (by decide) ?_
    refine g_zald C (pc := 83) (by first | assumption | rfl | omega) (by first | assumption | rfl | omega) (vp_in_nI (n := 0) (by decide) (by decide)) dX11_count_83 ?_
    refine g_if_eq C (pc := 84) 91 dX11_count_84 (by decide) (fun c84 => ?_) (fun c84 => ?_)
    · have k0 : bI (kp 0 = true) = 0 := (him 0 (by decide)).symm.trans c84
      refine g_iconst C (pc := 91) 0 dX11_count_91 (by decide) ?_
      refine g_aload_n C (pc := 92) dX11_count_92 0 rfl ?_
      refine g_getR C (pc := 93) fl_RX11_20 (by decide) (by first | assumption | rfl | omega) (by first | assumption | rfl | omega) (by first | assumption | rfl | omega) dX11_count_93 ?_
      refine g_iconst C (pc := 96) 1 dX11_count_96 (by decide) ?_
      refine g_zald C (pc := 97) (by first | assumption | rfl | omega) (by first | assumption | rfl | omega) (vp_in_nI (n := 1) (by decide) (by decide)) dX11_count_97 ?_
      refine g_if_eq C (pc := 98) 105 dX11_count_98 (by decide) (fun c98 => ?_) (fun c98 => ?_)
      · have k1 : bI (kp 1 = true) = 0 := (him 1 (by decide)).symm.trans c98
        refine g_iconst C (pc := 105) 0 dX11_count_105 (by decide) ?_
        refine g_iadd C (pc := 106) dX11_count_106 ?_
        refine g_iret C hR (pc := 107) rfl dX11_count_107 ?_
        refine ⟨rfl, _, rfl, ?_⟩
        refine ⟨?_, rfl⟩
        first | (subst c1_0; rw [e58]; show _ = nI _; congr 1; exact ctP_cong (fun p hp => by rw [(hbr.2.1 p hp).1]; have h9 := oI_none (a := bP b p) (pl_lt hbw hp); rw [Bool.eq_iff_iff, decide_eq_true_iff, decide_eq_true_iff]; exact not_congr h9)) | (subst c1_1; rfl) | (subst c1_2; rfl) | (subst c1_3; rw [if_neg (by decide), if_neg (by decide), if_neg (by decide), if_pos rfl, k0, k1]; done) | (subst c1_3; rw [if_neg (by decide), if_neg (by decide), if_neg (by decide), if_pos rfl, k0, k1]; rfl) | (subst c1_4; rfl) | (subst c1_5; exact e121.trans (sz_at (k := 0) hsh (by decide))) | (subst c1_6; rw [e139]; exact smI_nI (fun q hq => (hbr.2.1 q hq).2)) | (rw [if_neg (show ¬ x = 0 from hnd 0 (by decide)), if_neg (show ¬ x = 1 from hnd 1 (by decide)), if_neg (show ¬ x = 2 from hnd 2 (by decide)), if_neg (show ¬ x = 3 from hnd 3 (by decide)), if_neg (show ¬ x = 4 from hnd 4 (by decide)), if_neg (show ¬ x = 5 from hnd 5 (by decide)), if_neg (show ¬ x = 6 from hnd 6 (by decide))])
      · have k1 : bI (kp 1 = true) = 1 := bI_t (bI_1.mp (fun h9 => c98 ((him 1 (by decide)).trans h9)))
        refine g_iconst C (pc := 101) 1 dX11_count_101 (by decide) ?_
        refine g_goto C (pc := 102) 106 dX11_count_102 (by decide) ?_
        refine g_iadd C (pc := 106) dX11_count_106 ?_
        refine g_iret C hR (pc := 107) rfl dX11_count_107 ?_
        refine ⟨rfl, _, rfl, ?_⟩
        refine ⟨?_, rfl⟩
        first | (subst c1_0; rw [e58]; show _ = nI _; congr 1; exact ctP_cong (fun p hp => by rw [(hbr.2.1 p hp).1]; have h9 := oI_none (a := bP b p) (pl_lt hbw hp); rw [Bool.eq_iff_iff, decide_eq_true_iff, decide_eq_true_iff]; exact not_congr h9)) | (subst c1_1; rfl) | (subst c1_2; rfl) | (subst c1_3; rw [if_neg (by decide), if_neg (by decide), if_neg (by decide), if_pos rfl, k0, k1]; done) | (subst c1_3; rw [if_neg (by decide), if_neg (by decide), if_neg (by decide), if_pos rfl, k0, k1]; rfl) | (subst c1_4; rfl) | (subst c1_5; exact e121.trans (sz_at (k := 0) hsh (by decide))) | (subst c1_6; rw [e139]; exact smI_nI (fun q hq => (hbr.2.1 q hq).2)) | (rw [if_neg (show ¬ x = 0 from hnd 0 (by decide)), if_neg (show ¬ x = 1 from hnd 1 (by decide)), if_neg (show ¬ x = 2 from hnd 2 (by decide)), if_neg (show ¬ x = 3 from hnd 3 (by decide)), if_neg (show ¬ x = 4 from hnd 4 (by decide)), if_neg (show ¬ x = 5 from hnd 5 (by decide)), if_neg (show ¬ x = 6 from hnd 6 (by decide))])
    · have k0 : bI (kp 0 = true) = 1 := bI_t (bI_1.mp (fun h9 => c84 ((him 0 (by decide)).trans h9)))
      refine g_iconst C (pc := 87) 1 dX11_count_87 (by decide) ?_
      refine g_goto C (pc := 88) 92 dX11_count_88 (by decide) ?_
      refine g_aload_n C (pc := 92) dX11_count_92 0 rfl ?_
      refine g_getR C (pc := 93) fl_RX11_20 (by decide) (by first | assumption | rfl | omega) (by first | assumption | rfl | omega) (by first | assumption | rfl | omega) dX11_count_93 ?_
      refine g_iconst C (pc := 96) 1 dX11_count_96 (by decide) ?_
      refine g_zald C (pc := 97) (by first | assumption | rfl | omega) (by first | assumption | rfl | omega) (vp_in_nI (n := 1) (by decide) (by decide)) dX11_count_97 ?_
      refine g_if_eq C (pc := 98) 105 dX11_count_98 (by decide) (fun c98 => ?_) (fun c98 => ?_)
      · have k1 : bI (kp 1 = true) = 0 := (him 1 (by decide)).symm.trans c98
        refine g_iconst C (pc := 105) 0 dX11_count_105 (by decide) ?_
        refine g_iadd C (pc := 106) dX11_count_106 ?_
        refine g_iret C hR (pc := 107) rfl dX11_count_107 ?_
        refine ⟨rfl, _, rfl, ?_⟩
        refine ⟨?_, rfl⟩
        first | (subst c1_0; rw [e58]; show _ = nI _; congr 1; exact ctP_cong (fun p hp => by rw [(hbr.2.1 p hp).1]; have h9 := oI_none (a := bP b p) (pl_lt hbw hp); rw [Bool.eq_iff_iff, decide_eq_true_iff, decide_eq_true_iff]; exact not_congr h9)) | (subst c1_1; rfl) | (subst c1_2; rfl) | (subst c1_3; rw [if_neg (by decide), if_neg (by decide), if_neg (by decide), if_pos rfl, k0, k1]; done) | (subst c1_3; rw [if_neg (by decide), if_neg (by decide), if_neg (by decide), if_pos rfl, k0, k1]; rfl) | (subst c1_4; rfl) | (subst c1_5; exact e121.trans (sz_at (k := 0) hsh (by decide))) | (subst c1_6; rw [e139]; exact smI_nI (fun q hq => (hbr.2.1 q hq).2)) | (rw [if_neg (show ¬ x = 0 from hnd 0 (by decide)), if_neg (show ¬ x = 1 from hnd 1 (by decide)), if_neg (show ¬ x = 2 from hnd 2 (by decide)), if_neg (show ¬ x = 3 from hnd 3 (by decide)), if_neg (show ¬ x = 4 from hnd 4 (by decide)), if_neg (show ¬ x = 5 from hnd 5 (by decide)), if_neg (show ¬ x = 6 from hnd 6 (by decide))])
      · have k1 : bI (kp 1 = true) = 1 := bI_t (bI_1.mp (fun h9 => c98 ((him 1 (by decide)).trans h9)))
        refine g_iconst C (pc := 101) 1 dX11_count_101 (by decide) ?_
        refine g_goto C (pc := 102) 106 dX11_count_102 (by decide) ?_
        refine g_iadd C (pc := 106) dX11_count_106 ?_
        refine g_iret C hR (pc := 107) rfl dX11_count_107 ?_
        refine ⟨rfl, _, rfl, ?_⟩
        refine ⟨?_, rfl⟩
        first | (subst c1_0; rw [e58]; show _ = nI _; congr 1; exact ctP_cong (fun p hp => by rw [(hbr.2.1 p hp).1]; have h9 := oI_none (a := bP b p) (pl_lt hbw hp); rw [Bool.eq_iff_iff, decide_eq_true_iff, decide_eq_true_iff]; exact not_congr h9)) | (subst c1_1; rfl) | (subst c1_2; rfl) | (subst c1_3; rw [if_neg (by decide), if_neg (by decide), if_neg (by decide), if_pos rfl, k0, k1]; done) | (subst c1_3; rw [if_neg (by decide), if_neg (by decide), if_neg (by decide), if_pos rfl, k0, k1]; rfl) | (subst c1_4; rfl) | (subst c1_5; exact e121.trans (sz_at (k := 0) hsh (by decide))) | (subst c1_6; rw [e139]; exact smI_nI (fun q hq => (hbr.2.1 q hq).2)) | (rw [if_neg (show ¬ x = 0 from hnd 0 (by decide)), if_neg (show ¬ x = 1 from hnd 1 (by decide)), if_neg (show ¬ x = 2 from hnd 2 (by decide)), if_neg (show ¬ x = 3 from hnd 3 (by decide)), if_neg (show ¬ x = 4 from hnd 4 (by decide)), if_neg (show ¬ x = 5 from hnd 5 (by decide)), if_neg (show ¬ x = 6 from hnd 6 (by decide))])
  · show G κ n ρ 108 _ _ _
    replace c1_4 : x = 4 := c1_4
    refine g_aload_n C (pc := 108) dX11_count_108 0 rfl ?_
    refine g_getR C (pc := 109) fl_RX11_27 (by decide) (by first | assumption | rfl | omega) (by first | assumption | rfl | omega) (by first | assumption | rfl | omega) dX11_count_109 ?_
    refine g_getI C (pc := 112) fl_RX11_77 (by decide) (by first | assumption | rfl | omega) (by first | assumption | rfl | omega) dX11_count_112 ?_
    refine g_iret C hR (pc := 115) rfl dX11_count_115 ?_
    refine ⟨rfl, _, rfl, ?_⟩
    refine ⟨?_, rfl⟩
    first | (subst c1_0; rw [e58]; show _ = nI _; congr 1; exact ctP_cong (fun p hp => by rw [(hbr.2.1 p hp).1]; have h9 := oI_none (a := bP b p) (pl_lt hbw hp); rw [Bool.eq_iff_iff, decide_eq_true_iff, decide_eq_true_iff]; exact not_congr h9)) | (subst c1_1; rfl) | (subst c1_2; rfl) | (subst c1_3; rw [if_neg (by decide), if_neg (by decide), if_neg (by decide), if_pos rfl, k0, k1]; done) | (subst c1_3; rw [if_neg (by decide), if_neg (by decide), if_neg (by decide), if_pos rfl, k0, k1]; rfl) | (subst c1_4; rfl) | (subst c1_5; exact e121.trans (sz_at (k := 0) hsh (by decide))) | (subst c1_6; rw [e139]; exact smI_nI (fun q hq => (hbr.2.1 q hq).2)) | (rw [if_neg (show ¬ x = 0 from hnd 0 (by decide)), if_neg (show ¬ x = 1 from hnd 1 (by decide)), if_neg (show ¬ x = 2 from hnd 2 (by decide)), if_neg (show ¬ x = 3 from hnd 3 (by decide)), if_neg (show ¬ x = 4 from hnd 4 (by decide)), if_neg (show ¬ x = 5 from hnd 5 (by decide)), if_neg (show ¬ x = 6 from hnd 6 (by decide))])
  · show G κ n ρ 116 _ _ _
    replace c1_5 : x = 5 := c1_5
    refine g_aload_n C (pc := 116) dX11_count_116 0 rfl ?_
    refine g_getR C (pc := 117) fl_RX11_56 (by decide) (by first | assumption | rfl | omega) (by first | assumption | rfl | omega) (by first | assumption | rfl | omega) dX11_count_117 ?_
    refine g_iconst C (pc := 120) 0 dX11_count_120 (by decide) ?_
    refine g_callVI C (pc := 121) mf_X7_sizeOf lk_RX11_340 (c_X7_sizeOf n ρ I 61 0 hn9 hss) (by decide) (Nat.le_refl _) rfl (by first | assumption | rfl | omega) rfl (by first | assumption | rfl | omega) (Nat.le_of_ble_eq_true rfl) dX11_count_121 (fun v121 I121 h121 => ?_)
    obtain ⟨e121, rfl⟩ := h121
    refine g_iret C hR (pc := 124) rfl dX11_count_124 ?_
    refine ⟨rfl, _, rfl, ?_⟩
    refine ⟨?_, rfl⟩
    first | (subst c1_0; rw [e58]; show _ = nI _; congr 1; exact ctP_cong (fun p hp => by rw [(hbr.2.1 p hp).1]; have h9 := oI_none (a := bP b p) (pl_lt hbw hp); rw [Bool.eq_iff_iff, decide_eq_true_iff, decide_eq_true_iff]; exact not_congr h9)) | (subst c1_1; rfl) | (subst c1_2; rfl) | (subst c1_3; rw [if_neg (by decide), if_neg (by decide), if_neg (by decide), if_pos rfl, k0, k1]; done) | (subst c1_3; rw [if_neg (by decide), if_neg (by decide), if_neg (by decide), if_pos rfl, k0, k1]; rfl) | (subst c1_4; rfl) | (subst c1_5; exact e121.trans (sz_at (k := 0) hsh (by decide))) | (subst c1_6; rw [e139]; exact smI_nI (fun q hq => (hbr.2.1 q hq).2)) | (rw [if_neg (show ¬ x = 0 from hnd 0 (by decide)), if_neg (show ¬ x = 1 from hnd 1 (by decide)), if_neg (show ¬ x = 2 from hnd 2 (by decide)), if_neg (show ¬ x = 3 from hnd 3 (by decide)), if_neg (show ¬ x = 4 from hnd 4 (by decide)), if_neg (show ¬ x = 5 from hnd 5 (by decide)), if_neg (show ¬ x = 6 from hnd 6 (by decide))])
  · show G κ n ρ 125 _ _ _
    replace c1_6 : x = 6 := c1_6
    refine g_aload_n C (pc := 125) dX11_count_125 0 rfl ?_
    refine g_getR C (pc := 126) fl_RX11_10 (by decide) (by first | assumption | rfl | omega) (by first | assumption | rfl | omega) (by first | assumption | rfl | omega) dX11_count_126 ?_
    refine g_getR C (pc := 129) fl_RX11_122 (by decide) (by first | assumption | rfl | omega) (by first | assumption | rfl | omega) (by first | assumption | rfl | omega) dX11_count_129 ?_
    refine g_aload_n C (pc := 132) dX11_count_132 0 rfl ?_
    refine g_getR C (pc := 133) fl_RX11_10 (by decide) (by first | assumption | rfl | omega) (by first | assumption | rfl | omega) (by first | assumption | rfl | omega) dX11_count_133 ?_
    refine g_getR C (pc := 136) fl_RX11_104 (by decide) (by first | assumption | rfl | omega) (by first | assumption | rfl | omega) (by first | assumption | rfl | omega) dX11_count_136 ?_
    refine g_callVI C (pc := 139) mf_X8_allOil lk_RX11_343 (c_X8_allOil n ρ I (1 + 5) (1 + 1) (rN F) hn9 hst hrf hN hnp) (by decide) (Nat.le_refl _) rfl (by first | assumption | rfl | omega) rfl (by first | assumption | rfl | omega) (Nat.le_of_ble_eq_true rfl) dX11_count_139 (fun v139 I139 h139 => ?_)
    obtain ⟨e139, rfl⟩ := h139
    refine g_iret C hR (pc := 142) rfl dX11_count_142 ?_
    refine ⟨rfl, _, rfl, ?_⟩
    refine ⟨?_, rfl⟩
    first | (subst c1_0; rw [e58]; show _ = nI _; congr 1; exact ctP_cong (fun p hp => by rw [(hbr.2.1 p hp).1]; have h9 := oI_none (a := bP b p) (pl_lt hbw hp); rw [Bool.eq_iff_iff, decide_eq_true_iff, decide_eq_true_iff]; exact not_congr h9)) | (subst c1_1; rfl) | (subst c1_2; rfl) | (subst c1_3; rw [if_neg (by decide), if_neg (by decide), if_neg (by decide), if_pos rfl, k0, k1]; done) | (subst c1_3; rw [if_neg (by decide), if_neg (by decide), if_neg (by decide), if_pos rfl, k0, k1]; rfl) | (subst c1_4; rfl) | (subst c1_5; exact e121.trans (sz_at (k := 0) hsh (by decide))) | (subst c1_6; rw [e139]; exact smI_nI (fun q hq => (hbr.2.1 q hq).2)) | (rw [if_neg (show ¬ x = 0 from hnd 0 (by decide)), if_neg (show ¬ x = 1 from hnd 1 (by decide)), if_neg (show ¬ x = 2 from hnd 2 (by decide)), if_neg (show ¬ x = 3 from hnd 3 (by decide)), if_neg (show ¬ x = 4 from hnd 4 (by decide)), if_neg (show ¬ x = 5 from hnd 5 (by decide)), if_neg (show ¬ x = 6 from hnd 6 (by decide))])
  · show G κ n ρ 143 _ _ _
    have hnd : ∀ q, q < 7 → x ≠ nI q := by
      intro q hq h9
      subst h9
      rcases c1_d with h8 | h8
      · exact absurd h8 (nI_pos (by omega))
      · have : ¬ nI 7 ≤ nI q := by rw [nI_leI (by decide) (by omega)]; omega
        exact this h8
    refine g_iconst C (pc := 143) (-1) dX11_count_143 (by decide) ?_
    refine g_iret C hR (pc := 144) rfl dX11_count_144 ?_
    refine ⟨rfl, _, rfl, ?_⟩
    refine ⟨?_, rfl⟩
    first | (subst c1_0; rw [e58]; show _ = nI _; congr 1; exact ctP_cong (fun p hp => by rw [(hbr.2.1 p hp).1]; have h9 := oI_none (a := bP b p) (pl_lt hbw hp); rw [Bool.eq_iff_iff, decide_eq_true_iff, decide_eq_true_iff]; exact not_congr h9)) | (subst c1_1; rfl) | (subst c1_2; rfl) | (subst c1_3; rw [if_neg (by decide), if_neg (by decide), if_neg (by decide), if_pos rfl, k0, k1]; done) | (subst c1_3; rw [if_neg (by decide), if_neg (by decide), if_neg (by decide), if_pos rfl, k0, k1]; rfl) | (subst c1_4; rfl) | (subst c1_5; exact e121.trans (sz_at (k := 0) hsh (by decide))) | (subst c1_6; rw [e139]; exact smI_nI (fun q hq => (hbr.2.1 q hq).2)) | (rw [if_neg (show ¬ x = 0 from hnd 0 (by decide)), if_neg (show ¬ x = 1 from hnd 1 (by decide)), if_neg (show ¬ x = 2 from hnd 2 (by decide)), if_neg (show ¬ x = 3 from hnd 3 (by decide)), if_neg (show ¬ x = 4 from hnd 4 (by decide)), if_neg (show ¬ x = 5 from hnd 5 (by decide)), if_neg (show ¬ x = 6 from hnd 6 (by decide))])
set_option maxHeartbeats 400000 in
theorem c_X11_end (n : Nat) (ρ : Rho) (I : Mem) (L : Nat) (x : Int32) (hn9 : n ≤ 999) (hxs : XS n ρ) (hL : I 15 2 = nI L) (hL3 : L ≤ 320) : MI yX11_end cX11_end 3 (some .int) 0 [.ref 0, .int x] n ρ I (fun v I1 => (∃ q, (q ≤ L ∧ x = nI q) ∧ v = nI L ∧ wr I 15 2 x = I1) ∨ (¬ (∃ q, (q ≤ L ∧ x = nI q)) ∧ v = -1 ∧ I = I1)) := by
  refine MG.of (by decide +kernel) (Nat.le_of_ble_eq_true rfl) hn9 ?_
  intro κ C hR
  show G κ n ρ 0 [(0, .ref 0), (1, .int x)] [] I
  obtain ⟨hxc, ⟨xb1, xb2, xb3, xb4, xb5, xb6, xb8⟩, ⟨xi0, xi1, xga, xgb⟩, ⟨xt0, xt1, xgd⟩, hch, ⟨xr0, xr1, xr2⟩, xa0, ⟨xw0, xw1⟩, xst⟩ := id hxs
  obtain ⟨xc0, xcn, xc1, hga, xc7, hss⟩ := id hxc
  have xcz : 0 < n := by omega
  obtain ⟨ga0, ga1, ga2, ga3, ga4, ga5, ga6, ga7, ga8, gan, hrf, hst⟩ := id hga
  have hrf0 := hrf.1
  have hst0 := hst.1
  have hsp := hch.sp
  obtain ⟨hp0, hpn, hp1, hp2, hp3, hp4⟩ := id hsp
  refine g_aload_n C (pc := 0) dX11_end_0 0 rfl ?_
  refine g_getR C (pc := 1) fl_RX11_27 (by decide) (by first | assumption | rfl | omega) (by first | assumption | rfl | omega) (by first | assumption | rfl | omega) dX11_end_1 ?_
  refine g_getI C (pc := 4) fl_RX11_77 (by decide) (by first | assumption | rfl | omega) (by first | assumption | rfl | omega) dX11_end_4 ?_
  refine g_istore_n C (pc := 7) dX11_end_7 (by decide) (fun v7 => [(2, .int v7), (0, .ref 0), (1, .int x)]) (fun _ => rfl) (fun v7 ev7 => ?_)
  refine g_iload_n C (pc := 8) dX11_end_8 2 rfl ?_
  refine g_if_lt C (pc := 9) 17 dX11_end_9 (by decide) (fun c9 => ?_) (fun c9 => ?_)
  · refine g_iconst C (pc := 17) (-1) dX11_end_17 (by decide) ?_
    refine g_iret C hR (pc := 18) rfl dX11_end_18 ?_
    refine ⟨rfl, _, rfl, ?_⟩
    refine Or.inr ⟨?_, rfl, rfl⟩
    rintro ⟨q9, h1, h2⟩
    first | exact absurd c9 (by rw [h2]; exact nI_pos (by omega)) | (rw [ev7, hL, h2, nI_ltI (by omega) (by omega)] at c14; omega)
  · refine g_iload_n C (pc := 12) dX11_end_12 2 rfl ?_
    refine g_iload_n C (pc := 13) dX11_end_13 0 rfl ?_
    refine g_icmp_le C (pc := 14) 19 dX11_end_14 (by decide) (fun c14 => ?_) (fun c14 => ?_)
    · refine g_aload_n C (pc := 19) dX11_end_19 1 rfl ?_
      refine g_getR C (pc := 20) fl_RX11_27 (by decide) (by first | assumption | rfl | omega) (by first | assumption | rfl | omega) (by first | assumption | rfl | omega) dX11_end_20 ?_
      refine g_iload_n C (pc := 23) dX11_end_23 2 rfl ?_
      refine g_putI C (pc := 24) fl_RX11_77 (by decide) fp_9_2 (Or.inl rfl) ⟨rfl, rfl⟩ (by first | assumption | rfl | omega) (by first | assumption | rfl | omega) hn9 dX11_end_24 ?_
      refine g_iload_n C (pc := 27) dX11_end_27 0 rfl ?_
      refine g_iret C hR (pc := 28) rfl dX11_end_28 ?_
      refine ⟨rfl, _, rfl, ?_⟩
      obtain ⟨q, hq, hxq⟩ := ix_of (x := x) (n := L + 1) (by omega) ⟨c9, by rw [ev7, hL] at c14; exact le_lt (by omega) c14⟩
      exact Or.inl ⟨q, ⟨by omega, hxq⟩, ev7.trans hL, rfl⟩
    · refine g_iconst C (pc := 17) (-1) dX11_end_17 (by decide) ?_
      refine g_iret C hR (pc := 18) rfl dX11_end_18 ?_
      refine ⟨rfl, _, rfl, ?_⟩
      refine Or.inr ⟨?_, rfl, rfl⟩
      rintro ⟨q9, h1, h2⟩
      first | exact absurd c9 (by rw [h2]; exact nI_pos (by omega)) | (rw [ev7, hL, h2, nI_ltI (by omega) (by omega)] at c14; omega)
