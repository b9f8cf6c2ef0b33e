def othN (m : Nat) (tl : Nat → Nat) (c : Nat) : Nat := ctP (fun x => decide (dig5 m c (m - 1 - x) ≠ tl (m - 1 - x))) m
def digL (m c : Nat) : List Nat := (List.range m).map (dig5 m c)
/-- the fewest told winds blown otherwise, of the first so many rows: how many, by which *)-/
def blowF (F : RT) (b : BT) (m : Nat) (tl : Nat → Nat) : Nat → Option (Nat × Nat)
  | 0 => none
  | c + 1 => match blowF F b m tl c with
    | some (f, k) => if othN m tl c < f ∧ canB F (bM b) (digL m c) b = true then some (othN m tl c, c) else some (f, k)
    | none => if canB F (bM b) (digL m c) b = true then some (othN m tl c, c) else none
def fewI : Option (Nat × Nat) → Int32
  | none => -4
  | some (f, _) => nI f
theorem othN_le (m : Nat) (tl : Nat → Nat) (c : Nat) : othN m tl c ≤ m := ctP_le _ m
theorem blowF_le {F : RT} {b : BT} {m : Nat} {tl : Nat → Nat} : ∀ {c f k : Nat}, blowF F b m tl c = some (f, k) → f ≤ m ∧ k < c
  | 0, f, k, h => by rw [blowF] at h; cases h
  | c + 1, f, k, h => by
    rw [blowF] at h
    have ho := othN_le m tl c
    cases e : blowF F b m tl c with
    | none =>
      rw [e] at h
      replace h : (if canB F (bM b) (digL m c) b = true then some (othN m tl c, c) else none) = some (f, k) := h
      split at h
      · cases h; omega
      · cases h
    | some q =>
      obtain ⟨f2, k2⟩ := q
      have := blowF_le e
      rw [e] at h
      replace h : (if othN m tl c < f2 ∧ canB F (bM b) (digL m c) b = true then some (othN m tl c, c) else some (f2, k2)) = some (f, k) := h
      split at h
      · cases h; omega
      · cases h; omega
theorem digL_get {m c q w : Nat} (h : (digL m c)[q]? = some w) : q < m ∧ w = dig5 m c q := by
  unfold digL at h
  rw [List.getElem?_map] at h
  obtain ⟨a, ha, hb⟩ := Option.map_eq_some_iff.mp h
  have h1 := (List.getElem?_eq_some_iff.mp ha).1
  rw [List.length_range] at h1
  rw [List.getElem?_range h1] at ha
  cases ha
  exact ⟨h1, hb.symm⟩
theorem cmp_ge {a b : Nat} (ha : a < 2 ^ 31) (hb : b < 2 ^ 31) : 0 ≤ lg_cmp (lN a) (lN b) ↔ b ≤ a := by
  have h := cmp_lt ha hb
  constructor
  · intro h1
    rcases Nat.lt_or_ge a b with h2 | h2
    · exact absurd (h.mpr h2) (Int32.not_lt.mpr h1)
    · exact h2
  · intro h1
    rcases Int32.lt_or_le (lg_cmp (lN a) (lN b)) 0 with h2 | h2
    · exact absurd (h.mp h2) (by omega)
    · exact h2
set_option maxHeartbeats 400000 in
theorem c_X1_find (n : Nat) (ρ : Rho) (I : Mem) (q g h m : Nat) (tl : Nat → Nat) (F : RT) (b : BT) (hn9 : n ≤ 999) (hbl0 : shp q = (11, 3)) (hbl1 : ρ q 0 = some (q + 1)) (hbl2 : ρ q 1 = some (q + 2)) (hbl3 : shp (q + 1) = (0, 3)) (hbl4 : shp (q + 2) = (0, 3)) (hbln : q + 2 < n) (hg0 : shp g = (12, 8)) (hg4 : ρ g 4 = some (g + 11)) (hg11 : shp (g + 11) = (0, 3)) (hgn : g + 11 < n) (hg1 : ρ g 0 = some (g + 1)) (hg2 : ρ g 1 = some (g + 5)) (hrf : Rf n ρ (g + 1)) (hst : St n ρ (g + 5)) (hch : Ch n ρ m h) (hrr : RR I (g + 1) F) (hrw : RW F) (hbr : BR I (g + 5) F b) (hbw : BW F b) (hm : m ≤ 3) (hgm : I g 7 = nI m) (htl : ∀ x, x < m → I (g + 11) x = nI (tl x) ∧ tl x < 5) (hgh : g + 11 + 6 * m < h) (hhq : h + 5 < q) : MV yX1_find cX1_find 7 none 21 [.ref q, .ref g, .ref h] n ρ I (fun I1 => I1 q 2 = fewI (blowF F b m tl (pw 5 m)) ∧ (∀ f k, blowF F b m tl (pw 5 m) = some (f, k) → ∀ x, x < m → I1 (q + 2) x = nI (dig5 m k x)) ∧ ∀ i, i ≠ q → i ≠ q + 1 → i ≠ q + 2 → ¬ (h - 6 * m ≤ i ∧ i ≤ h + 5) → I1 i = I i) := by
  refine MG.of (by decide +kernel) (Nat.le_of_ble_eq_true rfl) hn9 ?_
  intro κ C hR
  show G κ n ρ 0 [(0, .ref q), (1, .ref g), (2, .ref h)] [] I
  have hsp := hch.sp
  have hst0 := hst.1
  obtain ⟨hp0, hpn, hp1, hp2, hp3, hp4⟩ := id hsp
  obtain ⟨hs0, hs1, hs2, hs3, hsn, hr0, hr1, hr2⟩ := id hp4
  have hpm : pw 5 m ≤ 125 := by
    have : m = 0 ∨ m = 1 ∨ m = 2 ∨ m = 3 := by omega
    rcases this with rfl | rfl | rfl | rfl <;> decide
  refine g_aload_n C (pc := 0) dX1_find_0 0 rfl ?_
  refine g_bipush C (pc := 1) (-4) dX1_find_1 (by decide) ?_
  refine g_putI C (pc := 3) fl_RX1_18 (by decide) fp_1_2 (Or.inl rfl) ⟨rfl, rfl⟩ (by first | assumption | rfl | omega) (by first | assumption | rfl | omega) hn9 dX1_find_3 ?_
  refine g_iconst C (pc := 6) 5 dX1_find_6 (by decide) ?_
  refine g_aload_n C (pc := 7) dX1_find_7 1 rfl ?_
  refine g_getI C (pc := 8) fl_RX1_22 (by decide) (by first | assumption | rfl | omega) (by first | assumption | rfl | omega) dX1_find_8 ?_
  refine g_callSL C (pc := 11) mf_X11_power lk_RX1_27 (c_X11_power n ρ _ 5 m _ _ hn9 (by decide) (by omega) rfl (by rw [wr_n (by omega)]; exact hgm)) (by decide) (Nat.le_refl _) rfl (Nat.le_of_ble_eq_true rfl) dX1_find_11 (fun v11 I11 h11 => ?_)
  obtain ⟨e11, rfl⟩ := h11
  refine g_lstore_n C (pc := 14) dX1_find_14 (by decide) (fun v14 => [(3, .long v14), (0, .ref q), (1, .ref g), (2, .ref h)]) (fun _ => rfl) (fun v14 ev14 => ?_)
  refine g_iconst C (pc := 15) 0 dX1_find_15 (by decide) ?_
  refine g_istore C (pc := 16) dX1_find_16 (by decide) (fun v16 => [(5, .int v16), (3, .long v14), (0, .ref q), (1, .ref g), (2, .ref h)]) (fun _ => rfl) (fun v16 ev16 => ?_)
  have L18 : ∀ (k9 : Nat) (c : Nat) (wz5 : Int32) (wz3 : Int64) (J : Mem) (hw5 : wz5 = nI c) (hw3 : wz3 = lN (pw 5 m)) (hcl : c ≤ pw 5 m) (hJ : ∀ i, i ≠ q → i ≠ q + 1 → i ≠ q + 2 → ¬ (h - 6 * m ≤ i ∧ i ≤ h + 5) → J i = I i) (hF : J q 2 = fewI (blowF F b m tl c)) (hD : ∀ f k, blowF F b m tl c = some (f, k) → ∀ x, x < m → J (q + 2) x = nI (dig5 m k x)), pw 5 m - c < k9 → G κ n ρ 18 [(5, .int wz5), (3, .long wz3), (0, .ref q), (1, .ref g), (2, .ref h)] [] J := by
    intro k9
    induction k9 with
    | zero => intro c wz5 wz3 J hw5 hw3 hcl hJ hF hD hm18; exact absurd hm18 (Nat.not_lt_zero _)
    | succ k9 ih18 =>
      intro c wz5 wz3 J hw5 hw3 hcl hJ hF hD hm18
      subst hw5
      have hgJ : ∀ i, i ≤ g + 11 → J i = I i := fun i hi => hJ i (by omega) (by omega) (by omega) (by omega)
      have hrrJ : RR J (g + 1) F := hrr.cong (fun i hi => hgJ _ (by omega))
      have hbrJ : BR J (g + 5) F b := hbr.cong (fun i hi => hgJ _ (by omega))
      refine g_iload C (pc := 18) dX1_find_18 0 rfl ?_
      refine g_i2l C (pc := 20) dX1_find_20 ?_
      refine g_lload_n C (pc := 21) dX1_find_21 1 rfl ?_
      refine g_lcmp C (pc := 22) dX1_find_22 ?_
      refine g_if_ge C (pc := 23) 123 dX1_find_23 (by decide) (fun c23 => ?_) (fun c23 => ?_)
      · have hend : c = pw 5 m := by
          rw [hw3, nI_l (by omega)] at c23
          have := (cmp_ge (by omega) (by omega)).mp c23
          omega
        refine g_vret C hR (pc := 123) rfl dX1_find_123 ?_
        refine ⟨rfl, rfl, ?_⟩
        subst hend
        exact ⟨hF, hD, hJ⟩
      · have hlt : c < pw 5 m := by
          rw [hw3, nI_l (by omega)] at c23
          exact (cmp_lt (by omega) (by omega)).mp c23
        refine g_aload_n C (pc := 26) dX1_find_26 2 rfl ?_
        refine g_aload_n C (pc := 27) dX1_find_27 3 rfl ?_
        refine g_iload C (pc := 28) dX1_find_28 0 rfl ?_
        refine g_callVI C (pc := 30) mf_X1_spell lk_RX1_31 (c_X1_spell n ρ J q g c m tl _ hn9 hbl0 hbl1 hbl2 hbl3 hbl4 hbln hg0 hg4 hg11 hgn hm (by rw [hgJ g (by omega)]; exact hgm) (fun x hx => by rw [hgJ _ (by omega)]; exact htl x hx) ⟨by omega, by omega⟩ (by omega) rfl) (by decide) (Nat.le_refl _) rfl (by first | assumption | rfl | omega) rfl (by first | assumption | rfl | omega) (Nat.le_of_ble_eq_true rfl) dX1_find_30 (fun v30 I30 h30 => ?_)
        obtain ⟨e30, f30, k30, g30⟩ := h30
        have hoth : v30 = nI (othN m tl c) := e30
        have hot := othN_le m tl c
        have h30q : I30 q = J q := g30 q (by omega)
        have h30d : I30 (q + 2) = J (q + 2) := g30 (q + 2) (by omega)
        have hJ30 : ∀ i, i ≠ q → i ≠ q + 1 → i ≠ q + 2 → ¬ (h - 6 * m ≤ i ∧ i ≤ h + 5) → I30 i = I i := fun i h0 h1 h2 h3 => (g30 i h1).trans (hJ i h0 h1 h2 h3)
        refine g_istore C (pc := 33) dX1_find_33 (by decide) (fun v33 => [(6, .int v33), (5, .int (nI c)), (3, .long wz3), (0, .ref q), (1, .ref g), (2, .ref h)]) (fun _ => rfl) (fun v33 ev33 => ?_)
        refine g_aload_n C (pc := 35) dX1_find_35 3 rfl ?_
        refine g_getI C (pc := 36) fl_RX1_18 (by decide) (by first | assumption | rfl | omega) (by first | assumption | rfl | omega) dX1_find_36 ?_
        refine g_bipush C (pc := 39) (-4) dX1_find_39 (by decide) ?_
        refine g_icmp_eq C (pc := 41) 56 dX1_find_41 (by decide) (fun c41 => ?_) (fun c41 => ?_)
        · have hnone : blowF F b m tl c = none := by
            rw [h30q, hF] at c41
            cases h9 : blowF F b m tl c with
            | none => rfl
            | some z => rw [h9] at c41; exact absurd c41 (nI_ne4 (by have := (blowF_le (f := z.1) (k := z.2) h9).1; omega))
          have hgo : canB F (bM b) (digL m c) b = true → blowF F b m tl (c + 1) = some (othN m tl c, c) := fun h9 => by rw [blowF, hnone]; exact if_pos h9
          have hno9 : ¬ canB F (bM b) (digL m c) b = true → blowF F b m tl (c + 1) = blowF F b m tl c := fun h9 => by rw [blowF, hnone]; exact if_neg h9
          refine g_aload_n C (pc := 56) dX1_find_56 5 rfl ?_
          refine g_getR C (pc := 57) fl_RX1_35 (by decide) (by first | assumption | rfl | omega) (by first | assumption | rfl | omega) (by first | assumption | rfl | omega) dX1_find_57 ?_
          refine g_aload_n C (pc := 60) dX1_find_60 4 rfl ?_
          refine g_getR C (pc := 61) fl_RX1_41 (by decide) (by first | assumption | rfl | omega) (by first | assumption | rfl | omega) (by first | assumption | rfl | omega) dX1_find_61 ?_
          refine g_callVV C (pc := 64) mf_X8_copyFrom lk_RX1_42 (c_X8_copyFrom n ρ I30 (h + 1) (g + 5) hn9 hp4 hst (fun i k h1 h2 => by omega)) (by decide) (Nat.le_refl _) rfl (by first | assumption | rfl | omega) rfl (by first | assumption | rfl | omega) (Nat.le_of_ble_eq_true rfl) dX1_find_64 (fun I64 h64 => ?_)
          obtain ⟨a64, b64, d64, f64, g64⟩ := h64
          have hB64 : BR I64 (h + 1) F b := (hbr.cong (fun i hi => by rw [g30 _ (by omega), hgJ _ (by omega)])).copy hrw a64 b64 d64 f64
          have hR64 : RR I64 (g + 1) F := hrr.cong (fun i hi => by rw [g64 _ (by omega) (by omega) (by omega) (by omega), g30 _ (by omega), hgJ _ (by omega)])
          refine g_aload_n C (pc := 67) dX1_find_67 4 rfl ?_
          refine g_getR C (pc := 68) fl_RX1_48 (by decide) (by first | assumption | rfl | omega) (by first | assumption | rfl | omega) (by first | assumption | rfl | omega) dX1_find_68 ?_
          refine g_aload_n C (pc := 71) dX1_find_71 4 rfl ?_
          refine g_getR C (pc := 72) fl_RX1_41 (by decide) (by first | assumption | rfl | omega) (by first | assumption | rfl | omega) (by first | assumption | rfl | omega) dX1_find_72 ?_
          refine g_getI C (pc := 75) fl_RX1_52 (by decide) (by first | assumption | rfl | omega) (by first | assumption | rfl | omega) dX1_find_75 ?_
          refine g_aload_n C (pc := 78) dX1_find_78 5 rfl ?_
          refine g_aload_n C (pc := 79) dX1_find_79 3 rfl ?_
          refine g_getR C (pc := 80) fl_RX1_9 (by decide) (by first | assumption | rfl | omega) (by first | assumption | rfl | omega) (by first | assumption | rfl | omega) dX1_find_80 ?_
          refine g_iconst C (pc := 83) 0 dX1_find_83 (by decide) ?_
          refine g_aload_n C (pc := 84) dX1_find_84 4 rfl ?_
          refine g_getI C (pc := 85) fl_RX1_22 (by decide) (by first | assumption | rfl | omega) (by first | assumption | rfl | omega) dX1_find_85 ?_
          refine g_callSI C (pc := 88) mf_X11_canTake lk_RX1_55 (can_all m n ρ I64 (g + 1) h (bM b) (q + 1) 0 m (digL m c) F b _ _ _ hn9 hrf hch hR64 hrw hB64 hbw hbw.1 (by omega) (by omega) hbl3 (by omega) (by omega) hm (by unfold digL; rw [List.length_map, List.length_range]) (fun x w hx => by obtain ⟨h1, h2⟩ := digL_get hx; rw [h2, Nat.zero_add, g64 _ (by omega) (by omega) (by omega) (by omega)]; exact ⟨f30 x h1, by unfold dig5; exact Nat.mod_lt _ (by decide)⟩) (by rw [g64 _ (by omega) (by omega) (by omega) (by omega), g30 _ (by omega), hgJ _ (by omega)]; exact hbr.1) rfl (by rw [g64 _ (by omega) (by omega) (by omega) (by omega), g30 _ (by omega), hgJ _ (by omega)]; exact hgm)) (by omega) (Nat.le_refl _) rfl (Nat.le_of_ble_eq_true rfl) dX1_find_88 (fun v88 I88 h88 => ?_)
          obtain ⟨e88, g88⟩ := h88
          have h88 : ∀ i, ¬ (h - 6 * m ≤ i ∧ i ≤ h + 5) → I88 i = I30 i := fun i hi => (g88 i (fun e9 => hi (by unfold Sc at e9; omega))).trans (g64 i (by omega) (by omega) (by omega) (by omega))
          refine g_if_ne C (pc := 91) 97 dX1_find_91 (by decide) (fun c91 => ?_) (fun c91 => ?_)
          · have hcn : canB F (bM b) (digL m c) b = true := by
              rw [e88] at c91
              exact bI_1.mp c91
            have hstep := hgo hcn
            refine g_aload_n C (pc := 97) dX1_find_97 3 rfl ?_
            refine g_iload C (pc := 98) dX1_find_98 0 rfl ?_
            refine g_putI C (pc := 100) fl_RX1_18 (by decide) fp_1_2 (Or.inl rfl) ⟨rfl, rfl⟩ (by first | assumption | rfl | omega) (by first | assumption | rfl | omega) hn9 dX1_find_100 ?_
            refine g_aload_n C (pc := 103) dX1_find_103 3 rfl ?_
            refine g_getR C (pc := 104) fl_RX1_9 (by decide) (by first | assumption | rfl | omega) (by first | assumption | rfl | omega) (by first | assumption | rfl | omega) dX1_find_104 ?_
            refine g_iconst C (pc := 107) 0 dX1_find_107 (by decide) ?_
            refine g_aload_n C (pc := 108) dX1_find_108 3 rfl ?_
            refine g_getR C (pc := 109) fl_RX1_15 (by decide) (by first | assumption | rfl | omega) (by first | assumption | rfl | omega) (by first | assumption | rfl | omega) dX1_find_109 ?_
            refine g_iconst C (pc := 112) 0 dX1_find_112 (by decide) ?_
            refine g_iconst C (pc := 113) 3 dX1_find_113 (by decide) ?_
            refine g_copy C (pc := 114) gl_RX1_59 gw_acn gw_acs gw_aci (by first | assumption | rfl | omega) (by first | assumption | rfl | omega) (by first | assumption | rfl | omega) (by first | assumption | rfl | omega) hn9 0 0 3 rfl rfl rfl (by decide) (by decide) (by decide) (by decide) (Nat.le_of_ble_eq_true rfl) (by decide) dX1_find_114 ?_
            have hx5 : True := trivial
            refine g_iinc C (pc := 117) (1) dX1_find_117 1 rfl (by decide) (by decide) (fun v117 => [(5, .int v117), (6, .int v33), (3, .long wz3), (0, .ref q), (1, .ref g), (2, .ref h)]) (fun _ => rfl) (fun v117 ev117 => ?_)
            refine g_goto C (pc := 120) 18 dX1_find_120 (by decide) ?_
            refine g_lv C [0, 2, 3, 4, 5] rfl (ih18 (c + 1) _ _ _ ?_ ?_ ?_ ?_ ?_ ?_ (by omega))
            · subst ev117; exact nI_1 _
            · exact hw3
            · omega
            · first | exact hJ5 | (intro i h0 h1 h2 h3; rw [wrA_n h2, wr_n h0]; exact (h88 i h3).trans (hJ30 i h0 h1 h2 h3))
            · first | exact hF5 | (rw [hstep, wrA_n (by omega), wr_ss, ev33]; exact hoth)
            · first | exact hD5 | (intro f9 k9 h9 x hx; rw [hstep] at h9; cases h9; rw [wrA_s, cpy0 (by omega), wr_n (by omega), h88 _ (by omega)]; exact f30 x hx)
          · have hcn : ¬ canB F (bM b) (digL m c) b = true := by
              rw [e88] at c91
              exact bI_0.mp c91
            have hstep := hno9 hcn
            have hJ5 : ∀ i, i ≠ q → i ≠ q + 1 → i ≠ q + 2 → ¬ (h - 6 * m ≤ i ∧ i ≤ h + 5) → I88 i = I i := fun i h0 h1 h2 h3 => (h88 i h3).trans (hJ30 i h0 h1 h2 h3)
            have hF5 : I88 q 2 = fewI (blowF F b m tl (c + 1)) := by
              rw [hstep]; exact (by rw [h88 q (by omega), h30q]; exact hF)
            have hD5 : ∀ f k, blowF F b m tl (c + 1) = some (f, k) → ∀ x, x < m → I88 (q + 2) x = nI (dig5 m k x) := by
              rw [hstep]; exact (by rw [h88 (q + 2) (by omega), h30d]; exact hD)
            refine g_goto C (pc := 94) 117 dX1_find_94 (by decide) ?_
            have hx5 : True := trivial
            refine g_iinc C (pc := 117) (1) dX1_find_117 1 rfl (by decide) (by decide) (fun v117 => [(5, .int v117), (6, .int v33), (3, .long wz3), (0, .ref q), (1, .ref g), (2, .ref h)]) (fun _ => rfl) (fun v117 ev117 => ?_)
            refine g_goto C (pc := 120) 18 dX1_find_120 (by decide) ?_
            refine g_lv C [0, 2, 3, 4, 5] rfl (ih18 (c + 1) _ _ _ ?_ ?_ ?_ ?_ ?_ ?_ (by omega))
            · subst ev117; exact nI_1 _
            · exact hw3
            · omega
            · first | exact hJ5 | (intro i h0 h1 h2 h3; rw [wrA_n h2, wr_n h0]; exact (h88 i h3).trans (hJ30 i h0 h1 h2 h3))
            · first | exact hF5 | (rw [hstep, wrA_n (by omega), wr_ss, ev33]; exact hoth)
            · first | exact hD5 | (intro f9 k9 h9 x hx; rw [hstep] at h9; cases h9; rw [wrA_s, cpy0 (by omega), wr_n (by omega), h88 _ (by omega)]; exact f30 x hx)
        · obtain ⟨f, k, hsome⟩ : ∃ f k, blowF F b m tl c = some (f, k) := by
            cases h9 : blowF F b m tl c with
            | none => exact absurd (by rw [h30q, hF, h9]; rfl) c41
            | some z => exact ⟨z.1, z.2, rfl⟩
          have hfl := (blowF_le hsome).1
          refine g_iload C (pc := 44) dX1_find_44 0 rfl ?_
          refine g_aload_n C (pc := 46) dX1_find_46 3 rfl ?_
          refine g_getI C (pc := 47) fl_RX1_18 (by decide) (by first | assumption | rfl | omega) (by first | assumption | rfl | omega) dX1_find_47 ?_
          refine g_icmp_lt C (pc := 50) 56 dX1_find_50 (by decide) (fun c50 => ?_) (fun c50 => ?_)
          · have hlt2 : othN m tl c < f := by
              rw [ev33, hoth, h30q, hF, hsome] at c50
              exact (nI_ltI (by omega) (by omega)).mp c50
            have hgo : canB F (bM b) (digL m c) b = true → blowF F b m tl (c + 1) = some (othN m tl c, c) := fun h9 => by rw [blowF, hsome]; exact if_pos ⟨hlt2, h9⟩
            have hno9 : ¬ canB F (bM b) (digL m c) b = true → blowF F b m tl (c + 1) = blowF F b m tl c := fun h9 => by rw [blowF, hsome]; exact if_neg (fun h8 => h9 h8.2)
            refine g_aload_n C (pc := 56) dX1_find_56 5 rfl ?_
            refine g_getR C (pc := 57) fl_RX1_35 (by decide) (by first | assumption | rfl | omega) (by first | assumption | rfl | omega) (by first | assumption | rfl | omega) dX1_find_57 ?_
            refine g_aload_n C (pc := 60) dX1_find_60 4 rfl ?_
            refine g_getR C (pc := 61) fl_RX1_41 (by decide) (by first | assumption | rfl | omega) (by first | assumption | rfl | omega) (by first | assumption | rfl | omega) dX1_find_61 ?_
            refine g_callVV C (pc := 64) mf_X8_copyFrom lk_RX1_42 (c_X8_copyFrom n ρ I30 (h + 1) (g + 5) hn9 hp4 hst (fun i k h1 h2 => by omega)) (by decide) (Nat.le_refl _) rfl (by first | assumption | rfl | omega) rfl (by first | assumption | rfl | omega) (Nat.le_of_ble_eq_true rfl) dX1_find_64 (fun I64 h64 => ?_)
            obtain ⟨a64, b64, d64, f64, g64⟩ := h64
            have hB64 : BR I64 (h + 1) F b := (hbr.cong (fun i hi => by rw [g30 _ (by omega), hgJ _ (by omega)])).copy hrw a64 b64 d64 f64
            have hR64 : RR I64 (g + 1) F := hrr.cong (fun i hi => by rw [g64 _ (by omega) (by omega) (by omega) (by omega), g30 _ (by omega), hgJ _ (by omega)])
            refine g_aload_n C (pc := 67) dX1_find_67 4 rfl ?_
            refine g_getR C (pc := 68) fl_RX1_48 (by decide) (by first | assumption | rfl | omega) (by first | assumption | rfl | omega) (by first | assumption | rfl | omega) dX1_find_68 ?_
            refine g_aload_n C (pc := 71) dX1_find_71 4 rfl ?_
            refine g_getR C (pc := 72) fl_RX1_41 (by decide) (by first | assumption | rfl | omega) (by first | assumption | rfl | omega) (by first | assumption | rfl | omega) dX1_find_72 ?_
            refine g_getI C (pc := 75) fl_RX1_52 (by decide) (by first | assumption | rfl | omega) (by first | assumption | rfl | omega) dX1_find_75 ?_
            refine g_aload_n C (pc := 78) dX1_find_78 5 rfl ?_
            refine g_aload_n C (pc := 79) dX1_find_79 3 rfl ?_
            refine g_getR C (pc := 80) fl_RX1_9 (by decide) (by first | assumption | rfl | omega) (by first | assumption | rfl | omega) (by first | assumption | rfl | omega) dX1_find_80 ?_
            refine g_iconst C (pc := 83) 0 dX1_find_83 (by decide) ?_
            refine g_aload_n C (pc := 84) dX1_find_84 4 rfl ?_
            refine g_getI C (pc := 85) fl_RX1_22 (by decide) (by first | assumption | rfl | omega) (by first | assumption | rfl | omega) dX1_find_85 ?_
            refine g_callSI C (pc := 88) mf_X11_canTake lk_RX1_55 (can_all m n ρ I64 (g + 1) h (bM b) (q + 1) 0 m (digL m c) F b _ _ _ hn9 hrf hch hR64 hrw hB64 hbw hbw.1 (by omega) (by omega) hbl3 (by omega) (by omega) hm (by unfold digL; rw [List.length_map, List.length_range]) (fun x w hx => by obtain ⟨h1, h2⟩ := digL_get hx; rw [h2, Nat.zero_add, g64 _ (by omega) (by omega) (by omega) (by omega)]; exact ⟨f30 x h1, by unfold dig5; exact Nat.mod_lt _ (by decide)⟩) (by rw [g64 _ (by omega) (by omega) (by omega) (by omega), g30 _ (by omega), hgJ _ (by omega)]; exact hbr.1) rfl (by rw [g64 _ (by omega) (by omega) (by omega) (by omega), g30 _ (by omega), hgJ _ (by omega)]; exact hgm)) (by omega) (Nat.le_refl _) rfl (Nat.le_of_ble_eq_true rfl) dX1_find_88 (fun v88 I88 h88 => ?_)
            obtain ⟨e88, g88⟩ := h88
            have h88 : ∀ i, ¬ (h - 6 * m ≤ i ∧ i ≤ h + 5) → I88 i = I30 i := fun i hi => (g88 i (fun e9 => hi (by unfold Sc at e9; omega))).trans (g64 i (by omega) (by omega) (by omega) (by omega))
            refine g_if_ne C (pc := 91) 97 dX1_find_91 (by decide) (fun c91 => ?_) (fun c91 => ?_)
            · have hcn : canB F (bM b) (digL m c) b = true := by
                rw [e88] at c91
                exact bI_1.mp c91
              have hstep := hgo hcn
              refine g_aload_n C (pc := 97) dX1_find_97 3 rfl ?_
              refine g_iload C (pc := 98) dX1_find_98 0 rfl ?_
              refine g_putI C (pc := 100) fl_RX1_18 (by decide) fp_1_2 (Or.inl rfl) ⟨rfl, rfl⟩ (by first | assumption | rfl | omega) (by first | assumption | rfl | omega) hn9 dX1_find_100 ?_
              refine g_aload_n C (pc := 103) dX1_find_103 3 rfl ?_
              refine g_getR C (pc := 104) fl_RX1_9 (by decide) (by first | assumption | rfl | omega) (by first | assumption | rfl | omega) (by first | assumption | rfl | omega) dX1_find_104 ?_
              refine g_iconst C (pc := 107) 0 dX1_find_107 (by decide) ?_
              refine g_aload_n C (pc := 108) dX1_find_108 3 rfl ?_
              refine g_getR C (pc := 109) fl_RX1_15 (by decide) (by first | assumption | rfl | omega) (by first | assumption | rfl | omega) (by first | assumption | rfl | omega) dX1_find_109 ?_
              refine g_iconst C (pc := 112) 0 dX1_find_112 (by decide) ?_
              refine g_iconst C (pc := 113) 3 dX1_find_113 (by decide) ?_
              refine g_copy C (pc := 114) gl_RX1_59 gw_acn gw_acs gw_aci (by first | assumption | rfl | omega) (by first | assumption | rfl | omega) (by first | assumption | rfl | omega) (by first | assumption | rfl | omega) hn9 0 0 3 rfl rfl rfl (by decide) (by decide) (by decide) (by decide) (Nat.le_of_ble_eq_true rfl) (by decide) dX1_find_114 ?_
              have hx5 : True := trivial
              refine g_iinc C (pc := 117) (1) dX1_find_117 1 rfl (by decide) (by decide) (fun v117 => [(5, .int v117), (6, .int v33), (3, .long wz3), (0, .ref q), (1, .ref g), (2, .ref h)]) (fun _ => rfl) (fun v117 ev117 => ?_)
              refine g_goto C (pc := 120) 18 dX1_find_120 (by decide) ?_
              refine g_lv C [0, 2, 3, 4, 5] rfl (ih18 (c + 1) _ _ _ ?_ ?_ ?_ ?_ ?_ ?_ (by omega))
              · subst ev117; exact nI_1 _
              · exact hw3
              · omega
              · first | exact hJ5 | (intro i h0 h1 h2 h3; rw [wrA_n h2, wr_n h0]; exact (h88 i h3).trans (hJ30 i h0 h1 h2 h3))
              · first | exact hF5 | (rw [hstep, wrA_n (by omega), wr_ss, ev33]; exact hoth)
              · first | exact hD5 | (intro f9 k9 h9 x hx; rw [hstep] at h9; cases h9; rw [wrA_s, cpy0 (by omega), wr_n (by omega), h88 _ (by omega)]; exact f30 x hx)
            · have hcn : ¬ canB F (bM b) (digL m c) b = true := by
                rw [e88] at c91
                exact bI_0.mp c91
              have hstep := hno9 hcn
              have hJ5 : ∀ i, i ≠ q → i ≠ q + 1 → i ≠ q + 2 → ¬ (h - 6 * m ≤ i ∧ i ≤ h + 5) → I88 i = I i := fun i h0 h1 h2 h3 => (h88 i h3).trans (hJ30 i h0 h1 h2 h3)
              have hF5 : I88 q 2 = fewI (blowF F b m tl (c + 1)) := by
                rw [hstep]; exact (by rw [h88 q (by omega), h30q]; exact hF)
              have hD5 : ∀ f k, blowF F b m tl (c + 1) = some (f, k) → ∀ x, x < m → I88 (q + 2) x = nI (dig5 m k x) := by
                rw [hstep]; exact (by rw [h88 (q + 2) (by omega), h30d]; exact hD)
              refine g_goto C (pc := 94) 117 dX1_find_94 (by decide) ?_
              have hx5 : True := trivial
              refine g_iinc C (pc := 117) (1) dX1_find_117 1 rfl (by decide) (by decide) (fun v117 => [(5, .int v117), (6, .int v33), (3, .long wz3), (0, .ref q), (1, .ref g), (2, .ref h)]) (fun _ => rfl) (fun v117 ev117 => ?_)
              refine g_goto C (pc := 120) 18 dX1_find_120 (by decide) ?_
              refine g_lv C [0, 2, 3, 4, 5] rfl (ih18 (c + 1) _ _ _ ?_ ?_ ?_ ?_ ?_ ?_ (by omega))
              · subst ev117; exact nI_1 _
              · exact hw3
              · omega
              · first | exact hJ5 | (intro i h0 h1 h2 h3; rw [wrA_n h2, wr_n h0]; exact (h88 i h3).trans (hJ30 i h0 h1 h2 h3))
              · first | exact hF5 | (rw [hstep, wrA_n (by omega), wr_ss, ev33]; exact hoth)
              · first | exact hD5 | (intro f9 k9 h9 x hx; rw [hstep] at h9; cases h9; rw [wrA_s, cpy0 (by omega), wr_n (by omega), h88 _ (by omega)]; exact f30 x hx)
          · have hge2 : ¬ othN m tl c < f := by
              rw [ev33, hoth, h30q, hF, hsome] at c50
              have := (nI_leI (by omega) (by omega)).mp c50
              omega
            have hstep : blowF F b m tl (c + 1) = blowF F b m tl c := by rw [blowF, hsome]; exact if_neg (fun h8 => hge2 h8.1)
            have hJ5 := hJ30
            have hF5 : I30 q 2 = fewI (blowF F b m tl (c + 1)) := by
              rw [hstep]; exact (by rw [h30q]; exact hF)
            have hD5 : ∀ f k, blowF F b m tl (c + 1) = some (f, k) → ∀ x, x < m → I30 (q + 2) x = nI (dig5 m k x) := by
              rw [hstep]; exact (by rw [h30d]; exact hD)
            refine g_goto C (pc := 53) 117 dX1_find_53 (by decide) ?_
            have hx5 : True := trivial
            refine g_iinc C (pc := 117) (1) dX1_find_117 1 rfl (by decide) (by decide) (fun v117 => [(5, .int v117), (6, .int v33), (3, .long wz3), (0, .ref q), (1, .ref g), (2, .ref h)]) (fun _ => rfl) (fun v117 ev117 => ?_)
            refine g_goto C (pc := 120) 18 dX1_find_120 (by decide) ?_
            refine g_lv C [0, 2, 3, 4, 5] rfl (ih18 (c + 1) _ _ _ ?_ ?_ ?_ ?_ ?_ ?_ (by omega))
            · subst ev117; exact nI_1 _
            · exact hw3
            · omega
            · first | exact hJ5 | (intro i h0 h1 h2 h3; rw [wrA_n h2, wr_n h0]; exact (h88 i h3).trans (hJ30 i h0 h1 h2 h3))
            · first | exact hF5 | (rw [hstep, wrA_n (by omega), wr_ss, ev33]; exact hoth)
            · first | exact hD5 | (intro f9 k9 h9 x hx; rw [hstep] at h9; cases h9; rw [wrA_s, cpy0 (by omega), wr_n (by omega), h88 _ (by omega)]; exact f30 x hx)
  refine g_lv C [0, 1, 2, 3, 4] rfl (L18 (_ + 1) 0 _ _ _ ?_ ?_ ?_ ?_ ?_ ?_ (by first | omega | exact Nat.lt_succ_self _))
  · subst ev16; rfl
  · rw [ev14, e11]
  · exact Nat.zero_le _
  · intro i h1 _ _ _; exact wr_n h1
  · rw [wr_ss]; rfl
  · intro f k h9; rw [blowF] at h9; cases h9
