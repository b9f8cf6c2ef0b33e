/-! ===== a turn ===== -/
def setP (b : BT) (p : Nat) (a : Option Nat) : BT := (fun x => if x = p then a else bP b x, bO b, bM b)
def burnO (F : RT) (b : BT) (mvd : Option Nat) (p : Nat) : Nat := if mvd ≠ some p ∧ rSd F p = bM b ∧ bP b p ≠ none then bO b p - 1 else bO b p
def burnB (F : RT) (b : BT) (mvd : Option Nat) : BT := (bP b, burnO F b mvd, bM b)
def goB (F : RT) (b : BT) : Option Nat → BT
  | none => b
  | some m => setP (match pon F b (m % 100) with | some t => setP b t none | none => b) (m / 100) (some (m % 100))
def flipB (b : BT) : BT := (bP b, bO b, 1 - bM b)
def playB (F : RT) (b : BT) (wd : Nat) (mv : Option Nat) : BT := flipB (if wd = 4 then goB F b mv else burnB F (goB F b mv) (mv.map (fun m => m / 100)))
theorem setP_s {b : BT} {p : Nat} {a : Option Nat} : bP (setP b p a) p = a := if_pos rfl
theorem setP_n {b : BT} {p x : Nat} {a : Option Nat} (h : x ≠ p) : bP (setP b p a) x = bP b x := if_neg h
theorem hel_setP {F : RT} {b : BT} (hw : BW F b) {p : Nat} (hp : p < rN F) {a : Option Nat} {sd i : Nat} : helB F (setP b p a) sd i = if rSd F p = sd then ((helB F b sd i && !(bP b p == some i)) || (a == some i)) else helB F b sd i := by
  by_cases e : rSd F p = sd
  · rw [if_pos e]
    rw [Bool.eq_iff_iff]
    simp only [Bool.or_eq_true, Bool.and_eq_true, Bool.not_eq_true', beq_iff_eq, helB_t]
    constructor
    · rintro ⟨x, hx, h1, h2⟩
      by_cases ex : x = p
      · subst ex; rw [setP_s] at h2; exact Or.inr h2
      · rw [setP_n ex] at h2
        refine Or.inl ⟨⟨x, hx, h1, h2⟩, ?_⟩
        cases h3 : (bP b p == some i) with
        | false => rfl
        | true => exact absurd (hw.2.2 x p i hx hp h2 (by simpa using h3)) ex
    · rintro (⟨⟨x, hx, h1, h2⟩, h3⟩ | h2)
      · have ex : x ≠ p := by rintro rfl; rw [h2] at h3; simp at h3
        exact ⟨x, hx, h1, by rw [setP_n ex]; exact h2⟩
      · exact ⟨p, hp, e, by rw [setP_s]; exact h2⟩
  · rw [if_neg e]
    rw [Bool.eq_iff_iff]
    simp only [helB_t]
    constructor
    · rintro ⟨x, hx, h1, h2⟩
      have ex : x ≠ p := by rintro rfl; exact e h1
      rw [setP_n ex] at h2
      exact ⟨x, hx, h1, h2⟩
    · rintro ⟨x, hx, h1, h2⟩
      have ex : x ≠ p := by rintro rfl; exact e h1
      exact ⟨x, hx, h1, by rw [setP_n ex]; exact h2⟩
theorem BR.setP {I : Mem} {s : Nat} {F : RT} {b : BT} (hb : BR I s F b) (hf : RW F) (hw : BW F b) {p : Nat} (hp : p < rN F) {a : Option Nat} (ha : ∀ q, a = some q → q < 25) :
    BR (wr (wr I (s + 3) (rSd F p) ((I (s + 3) (rSd F p) &&& (bitO (I (s + 1) p) ^^^ (-1))) ||| bitO (oI a))) (s + 1) p (oI a)) s F (setP b p a) := by
  obtain ⟨h1, h2, h3⟩ := hb
  refine ⟨?_, fun x hx => ⟨?_, ?_⟩, fun sd hsd i hi => ?_⟩
  · rw [wr_n (by omega), wr_n (by omega)]; exact h1
  · by_cases e : x = p
    · subst e; rw [wr_ss, setP_s]
    · rw [wr_sn e, wr_n (by omega), setP_n e]; exact (h2 x hx).1
  · rw [wr_n (by omega), wr_n (by omega)]; exact (h2 x hx).2
  · rw [wr_n (by omega), hel_setP hw hp]
    have hs := (hf.2.2.2.2.2.1 p hp).1
    by_cases e : rSd F p = sd
    · subst e
      rw [wr_ss, if_pos rfl, or_bitO ha hi, b_and, b_xor, b_m1 i hi, h3 _ hs i hi, (h2 p hp).1, bitO_at (hw.2.1 p hp).1 hi]
      simp
    · rw [wr_sn (fun h => e h.symm), if_neg e]; exact h3 sd hsd i hi
theorem BW.setN {F : RT} {b : BT} (hw : BW F b) {p : Nat} : BW F (setP b p none) := by
  refine ⟨hw.1, fun x hx => ⟨fun q hq => ?_, (hw.2.1 x hx).2⟩, fun x y i hx hy h1 h2 => ?_⟩
  · by_cases e : x = p
    · subst e; rw [setP_s] at hq; cases hq
    · rw [setP_n e] at hq; exact (hw.2.1 x hx).1 q hq
  · have ex : x ≠ p := by rintro rfl; rw [setP_s] at h1; cases h1
    have ey : y ≠ p := by rintro rfl; rw [setP_s] at h2; cases h2
    rw [setP_n ex] at h1; rw [setP_n ey] at h2
    exact hw.2.2 x y i hx hy h1 h2
theorem BW.setS {F : RT} {b : BT} (hw : BW F b) {p q : Nat} (hq : q < 25) (hno : ∀ x, x < rN F → x ≠ p → bP b x ≠ some q) : BW F (setP b p (some q)) := by
  refine ⟨hw.1, fun x hx => ⟨fun z hz => ?_, (hw.2.1 x hx).2⟩, fun x y i hx hy h1 h2 => ?_⟩
  · by_cases e : x = p
    · subst e; rw [setP_s] at hz; cases hz; exact hq
    · rw [setP_n e] at hz; exact (hw.2.1 x hx).1 z hz
  · by_cases ex : x = p
    · by_cases ey : y = p
      · rw [ex, ey]
      · subst ex; rw [setP_s] at h1; cases h1; rw [setP_n ey] at h2; exact absurd h2 (hno y hy ey)
    · by_cases ey : y = p
      · subst ey; rw [setP_s] at h2; cases h2; rw [setP_n ex] at h1; exact absurd h1 (hno x hx ex)
      · rw [setP_n ex] at h1; rw [setP_n ey] at h2; exact hw.2.2 x y i hx hy h1 h2
theorem pon_some {F : RT} {b : BT} {q t : Nat} (h : pon F b q = some t) : t < rN F ∧ bP b t = some q := by
  obtain ⟨h1, h2, -⟩ := findP_spec h
  exact ⟨h1, by simpa using h2⟩
theorem pon_none {F : RT} {b : BT} {q : Nat} (h : pon F b q = none) : ∀ x, x < rN F → bP b x ≠ some q := fun x hx e => by
  have := findP_none' h x hx
  rw [e] at this; simp at this
def offB (F : RT) (b : BT) (q : Nat) : BT := match pon F b q with | some t => setP b t none | none => b
theorem offB_W {F : RT} {b : BT} (hw : BW F b) {q : Nat} : BW F (offB F b q) := by
  unfold offB
  split
  · exact hw.setN
  · exact hw
theorem offB_no {F : RT} {b : BT} (hw : BW F b) {q : Nat} : ∀ x, x < rN F → bP (offB F b q) x ≠ some q := by
  intro x hx
  unfold offB
  split
  · rename_i t ht
    obtain ⟨h1, h2⟩ := pon_some ht
    by_cases e : x = t
    · subst e; rw [setP_s]; exact fun h => by cases h
    · rw [setP_n e]; exact fun h => e (hw.2.2 x t q hx h1 h h2)
  · rename_i ht
    exact pon_none ht x hx
theorem goB_W {F : RT} {b : BT} (hw : BW F b) {mv : Option Nat} (hm : ∀ m, mv = some m → m / 100 < rN F ∧ m % 100 < 25) : BW F (goB F b mv) := by
  cases mv with
  | none => exact hw
  | some m => exact (offB_W hw (q := m % 100)).setS (hm m rfl).2 (fun x hx _ => offB_no hw x hx)
theorem burnO_le {F : RT} {b : BT} {mvd : Option Nat} {p : Nat} : burnO F b mvd p ≤ bO b p := by
  unfold burnO; split <;> omega
theorem burnB_W {F : RT} {b : BT} (hw : BW F b) {mvd : Option Nat} : BW F (burnB F b mvd) :=
  ⟨hw.1, fun x hx => ⟨(hw.2.1 x hx).1, Nat.le_trans burnO_le (hw.2.1 x hx).2⟩, hw.2.2⟩
theorem flipB_W {F : RT} {b : BT} (hw : BW F b) : BW F (flipB b) := ⟨by show 1 - bM b < 2; omega, hw.2.1, hw.2.2⟩
theorem playB_W {F : RT} {b : BT} (hw : BW F b) {wd : Nat} {mv : Option Nat} (hm : ∀ m, mv = some m → m / 100 < rN F ∧ m % 100 < 25) : BW F (playB F b wd mv) := by
  unfold playB
  refine flipB_W ?_
  split
  · exact goB_W hw hm
  · exact burnB_W (goB_W hw hm)
def Dis (r s : Nat) : Prop := ∀ i k, i ≤ 3 → k ≤ 3 → r + i ≠ s + k
theorem burn_at {J J1 : Mem} {s j : Nat} {F : RT} {b : BT} {mvd : Option Nat} {z : Int32} (h : (if 0 ≤ nI j ∧ nI j < 6 then wr J (s + 2) (nI j).toNatClampNeg (z - 1) else J) = J1) (hC : ∀ p, p < rN F → J (s + 2) p = nI (if p < j then burnO F b mvd p else bO b p)) (hj : j < rN F) (h6 : j < 6) (hid : mvd ≠ some j ∧ rSd F j = bM b ∧ bP b j ≠ none) (ho : 0 < bO b j) (hz : z = nI (bO b j)) : ∀ p, p < rN F → J1 (s + 2) p = nI (if p < j + 1 then burnO F b mvd p else bO b p) := by
  intro p hp
  rw [if_pos ⟨nI_pos' (by omega), nI_lt (b := 6) h6 (by decide)⟩, nI_clamp (by omega)] at h
  subst h
  by_cases e : p = j
  · subst e
    rw [wr_ss, if_pos (Nat.lt_succ_self p), hz]
    unfold burnO
    rw [if_pos hid]
    exact pk_sub (b := 1) ho
  · rw [wr_sn e, hC p hp]
    by_cases e2 : p < j
    · rw [if_pos e2, if_pos (by omega)]
    · rw [if_neg e2, if_neg (by omega)]
theorem BR.flip {I : Mem} {s : Nat} {F : RT} {b : BT} (h : BR I s F b) (hM : bM b < 2) : BR (wr I s 3 (1 - I s 3)) s F (flipB b) := by
  obtain ⟨h1, h2, h3⟩ := h
  refine ⟨?_, fun x hx => ?_, fun sd hsd i hi => ?_⟩
  · rw [wr_ss, h1]
    exact pk_sub (a := 1) (by omega)
  · rw [wr_n (by omega), wr_n (by omega)]; exact h2 x hx
  · rw [wr_n (by omega)]; exact h3 sd hsd i hi
set_option maxHeartbeats 400000 in
theorem c_X8_burn (n : Nat) (ρ : Rho) (I : Mem) (s r : Nat) (F : RT) (b : BT) (mvd : Option Nat) (x : Int32) (hn9 : n ≤ 999) (hst : St n ρ s) (hrf : Rf n ρ r) (hrr : RR I r F) (hrw : RW F) (hbr : BR I s F b) (hbw : BW F b) (hdis : Dis r s) (hmd : ∀ p, mvd = some p → p < rN F) (hx : x = oI mvd) : MV yX8_burn cX8_burn 5 none 1 [.ref s, .ref r, .int x] n ρ I (fun I1 => BR I1 s F (burnB F b mvd) ∧ ∀ i, i ≠ s + 2 → I1 i = I i) := by
  refine MG.of (by decide +kernel) (Nat.le_of_ble_eq_true rfl) hn9 ?_
  intro κ C hR
  show G κ n ρ 0 [(0, .ref s), (1, .ref r), (2, .int x)] [] I
  subst hx
  obtain ⟨hs0, hs1, hs2, hs3, hsn, hr0, hr1, hr2⟩ := id hst
  obtain ⟨hq0, hq1, hq2, hq3, hqn, ht0, ht1, ht2⟩ := id hrf
  have hnp : rN F ≤ 6 := hrw.2.2.2.2.1
  refine g_iconst C (pc := 0) 0 dX8_burn_0 (by decide) ?_
  refine g_istore_n C (pc := 1) dX8_burn_1 (by decide) (fun v1 => [(3, .int v1), (0, .ref s), (1, .ref r), (2, .int (oI mvd))]) (fun _ => rfl) (fun v1 ev1 => ?_)
  have L2 : ∀ (k9 : Nat) (j : Nat) (wz3 : Int32) (J : Mem) (hw3 : wz3 = nI j) (hj : j ≤ rN F) (hJ : ∀ i, i ≠ s + 2 → J i = I i) (hC : ∀ p, p < rN F → J (s + 2) p = nI (if p < j then burnO F b mvd p else bO b p)), rN F - j < k9 → G κ n ρ 2 [(3, .int wz3), (0, .ref s), (1, .ref r), (2, .int (oI mvd))] [] J := by
    intro k9
    induction k9 with
    | zero => intro j wz3 J hw3 hj hJ hC hm2; exact absurd hm2 (Nat.not_lt_zero _)
    | succ k9 ih2 =>
      intro j wz3 J hw3 hj hJ hC hm2
      subst hw3
      have hrrJ : RR J r F := hrr.cong (fun i hi => hJ _ (hdis i 2 hi (by decide)))
      have hNJ := hrrJ.2.2.1
      have hmJ : J s 3 = nI (bM b) := by rw [hJ s (by omega)]; exact hbr.1
      have hP : ∀ p, p < rN F → J (s + 1) p = oI (bP b p) := fun p hp => by rw [hJ _ (by omega)]; exact (hbr.2.1 p hp).1
      refine g_iload_n C (pc := 2) dX8_burn_2 0 rfl ?_
      refine g_aload_n C (pc := 3) dX8_burn_3 2 rfl ?_
      refine g_getI C (pc := 4) fl_RX8_44 (by decide) (by first | assumption | rfl | omega) (by first | assumption | rfl | omega) dX8_burn_4 ?_
      refine g_icmp_ge C (pc := 7) 75 dX8_burn_7 (by decide) (fun c7 => ?_) (fun c7 => ?_)
      · rw [hNJ, nI_leI (by omega) (by omega)] at c7
        refine g_vret C hR (pc := 75) rfl dX8_burn_75 ?_
        refine ⟨rfl, rfl, ?_⟩
        have hjn : j = rN F := by omega
        subst hjn
        refine ⟨⟨hmJ, fun p hp => ⟨hP p hp, by rw [hC p hp, if_pos hp]; rfl⟩, fun sd hsd i hi => by rw [hJ _ (by omega)]; exact hbr.2.2 sd hsd i hi⟩, hJ⟩
      · rw [hNJ, nI_ltI (by omega) (by omega)] at c7
        refine g_iload_n C (pc := 10) dX8_burn_10 0 rfl ?_
        refine g_iload_n C (pc := 11) dX8_burn_11 3 rfl ?_
        refine g_icmp_eq C (pc := 12) 41 dX8_burn_12 (by decide) (fun c12 => ?_) (fun c12 => ?_)
        · have hni : ¬ (mvd ≠ some j ∧ rSd F j = bM b ∧ bP b j ≠ none) := fun h => h.1 ((oI_nI (fun p hp => by have := hmd p hp; omega) (by omega)).mp c12.symm)
          have hfin : ∀ p, p < rN F → J (s + 2) p = nI (if p < j + 1 then burnO F b mvd p else bO b p) := by
            intro p hp
            rw [hC p hp]
            by_cases e : p = j
            · subst e
              rw [if_neg (Nat.lt_irrefl p), if_pos (Nat.lt_succ_self p)]
              congr 1; symm
              unfold burnO
              first | exact if_neg hni | (rw [if_pos hid]; omega)
            · by_cases e2 : p < j
              · rw [if_pos e2, if_pos (by omega)]
              · rw [if_neg e2, if_neg (by omega)]
          refine g_iconst C (pc := 41) 0 dX8_burn_41 (by decide) ?_
          refine g_istore C (pc := 42) dX8_burn_42 (by decide) (fun v42 => [(4, .int v42), (3, .int (nI j)), (0, .ref s), (1, .ref r), (2, .int (oI mvd))]) (fun _ => rfl) (fun v42 ev42 => ?_)
          refine g_iload C (pc := 44) dX8_burn_44 0 rfl ?_
          refine g_if_eq C (pc := 46) 69 dX8_burn_46 (by decide) (fun c46 => ?_) (fun c46 => absurd c46 (by first | decide | (subst_vars; decide)))
          
          refine g_iinc C (pc := 69) (1) dX8_burn_69 1 rfl (by decide) (by decide) (fun v69 => [(3, .int v69), (4, .int v42), (0, .ref s), (1, .ref r), (2, .int (oI mvd))]) (fun _ => rfl) (fun v69 ev69 => ?_)
          refine g_goto C (pc := 72) 2 dX8_burn_72 (by decide) ?_
          refine g_lv C [0, 2, 3, 4] rfl (ih2 (j + 1) _ _ ?_ ?_ ?_ ?_ (by omega))
          · subst ev69; exact nI_1 _
          · omega
          · first | exact hJ | (intro i hi; subst h66; split <;> first | exact hJ i hi | (rw [wr_n hi]; exact hJ i hi))
          · first | exact hfin | exact burn_at h66 hC c7 (by omega) hid ho1 (by rw [e61, at6 (N := 6) 6 rfl (by decide) (show j < 6 by omega), hC j c7, if_neg (Nat.lt_irrefl j)])
        · have hne : mvd ≠ some j := fun h => c12 (by rw [h]; rfl)
          refine g_aload_n C (pc := 15) dX8_burn_15 2 rfl ?_
          refine g_iload_n C (pc := 16) dX8_burn_16 0 rfl ?_
          refine g_callVI C (pc := 17) mf_X5_sideOf lk_RX8_31 (c_X5_sideOf n ρ J r _ hn9 hrf) (by decide) (Nat.le_refl _) rfl (by first | assumption | rfl | omega) rfl (by first | assumption | rfl | omega) (Nat.le_of_ble_eq_true rfl) dX8_burn_17 (fun v17 I17 h17 => ?_)
          obtain ⟨e17, rfl⟩ := h17
          refine g_aload_n C (pc := 20) dX8_burn_20 1 rfl ?_
          refine g_getI C (pc := 21) fl_RX8_21 (by decide) (by first | assumption | rfl | omega) (by first | assumption | rfl | omega) dX8_burn_21 ?_
          refine g_icmp_ne C (pc := 24) 41 dX8_burn_24 (by decide) (fun c24 => ?_) (fun c24 => ?_)
          · have hni : ¬ (mvd ≠ some j ∧ rSd F j = bM b ∧ bP b j ≠ none) := fun h => c24 (by rw [e17, hNJ, at66 hnp c7, (hrrJ.2.2.2.2.1 j c7).1, hmJ, h.2.1])
            have hfin : ∀ p, p < rN F → J (s + 2) p = nI (if p < j + 1 then burnO F b mvd p else bO b p) := by
              intro p hp
              rw [hC p hp]
              by_cases e : p = j
              · subst e
                rw [if_neg (Nat.lt_irrefl p), if_pos (Nat.lt_succ_self p)]
                congr 1; symm
                unfold burnO
                first | exact if_neg hni | (rw [if_pos hid]; omega)
              · by_cases e2 : p < j
                · rw [if_pos e2, if_pos (by omega)]
                · rw [if_neg e2, if_neg (by omega)]
            refine g_iconst C (pc := 41) 0 dX8_burn_41 (by decide) ?_
            refine g_istore C (pc := 42) dX8_burn_42 (by decide) (fun v42 => [(4, .int v42), (3, .int (nI j)), (0, .ref s), (1, .ref r), (2, .int (oI mvd))]) (fun _ => rfl) (fun v42 ev42 => ?_)
            refine g_iload C (pc := 44) dX8_burn_44 0 rfl ?_
            refine g_if_eq C (pc := 46) 69 dX8_burn_46 (by decide) (fun c46 => ?_) (fun c46 => absurd c46 (by first | decide | (subst_vars; decide)))
            
            refine g_iinc C (pc := 69) (1) dX8_burn_69 1 rfl (by decide) (by decide) (fun v69 => [(3, .int v69), (4, .int v42), (0, .ref s), (1, .ref r), (2, .int (oI mvd))]) (fun _ => rfl) (fun v69 ev69 => ?_)
            refine g_goto C (pc := 72) 2 dX8_burn_72 (by decide) ?_
            refine g_lv C [0, 2, 3, 4] rfl (ih2 (j + 1) _ _ ?_ ?_ ?_ ?_ (by omega))
            · subst ev69; exact nI_1 _
            · omega
            · first | exact hJ | (intro i hi; subst h66; split <;> first | exact hJ i hi | (rw [wr_n hi]; exact hJ i hi))
            · first | exact hfin | exact burn_at h66 hC c7 (by omega) hid ho1 (by rw [e61, at6 (N := 6) 6 rfl (by decide) (show j < 6 by omega), hC j c7, if_neg (Nat.lt_irrefl j)])
          · have hsm : rSd F j = bM b := by
              rw [e17, hNJ, at66 hnp c7, (hrrJ.2.2.2.2.1 j c7).1, hmJ] at c24
              exact (nI_eq (by have := (hrw.2.2.2.2.2.1 j c7).1; omega) (by have := hbw.1; omega)).mp c24
            refine g_aload_n C (pc := 27) dX8_burn_27 1 rfl ?_
            refine g_iload_n C (pc := 28) dX8_burn_28 0 rfl ?_
            refine g_callVI C (pc := 29) mf_X8_placeOf lk_RX8_47 (c_X8_placeOf n ρ J s _ hn9 hst) (by decide) (Nat.le_refl _) rfl (by first | assumption | rfl | omega) rfl (by first | assumption | rfl | omega) (Nat.le_of_ble_eq_true rfl) dX8_burn_29 (fun v29 I29 h29 => ?_)
            obtain ⟨e29, rfl⟩ := h29
            refine g_bipush C (pc := 32) (-4) dX8_burn_32 (by decide) ?_
            refine g_icmp_eq C (pc := 34) 41 dX8_burn_34 (by decide) (fun c34 => ?_) (fun c34 => ?_)
            · have hni : ¬ (mvd ≠ some j ∧ rSd F j = bM b ∧ bP b j ≠ none) := fun h => h.2.2 ((oI_none (pl_lt hbw c7)).mp (by rw [e29, at6 (N := 6) 6 rfl (by decide) (show j < 6 by omega), hP j c7] at c34; exact c34))
              have hfin : ∀ p, p < rN F → J (s + 2) p = nI (if p < j + 1 then burnO F b mvd p else bO b p) := by
                intro p hp
                rw [hC p hp]
                by_cases e : p = j
                · subst e
                  rw [if_neg (Nat.lt_irrefl p), if_pos (Nat.lt_succ_self p)]
                  congr 1; symm
                  unfold burnO
                  first | exact if_neg hni | (rw [if_pos hid]; omega)
                · by_cases e2 : p < j
                  · rw [if_pos e2, if_pos (by omega)]
                  · rw [if_neg e2, if_neg (by omega)]
              refine g_iconst C (pc := 41) 0 dX8_burn_41 (by decide) ?_
              refine g_istore C (pc := 42) dX8_burn_42 (by decide) (fun v42 => [(4, .int v42), (3, .int (nI j)), (0, .ref s), (1, .ref r), (2, .int (oI mvd))]) (fun _ => rfl) (fun v42 ev42 => ?_)
              refine g_iload C (pc := 44) dX8_burn_44 0 rfl ?_
              refine g_if_eq C (pc := 46) 69 dX8_burn_46 (by decide) (fun c46 => ?_) (fun c46 => absurd c46 (by first | decide | (subst_vars; decide)))
              
              refine g_iinc C (pc := 69) (1) dX8_burn_69 1 rfl (by decide) (by decide) (fun v69 => [(3, .int v69), (4, .int v42), (0, .ref s), (1, .ref r), (2, .int (oI mvd))]) (fun _ => rfl) (fun v69 ev69 => ?_)
              refine g_goto C (pc := 72) 2 dX8_burn_72 (by decide) ?_
              refine g_lv C [0, 2, 3, 4] rfl (ih2 (j + 1) _ _ ?_ ?_ ?_ ?_ (by omega))
              · subst ev69; exact nI_1 _
              · omega
              · first | exact hJ | (intro i hi; subst h66; split <;> first | exact hJ i hi | (rw [wr_n hi]; exact hJ i hi))
              · first | exact hfin | exact burn_at h66 hC c7 (by omega) hid ho1 (by rw [e61, at6 (N := 6) 6 rfl (by decide) (show j < 6 by omega), hC j c7, if_neg (Nat.lt_irrefl j)])
            · have hid : mvd ≠ some j ∧ rSd F j = bM b ∧ bP b j ≠ none := ⟨hne, hsm, fun h => c34 (by rw [e29, at6 (N := 6) 6 rfl (by decide) (show j < 6 by omega), hP j c7, h]; rfl)⟩
              refine g_iconst C (pc := 37) 1 dX8_burn_37 (by decide) ?_
              refine g_goto C (pc := 38) 42 dX8_burn_38 (by decide) ?_
              refine g_istore C (pc := 42) dX8_burn_42 (by decide) (fun v42 => [(4, .int v42), (3, .int (nI j)), (0, .ref s), (1, .ref r), (2, .int (oI mvd))]) (fun _ => rfl) (fun v42 ev42 => ?_)
              refine g_iload C (pc := 44) dX8_burn_44 0 rfl ?_
              refine g_if_eq C (pc := 46) 69 dX8_burn_46 (by decide) (fun c46 => absurd c46 (by first | decide | (subst_vars; decide))) (fun c46 => ?_)
              refine g_aload_n C (pc := 49) dX8_burn_49 2 rfl ?_
              refine g_iload_n C (pc := 50) dX8_burn_50 1 rfl ?_
              refine g_callVI C (pc := 51) mf_X8_oilOf lk_RX8_53 (c_X8_oilOf n ρ J s _ hn9 hst) (by decide) (Nat.le_refl _) rfl (by first | assumption | rfl | omega) rfl (by first | assumption | rfl | omega) (Nat.le_of_ble_eq_true rfl) dX8_burn_51 (fun v51 I51 h51 => ?_)
              obtain ⟨e51, rfl⟩ := h51
              refine g_if_le C (pc := 54) 69 dX8_burn_54 (by decide) (fun c54 => ?_) (fun c54 => ?_)
              · have ho0 : bO b j = 0 := by
                  rw [e51, at6 (N := 6) 6 rfl (by decide) (show j < 6 by omega), hC j c7, if_neg (Nat.lt_irrefl j), show (0 : Int32) = nI 0 from rfl, nI_leI (by have := (hbw.2.1 j c7).2; omega) (by decide)] at c54
                  omega
                have hfin : ∀ p, p < rN F → J (s + 2) p = nI (if p < j + 1 then burnO F b mvd p else bO b p) := by
                  intro p hp
                  rw [hC p hp]
                  by_cases e : p = j
                  · subst e
                    rw [if_neg (Nat.lt_irrefl p), if_pos (Nat.lt_succ_self p)]
                    congr 1; symm
                    unfold burnO
                    first | exact if_neg hni | (rw [if_pos hid]; omega)
                  · by_cases e2 : p < j
                    · rw [if_pos e2, if_pos (by omega)]
                    · rw [if_neg e2, if_neg (by omega)]
                
                refine g_iinc C (pc := 69) (1) dX8_burn_69 1 rfl (by decide) (by decide) (fun v69 => [(3, .int v69), (4, .int v42), (0, .ref s), (1, .ref r), (2, .int (oI mvd))]) (fun _ => rfl) (fun v69 ev69 => ?_)
                refine g_goto C (pc := 72) 2 dX8_burn_72 (by decide) ?_
                refine g_lv C [0, 2, 3, 4] rfl (ih2 (j + 1) _ _ ?_ ?_ ?_ ?_ (by omega))
                · subst ev69; exact nI_1 _
                · omega
                · first | exact hJ | (intro i hi; subst h66; split <;> first | exact hJ i hi | (rw [wr_n hi]; exact hJ i hi))
                · first | exact hfin | exact burn_at h66 hC c7 (by omega) hid ho1 (by rw [e61, at6 (N := 6) 6 rfl (by decide) (show j < 6 by omega), hC j c7, if_neg (Nat.lt_irrefl j)])
              · have ho1 : 0 < bO b j := by
                  rw [e51, at6 (N := 6) 6 rfl (by decide) (show j < 6 by omega), hC j c7, if_neg (Nat.lt_irrefl j), show (0 : Int32) = nI 0 from rfl, nI_ltI (by decide) (by have := (hbw.2.1 j c7).2; omega)] at c54
                  exact c54
                refine g_aload_n C (pc := 57) dX8_burn_57 2 rfl ?_
                refine g_iload_n C (pc := 58) dX8_burn_58 1 rfl ?_
                refine g_aload_n C (pc := 59) dX8_burn_59 2 rfl ?_
                refine g_iload_n C (pc := 60) dX8_burn_60 1 rfl ?_
                refine g_callVI C (pc := 61) mf_X8_oilOf lk_RX8_53 (c_X8_oilOf n ρ J s _ hn9 hst) (by decide) (Nat.le_refl _) rfl (by first | assumption | rfl | omega) rfl (by first | assumption | rfl | omega) (Nat.le_of_ble_eq_true rfl) dX8_burn_61 (fun v61 I61 h61 => ?_)
                obtain ⟨e61, rfl⟩ := h61
                refine g_iconst C (pc := 64) 1 dX8_burn_64 (by decide) ?_
                refine g_isub C (pc := 65) dX8_burn_65 ?_
                refine g_callVV C (pc := 66) mf_X8_fill lk_RX8_92 (c_X8_fill n ρ J s _ _ hn9 hst) (by decide) (Nat.le_refl _) rfl (by first | assumption | rfl | omega) rfl (by first | assumption | rfl | omega) (Nat.le_of_ble_eq_true rfl) dX8_burn_66 (fun I66 h66 => ?_)
                obtain h66 := h66
                
                refine g_iinc C (pc := 69) (1) dX8_burn_69 1 rfl (by decide) (by decide) (fun v69 => [(3, .int v69), (4, .int v42), (0, .ref s), (1, .ref r), (2, .int (oI mvd))]) (fun _ => rfl) (fun v69 ev69 => ?_)
                refine g_goto C (pc := 72) 2 dX8_burn_72 (by decide) ?_
                refine g_lv C [0, 2, 3, 4] rfl (ih2 (j + 1) _ _ ?_ ?_ ?_ ?_ (by omega))
                · subst ev69; exact nI_1 _
                · omega
                · first | exact hJ | (intro i hi; subst h66; split <;> first | exact hJ i hi | (rw [wr_n hi]; exact hJ i hi))
                · first | exact hfin | exact burn_at h66 hC c7 (by omega) hid ho1 (by rw [e61, at6 (N := 6) 6 rfl (by decide) (show j < 6 by omega), hC j c7, if_neg (Nat.lt_irrefl j)])
  refine g_lv C [0, 1, 2, 3] rfl (L2 (_ + 1) 0 _ _ ?_ ?_ ?_ ?_ (by first | omega | exact Nat.lt_succ_self _))
  · subst ev1; rfl
  · omega
  · intro i _; rfl
  · intro p hp; rw [if_neg (Nat.not_lt_zero p)]; exact (hbr.2.1 p hp).2
set_option maxHeartbeats 400000 in
theorem c_X8_settleB (n : Nat) (ρ : Rho) (I : Mem) (s r p : Nat) (F : RT) (b : BT) (a : Option Nat) (x z : Int32) (hn9 : n ≤ 999) (hst : St n ρ s) (hrf : Rf n ρ r) (hrr : RR I r F) (hrw : RW F) (hbr : BR I s F b) (hbw : BW F b) (hp : p < rN F) (ha : ∀ q, a = some q → q < 25) (hx : x = nI p) (hz : z = oI a) : MV yX8_settle cX8_settle 5 none 1 [.ref s, .ref r, .int x, .int z] n ρ I (fun I1 => BR I1 s F (setP b p a) ∧ ∀ i, i ≠ s + 1 → i ≠ s + 3 → I1 i = I i) := by
  refine MG.of (by decide +kernel) (Nat.le_of_ble_eq_true rfl) hn9 ?_
  intro κ C hR
  show G κ n ρ 0 [(0, .ref s), (1, .ref r), (2, .int x), (3, .int z)] [] I
  subst hx hz
  obtain ⟨hs0, hs1, hs2, hs3, hsn, hr0, hr1, hr2⟩ := id hst
  obtain ⟨hq0, hq1, hq2, hq3, hqn, ht0, ht1, ht2⟩ := id hrf
  have hnp : rN F ≤ 6 := hrw.2.2.2.2.1
  have hN := hrr.2.2.1
  have hsd := (hrr.2.2.2.2.1 p hp).1
  have hsd2 := (hrw.2.2.2.2.2.1 p hp).1
  refine g_aload_n C (pc := 0) dX8_settle_0 1 rfl ?_
  refine g_iload_n C (pc := 1) dX8_settle_1 2 rfl ?_
  refine g_callVI C (pc := 2) mf_X5_sideOf lk_RX8_31 (c_X5_sideOf n ρ _ _ _ hn9 (by first | assumption | rfl)) (by decide) (Nat.le_refl _) rfl (by first | assumption | rfl | omega) rfl (by first | assumption | rfl | omega) (Nat.le_of_ble_eq_true rfl) dX8_settle_2 (fun v2 I2 h2 => ?_)
  obtain ⟨e2, rfl⟩ := h2
  rw [e2, hN, at66 hnp hp, hsd]
  refine g_istore C (pc := 5) dX8_settle_5 (by decide) (fun v5 => [(4, .int v5), (0, .ref s), (1, .ref r), (2, .int (nI p)), (3, .int (oI a))]) (fun _ => rfl) (fun v5 ev5 => ?_)
  subst ev5
  refine g_iload C (pc := 7) dX8_settle_7 0 rfl ?_
  refine g_callSI C (pc := 9) mf_X11_isSide lk_RX8_37 (c_X11_isSide n ρ _ _ hn9) (by decide) (Nat.le_refl _) rfl (Nat.le_of_ble_eq_true rfl) dX8_settle_9 (fun v9 I9 h9 => ?_)
  obtain ⟨e9, rfl⟩ := h9
  refine g_if_eq C (pc := 12) 24 dX8_settle_12 (by decide) (fun c12 => ?_) (fun c12 => ?_)
  · rw [e9, bI_0] at c12; exact absurd ⟨nI_pos' (by omega), nI_lt (b := 2) hsd2 (by decide)⟩ c12
  · refine g_iload_n C (pc := 15) dX8_settle_15 3 rfl ?_
    refine g_aload_n C (pc := 16) dX8_settle_16 1 rfl ?_
    refine g_getR C (pc := 17) fl_RX8_9 (by decide) (by first | assumption | rfl | omega) (by first | assumption | rfl | omega) (by first | assumption | rfl | omega) dX8_settle_17 ?_
    refine g_alen C (pc := 20) 6 (by first | assumption | rfl | omega) (by decide) (by first | assumption | rfl | omega) rfl dX8_settle_20 ?_
    refine g_icmp_lt C (pc := 21) 25 dX8_settle_21 (by decide) (fun c21 => ?_) (fun c21 => ?_)
    · refine g_aload_n C (pc := 25) dX8_settle_25 1 rfl ?_
      refine g_getR C (pc := 26) fl_RX8_18 (by decide) (by first | assumption | rfl | omega) (by first | assumption | rfl | omega) (by first | assumption | rfl | omega) dX8_settle_26 ?_
      refine g_iload C (pc := 29) dX8_settle_29 0 rfl ?_
      refine g_aload_n C (pc := 31) dX8_settle_31 1 rfl ?_
      refine g_getR C (pc := 32) fl_RX8_18 (by decide) (by first | assumption | rfl | omega) (by first | assumption | rfl | omega) (by first | assumption | rfl | omega) dX8_settle_32 ?_
      refine g_iload C (pc := 35) dX8_settle_35 0 rfl ?_
      refine g_iald C (pc := 37) (by first | assumption | rfl | omega) (by first | assumption | rfl | omega) (vp_in_nI (by omega) (by decide)) dX8_settle_37 ?_
      refine g_aload_n C (pc := 38) dX8_settle_38 1 rfl ?_
      refine g_getR C (pc := 39) fl_RX8_9 (by decide) (by first | assumption | rfl | omega) (by first | assumption | rfl | omega) (by first | assumption | rfl | omega) dX8_settle_39 ?_
      refine g_iload_n C (pc := 42) dX8_settle_42 3 rfl ?_
      refine g_iald C (pc := 43) (by first | assumption | rfl | omega) (by first | assumption | rfl | omega) (vp_in_nI (by omega) (by decide)) dX8_settle_43 ?_
      refine g_callSI C (pc := 44) mf_X5_bitOf lk_RX8_41 (c_X5_bitOf n ρ _ _ hn9) (by decide) (Nat.le_refl _) rfl (Nat.le_of_ble_eq_true rfl) dX8_settle_44 (fun v44 I44 h44 => ?_)
      obtain ⟨e44, rfl⟩ := h44
      refine g_iconst C (pc := 47) (-1) dX8_settle_47 (by decide) ?_
      refine g_ixor C (pc := 48) dX8_settle_48 ?_
      refine g_iand C (pc := 49) dX8_settle_49 ?_
      refine g_iload_n C (pc := 50) dX8_settle_50 4 rfl ?_
      refine g_callSI C (pc := 51) mf_X5_bitOf lk_RX8_41 (c_X5_bitOf n ρ _ _ hn9) (by decide) (Nat.le_refl _) rfl (Nat.le_of_ble_eq_true rfl) dX8_settle_51 (fun v51 I51 h51 => ?_)
      obtain ⟨e51, rfl⟩ := h51
      refine g_ior C (pc := 54) dX8_settle_54 ?_
      refine g_iast C (pc := 55) (by first | assumption | rfl | omega) (by first | assumption | rfl | omega) hn9 (vp_in_nI (by omega) (by decide)) dX8_settle_55 ?_
      refine g_aload_n C (pc := 56) dX8_settle_56 1 rfl ?_
      refine g_getR C (pc := 57) fl_RX8_9 (by decide) (by first | assumption | rfl | omega) (by first | assumption | rfl | omega) (by first | assumption | rfl | omega) dX8_settle_57 ?_
      refine g_iload_n C (pc := 60) dX8_settle_60 3 rfl ?_
      refine g_iload_n C (pc := 61) dX8_settle_61 4 rfl ?_
      refine g_iast C (pc := 62) (by first | assumption | rfl | omega) (by first | assumption | rfl | omega) hn9 (vp_in_nI (by omega) (by decide)) dX8_settle_62 ?_
      refine g_vret C hR (pc := 63) rfl dX8_settle_63 ?_
      refine ⟨rfl, rfl, ?_⟩
      refine ⟨?_, fun i h1 h2 => by rw [wr_n h1, wr_n h2]⟩
      rw [nI_clamp (by omega), nI_clamp (by omega)] at *
      subst e44 e51
      exact hbr.setP hrw hbw hp ha
    · exact absurd c21 (Int32.not_le.mpr (nI_lt (b := 6) (by omega) (by decide)))
set_option maxHeartbeats 400000 in
theorem c_X8_play_m (n : Nat) (ρ : Rho) (I : Mem) (s r wd m : Nat) (F : RT) (b : BT) (x : Int32) (hn9 : n ≤ 999) (hst : St n ρ s) (hrf : Rf n ρ r) (hrr : RR I r F) (hrw : RW F) (hbr : BR I s F b) (hbw : BW F b) (hdis : Dis r s) (hwd : wd < 5) (hmp : m / 100 < rN F) (hmq : m % 100 < 25) (hx : x = nI m) : MI yX8_play cX8_play 6 (some .int) 2 [.ref s, .ref r, .int (nI wd), .int x] n ρ I (fun v I1 => v = oI (pon F b (m % 100)) ∧ BR I1 s F (playB F b wd (some m)) ∧ ∀ i, i ≠ s → i ≠ s + 1 → i ≠ s + 2 → i ≠ s + 3 → I1 i = I i) := by
  refine MG.of (by decide +kernel) (Nat.le_of_ble_eq_true rfl) hn9 ?_
  intro κ C hR
  show G κ n ρ 0 [(0, .ref s), (1, .ref r), (2, .int (nI wd)), (3, .int x)] [] I
  subst hx
  obtain ⟨hs0, hs1, hs2, hs3, hsn, hr0, hr1, hr2⟩ := id hst
  obtain ⟨hq0, hq1, hq2, hq3, hqn, ht0, ht1, ht2⟩ := id hrf
  have hnp : rN F ≤ 6 := hrw.2.2.2.2.1
  have hN := hrr.2.2.1
  have hm1 : m < 1000 := by omega
  have hdv : nI m / 100 = nI (m / 100) := pk_div (d := 100) (by omega) (by decide) (by decide)
  have hrm : nI m - nI m / 100 * 100 = nI (m % 100) := pk_rem (d := 100) (by omega) (by decide) (by decide)
  have hpr := pon_raw hbr hbw (q := m % 100) (by omega)
  have hWg : BW F (goB F b (some m)) := goB_W hbw (by intro z hz; cases hz; exact ⟨hmp, hmq⟩)
  refine g_iload_n C (pc := 0) dX8_play_0 3 rfl ?_
  refine g_if_lt C (pc := 1) 11 dX8_play_1 (by decide) (fun c1 => ?_) (fun c1 => ?_)
  · exact absurd c1 (nI_pos (by omega))
  · refine g_iload_n C (pc := 4) dX8_play_4 3 rfl ?_
    refine g_bipush C (pc := 5) 100 dX8_play_5 (by decide) ?_
    refine g_idiv C (pc := 7) dX8_play_7 (by first | assumption | decide) ?_
    refine g_goto C (pc := 8) 13 dX8_play_8 (by decide) ?_
    rw [hdv]
    refine g_istore C (pc := 13) dX8_play_13 (by decide) (fun v13 => [(4, .int v13), (0, .ref s), (1, .ref r), (2, .int (nI wd)), (3, .int (nI m))]) (fun _ => rfl) (fun v13 ev13 => ?_)
    refine g_iload_n C (pc := 15) dX8_play_15 4 rfl ?_
    refine g_if_lt C (pc := 16) 31 dX8_play_16 (by decide) (fun c16 => ?_) (fun c16 => ?_)
    · exact absurd c16 (nI_pos (by omega))
    · refine g_aload_n C (pc := 19) dX8_play_19 1 rfl ?_
      refine g_aload_n C (pc := 20) dX8_play_20 2 rfl ?_
      refine g_iload_n C (pc := 21) dX8_play_21 4 rfl ?_
      refine g_bipush C (pc := 22) 100 dX8_play_22 (by decide) ?_
      refine g_irem C (pc := 24) dX8_play_24 (by first | assumption | decide) ?_
      rw [hrm]
      refine g_callVI C (pc := 25) mf_X8_pieceOn lk_RX8_80 (c_X8_pieceOn n ρ I s r (rN F) _ hn9 hst hrf hN hnp) (by decide) (Nat.le_refl _) rfl (by first | assumption | rfl | omega) rfl (by first | assumption | rfl | omega) (Nat.le_of_ble_eq_true rfl) dX8_play_25 (fun v25 I25 h25 => ?_)
      obtain ⟨e25, rfl⟩ := h25
      refine g_goto C (pc := 28) 33 dX8_play_28 (by decide) ?_
      refine g_istore C (pc := 33) dX8_play_33 (by decide) (fun v33 => [(5, .int v33), (4, .int v13), (0, .ref s), (1, .ref r), (2, .int (nI wd)), (3, .int (nI m))]) (fun _ => rfl) (fun v33 ev33 => ?_)
      refine g_iload C (pc := 35) dX8_play_35 0 rfl ?_
      refine g_bipush C (pc := 37) (-4) dX8_play_37 (by decide) ?_
      refine g_icmp_eq C (pc := 39) 51 dX8_play_39 (by decide) (fun c39 => ?_) (fun c39 => ?_)
      · have hpn : pon F b (m % 100) = none := by
          rw [ev33, e25, hpr] at c39
          exact (oI_none (fun z hz => by have := (pon_some hz).1; omega)).mp c39
        have hB1 : BR I s F (offB F b (m % 100)) := by unfold offB; rw [hpn]; exact hbr
        have hR1 := hrr
        have hF1 : ∀ i, i ≠ s + 1 → i ≠ s + 3 → I i = I i := fun i _ _ => rfl
        refine g_iload C (pc := 51) dX8_play_51 1 rfl ?_
        refine g_bipush C (pc := 53) (-4) dX8_play_53 (by decide) ?_
        refine g_icmp_eq C (pc := 55) 69 dX8_play_55 (by decide) (fun c55 => ?_) (fun c55 => ?_)
        · exact absurd (ev13.symm.trans c55) (nI_ne4 (by omega))
        · refine g_aload_n C (pc := 58) dX8_play_58 2 rfl ?_
          refine g_aload_n C (pc := 59) dX8_play_59 3 rfl ?_
          refine g_iload C (pc := 60) dX8_play_60 1 rfl ?_
          refine g_iload_n C (pc := 62) dX8_play_62 5 rfl ?_
          refine g_bipush C (pc := 63) 100 dX8_play_63 (by decide) ?_
          refine g_irem C (pc := 65) dX8_play_65 (by first | assumption | decide) ?_
          refine g_callVV C (pc := 66) mf_X8_settle lk_RX8_84 (c_X8_settleB n ρ _ s r (m / 100) F (offB F b (m % 100)) (some (m % 100)) _ _ hn9 hst hrf hR1 hrw hB1 (offB_W hbw) hmp (by intro z hz; cases hz; exact hmq) ev13 hrm) (by decide) (Nat.le_refl _) rfl (by first | assumption | rfl | omega) rfl (by first | assumption | rfl | omega) (Nat.le_of_ble_eq_true rfl) dX8_play_66 (fun I66 h66 => ?_)
          obtain ⟨h66, g66⟩ := h66
          have hR2 : RR I66 r F := by
            refine hR1.cong (fun i hi => g66 _ (hdis i 1 hi (by decide)) (hdis i 3 hi (by decide)))
          have hF2 : ∀ i, i ≠ s → i ≠ s + 1 → i ≠ s + 2 → i ≠ s + 3 → I66 i = I i := fun i _ h1 _ h3 => (g66 i h1 h3).trans (hF1 i h1 h3)
          refine g_iload_n C (pc := 69) dX8_play_69 4 rfl ?_
          refine g_iconst C (pc := 70) 4 dX8_play_70 (by decide) ?_
          refine g_icmp_eq C (pc := 71) 81 dX8_play_71 (by decide) (fun c71 => ?_) (fun c71 => ?_)
          · have hwd4 : wd = 4 := (nI_eq (by omega) (by decide)).mp c71
            have hF : BR I66 s F (goB F b (some m)) := h66
            have hK := hF2
            refine g_aload_n C (pc := 81) dX8_play_81 2 rfl ?_
            refine g_iconst C (pc := 82) 1 dX8_play_82 (by decide) ?_
            refine g_aload_n C (pc := 83) dX8_play_83 2 rfl ?_
            refine g_getI C (pc := 84) fl_RX8_21 (by decide) (by first | assumption | rfl | omega) (by first | assumption | rfl | omega) dX8_play_84 ?_
            refine g_isub C (pc := 87) dX8_play_87 ?_
            refine g_putI C (pc := 88) fl_RX8_21 (by decide) fp_7_3 (Or.inl rfl) ⟨rfl, rfl⟩ (by first | assumption | rfl | omega) (by first | assumption | rfl | omega) hn9 dX8_play_88 ?_
            refine g_iload C (pc := 91) dX8_play_91 0 rfl ?_
            refine g_iret C hR (pc := 93) rfl dX8_play_93 ?_
            refine ⟨rfl, _, rfl, ?_⟩
            refine ⟨by rw [ev33, e25, hpr], ?_, fun i h0 h1 h2 h3 => (wr_n h0).trans (hK i h0 h1 h2 h3)⟩
            unfold playB
            first | rw [if_pos hwd4] | rw [if_neg hwd4]
            exact hF.flip (by first | exact hWg.1 | exact (burnB_W hWg).1)
          · have hwd4 : wd ≠ 4 := fun h => c71 (by rw [h]; rfl)
            refine g_aload_n C (pc := 74) dX8_play_74 2 rfl ?_
            refine g_aload_n C (pc := 75) dX8_play_75 3 rfl ?_
            refine g_iload C (pc := 76) dX8_play_76 1 rfl ?_
            refine g_callVV C (pc := 78) mf_X8_burn lk_RX8_88 (c_X8_burn n ρ I66 s r F (goB F b (some m)) (some (m / 100)) _ hn9 hst hrf hR2 hrw h66 (goB_W hbw (by intro z hz; cases hz; exact ⟨hmp, hmq⟩)) hdis (by intro z hz; cases hz; exact hmp) ev13) (by decide) (Nat.le_refl _) rfl (by first | assumption | rfl | omega) rfl (by first | assumption | rfl | omega) (Nat.le_of_ble_eq_true rfl) dX8_play_78 (fun I78 h78 => ?_)
            obtain ⟨h78, g78⟩ := h78
            have hF := h78
            have hK : ∀ i, i ≠ s → i ≠ s + 1 → i ≠ s + 2 → i ≠ s + 3 → I78 i = I i := fun i h0 h1 h2 h3 => (g78 i h2).trans (hF2 i h0 h1 h2 h3)
            refine g_aload_n C (pc := 81) dX8_play_81 2 rfl ?_
            refine g_iconst C (pc := 82) 1 dX8_play_82 (by decide) ?_
            refine g_aload_n C (pc := 83) dX8_play_83 2 rfl ?_
            refine g_getI C (pc := 84) fl_RX8_21 (by decide) (by first | assumption | rfl | omega) (by first | assumption | rfl | omega) dX8_play_84 ?_
            refine g_isub C (pc := 87) dX8_play_87 ?_
            refine g_putI C (pc := 88) fl_RX8_21 (by decide) fp_7_3 (Or.inl rfl) ⟨rfl, rfl⟩ (by first | assumption | rfl | omega) (by first | assumption | rfl | omega) hn9 dX8_play_88 ?_
            refine g_iload C (pc := 91) dX8_play_91 0 rfl ?_
            refine g_iret C hR (pc := 93) rfl dX8_play_93 ?_
            refine ⟨rfl, _, rfl, ?_⟩
            refine ⟨by rw [ev33, e25, hpr], ?_, fun i h0 h1 h2 h3 => (wr_n h0).trans (hK i h0 h1 h2 h3)⟩
            unfold playB
            first | rw [if_pos hwd4] | rw [if_neg hwd4]
            exact hF.flip (by first | exact hWg.1 | exact (burnB_W hWg).1)
      · obtain ⟨t, ht⟩ : ∃ t, pon F b (m % 100) = some t := by
          cases h : pon F b (m % 100) with
          | none => exact absurd (by rw [ev33, e25, hpr, h]; rfl) c39
          | some t => exact ⟨t, rfl⟩
        refine g_aload_n C (pc := 42) dX8_play_42 2 rfl ?_
        refine g_aload_n C (pc := 43) dX8_play_43 3 rfl ?_
        refine g_iload C (pc := 44) dX8_play_44 0 rfl ?_
        refine g_bipush C (pc := 46) (-4) dX8_play_46 (by decide) ?_
        refine g_callVV C (pc := 48) mf_X8_settle lk_RX8_84 (c_X8_settleB n ρ I s r t F b none _ _ hn9 hst hrf hrr hrw hbr hbw (pon_some ht).1 (by intro z hz; cases hz) (by rw [ev33, e25, hpr, ht]; rfl) rfl) (by decide) (Nat.le_refl _) rfl (by first | assumption | rfl | omega) rfl (by first | assumption | rfl | omega) (Nat.le_of_ble_eq_true rfl) dX8_play_48 (fun I48 h48 => ?_)
        obtain ⟨h48, g48⟩ := h48
        have hB1 : BR I48 s F (offB F b (m % 100)) := by unfold offB; rw [ht]; exact h48
        have hR1 : RR I48 r F := (hrr.cong (fun i hi => g48 _ (hdis i 1 hi (by decide)) (hdis i 3 hi (by decide))))
        have hF1 := g48
        refine g_iload C (pc := 51) dX8_play_51 1 rfl ?_
        refine g_bipush C (pc := 53) (-4) dX8_play_53 (by decide) ?_
        refine g_icmp_eq C (pc := 55) 69 dX8_play_55 (by decide) (fun c55 => ?_) (fun c55 => ?_)
        · exact absurd (ev13.symm.trans c55) (nI_ne4 (by omega))
        · refine g_aload_n C (pc := 58) dX8_play_58 2 rfl ?_
          refine g_aload_n C (pc := 59) dX8_play_59 3 rfl ?_
          refine g_iload C (pc := 60) dX8_play_60 1 rfl ?_
          refine g_iload_n C (pc := 62) dX8_play_62 5 rfl ?_
          refine g_bipush C (pc := 63) 100 dX8_play_63 (by decide) ?_
          refine g_irem C (pc := 65) dX8_play_65 (by first | assumption | decide) ?_
          refine g_callVV C (pc := 66) mf_X8_settle lk_RX8_84 (c_X8_settleB n ρ _ s r (m / 100) F (offB F b (m % 100)) (some (m % 100)) _ _ hn9 hst hrf hR1 hrw hB1 (offB_W hbw) hmp (by intro z hz; cases hz; exact hmq) ev13 hrm) (by decide) (Nat.le_refl _) rfl (by first | assumption | rfl | omega) rfl (by first | assumption | rfl | omega) (Nat.le_of_ble_eq_true rfl) dX8_play_66 (fun I66 h66 => ?_)
          obtain ⟨h66, g66⟩ := h66
          have hR2 : RR I66 r F := by
            refine hR1.cong (fun i hi => g66 _ (hdis i 1 hi (by decide)) (hdis i 3 hi (by decide)))
          have hF2 : ∀ i, i ≠ s → i ≠ s + 1 → i ≠ s + 2 → i ≠ s + 3 → I66 i = I i := fun i _ h1 _ h3 => (g66 i h1 h3).trans (hF1 i h1 h3)
          refine g_iload_n C (pc := 69) dX8_play_69 4 rfl ?_
          refine g_iconst C (pc := 70) 4 dX8_play_70 (by decide) ?_
          refine g_icmp_eq C (pc := 71) 81 dX8_play_71 (by decide) (fun c71 => ?_) (fun c71 => ?_)
          · have hwd4 : wd = 4 := (nI_eq (by omega) (by decide)).mp c71
            have hF : BR I66 s F (goB F b (some m)) := h66
            have hK := hF2
            refine g_aload_n C (pc := 81) dX8_play_81 2 rfl ?_
            refine g_iconst C (pc := 82) 1 dX8_play_82 (by decide) ?_
            refine g_aload_n C (pc := 83) dX8_play_83 2 rfl ?_
            refine g_getI C (pc := 84) fl_RX8_21 (by decide) (by first | assumption | rfl | omega) (by first | assumption | rfl | omega) dX8_play_84 ?_
            refine g_isub C (pc := 87) dX8_play_87 ?_
            refine g_putI C (pc := 88) fl_RX8_21 (by decide) fp_7_3 (Or.inl rfl) ⟨rfl, rfl⟩ (by first | assumption | rfl | omega) (by first | assumption | rfl | omega) hn9 dX8_play_88 ?_
            refine g_iload C (pc := 91) dX8_play_91 0 rfl ?_
            refine g_iret C hR (pc := 93) rfl dX8_play_93 ?_
            refine ⟨rfl, _, rfl, ?_⟩
            refine ⟨by rw [ev33, e25, hpr], ?_, fun i h0 h1 h2 h3 => (wr_n h0).trans (hK i h0 h1 h2 h3)⟩
            unfold playB
            first | rw [if_pos hwd4] | rw [if_neg hwd4]
            exact hF.flip (by first | exact hWg.1 | exact (burnB_W hWg).1)
          · have hwd4 : wd ≠ 4 := fun h => c71 (by rw [h]; rfl)
            refine g_aload_n C (pc := 74) dX8_play_74 2 rfl ?_
            refine g_aload_n C (pc := 75) dX8_play_75 3 rfl ?_
            refine g_iload C (pc := 76) dX8_play_76 1 rfl ?_
            refine g_callVV C (pc := 78) mf_X8_burn lk_RX8_88 (c_X8_burn n ρ I66 s r F (goB F b (some m)) (some (m / 100)) _ hn9 hst hrf hR2 hrw h66 (goB_W hbw (by intro z hz; cases hz; exact ⟨hmp, hmq⟩)) hdis (by intro z hz; cases hz; exact hmp) ev13) (by decide) (Nat.le_refl _) rfl (by first | assumption | rfl | omega) rfl (by first | assumption | rfl | omega) (Nat.le_of_ble_eq_true rfl) dX8_play_78 (fun I78 h78 => ?_)
            obtain ⟨h78, g78⟩ := h78
            have hF := h78
            have hK : ∀ i, i ≠ s → i ≠ s + 1 → i ≠ s + 2 → i ≠ s + 3 → I78 i = I i := fun i h0 h1 h2 h3 => (g78 i h2).trans (hF2 i h0 h1 h2 h3)
            refine g_aload_n C (pc := 81) dX8_play_81 2 rfl ?_
            refine g_iconst C (pc := 82) 1 dX8_play_82 (by decide) ?_
            refine g_aload_n C (pc := 83) dX8_play_83 2 rfl ?_
            refine g_getI C (pc := 84) fl_RX8_21 (by decide) (by first | assumption | rfl | omega) (by first | assumption | rfl | omega) dX8_play_84 ?_
            refine g_isub C (pc := 87) dX8_play_87 ?_
            refine g_putI C (pc := 88) fl_RX8_21 (by decide) fp_7_3 (Or.inl rfl) ⟨rfl, rfl⟩ (by first | assumption | rfl | omega) (by first | assumption | rfl | omega) hn9 dX8_play_88 ?_
            refine g_iload C (pc := 91) dX8_play_91 0 rfl ?_
            refine g_iret C hR (pc := 93) rfl dX8_play_93 ?_
            refine ⟨rfl, _, rfl, ?_⟩
            refine ⟨by rw [ev33, e25, hpr], ?_, fun i h0 h1 h2 h3 => (wr_n h0).trans (hK i h0 h1 h2 h3)⟩
            unfold playB
            first | rw [if_pos hwd4] | rw [if_neg hwd4]
            exact hF.flip (by first | exact hWg.1 | exact (burnB_W hWg).1)
set_option maxHeartbeats 400000 in
theorem c_X8_play_n (n : Nat) (ρ : Rho) (I : Mem) (s r wd : Nat) (F : RT) (b : BT) (x : Int32) (hn9 : n ≤ 999) (hst : St n ρ s) (hrf : Rf n ρ r) (hrr : RR I r F) (hrw : RW F) (hbr : BR I s F b) (hbw : BW F b) (hdis : Dis r s) (hwd : wd < 5) (hx : x = -4) : MI yX8_play cX8_play 6 (some .int) 2 [.ref s, .ref r, .int (nI wd), .int x] n ρ I (fun v I1 => v = -4 ∧ BR I1 s F (playB F b wd none) ∧ ∀ i, i ≠ s → i ≠ s + 1 → i ≠ s + 2 → i ≠ s + 3 → I1 i = I i) := by
  refine MG.of (by decide +kernel) (Nat.le_of_ble_eq_true rfl) hn9 ?_
  intro κ C hR
  show G κ n ρ 0 [(0, .ref s), (1, .ref r), (2, .int (nI wd)), (3, .int x)] [] I
  subst hx
  obtain ⟨hs0, hs1, hs2, hs3, hsn, hr0, hr1, hr2⟩ := id hst
  obtain ⟨hq0, hq1, hq2, hq3, hqn, ht0, ht1, ht2⟩ := id hrf
  refine g_iload_n C (pc := 0) dX8_play_0 3 rfl ?_
  refine g_if_lt C (pc := 1) 11 dX8_play_1 (by decide) (fun c1 => ?_) (fun c1 => ?_)
  · refine g_bipush C (pc := 11) (-4) dX8_play_11 (by decide) ?_
    refine g_istore C (pc := 13) dX8_play_13 (by decide) (fun v13 => [(4, .int v13), (0, .ref s), (1, .ref r), (2, .int (nI wd)), (3, .int (-4))]) (fun _ => rfl) (fun v13 ev13 => ?_)
    refine g_iload_n C (pc := 15) dX8_play_15 4 rfl ?_
    refine g_if_lt C (pc := 16) 31 dX8_play_16 (by decide) (fun c16 => ?_) (fun c16 => ?_)
    · refine g_bipush C (pc := 31) (-4) dX8_play_31 (by decide) ?_
      refine g_istore C (pc := 33) dX8_play_33 (by decide) (fun v33 => [(5, .int v33), (4, .int v13), (0, .ref s), (1, .ref r), (2, .int (nI wd)), (3, .int (-4))]) (fun _ => rfl) (fun v33 ev33 => ?_)
      refine g_iload C (pc := 35) dX8_play_35 0 rfl ?_
      refine g_bipush C (pc := 37) (-4) dX8_play_37 (by decide) ?_
      refine g_icmp_eq C (pc := 39) 51 dX8_play_39 (by decide) (fun c39 => ?_) (fun c39 => ?_)
      · refine g_iload C (pc := 51) dX8_play_51 1 rfl ?_
        refine g_bipush C (pc := 53) (-4) dX8_play_53 (by decide) ?_
        refine g_icmp_eq C (pc := 55) 69 dX8_play_55 (by decide) (fun c55 => ?_) (fun c55 => ?_)
        · refine g_iload_n C (pc := 69) dX8_play_69 4 rfl ?_
          refine g_iconst C (pc := 70) 4 dX8_play_70 (by decide) ?_
          refine g_icmp_eq C (pc := 71) 81 dX8_play_71 (by decide) (fun c71 => ?_) (fun c71 => ?_)
          · have hwd4 : wd = 4 := (nI_eq (by omega) (by decide)).mp c71
            have hF : BR I s F (goB F b none) := hbr
            have hK : ∀ i, i ≠ s → i ≠ s + 1 → i ≠ s + 2 → i ≠ s + 3 → I i = I i := fun _ _ _ _ _ => rfl
            refine g_aload_n C (pc := 81) dX8_play_81 2 rfl ?_
            refine g_iconst C (pc := 82) 1 dX8_play_82 (by decide) ?_
            refine g_aload_n C (pc := 83) dX8_play_83 2 rfl ?_
            refine g_getI C (pc := 84) fl_RX8_21 (by decide) (by first | assumption | rfl | omega) (by first | assumption | rfl | omega) dX8_play_84 ?_
            refine g_isub C (pc := 87) dX8_play_87 ?_
            refine g_putI C (pc := 88) fl_RX8_21 (by decide) fp_7_3 (Or.inl rfl) ⟨rfl, rfl⟩ (by first | assumption | rfl | omega) (by first | assumption | rfl | omega) hn9 dX8_play_88 ?_
            refine g_iload C (pc := 91) dX8_play_91 0 rfl ?_
            refine g_iret C hR (pc := 93) rfl dX8_play_93 ?_
            refine ⟨rfl, _, rfl, ?_⟩
            refine ⟨ev33, ?_, fun i h0 h1 h2 h3 => (wr_n h0).trans (hK i h0 h1 h2 h3)⟩
            unfold playB
            first | rw [if_pos hwd4] | rw [if_neg hwd4]
            exact hF.flip (by first | exact hbw.1 | exact (burnB_W hbw).1)
          · have hwd4 : wd ≠ 4 := fun h => c71 (by rw [h]; rfl)
            refine g_aload_n C (pc := 74) dX8_play_74 2 rfl ?_
            refine g_aload_n C (pc := 75) dX8_play_75 3 rfl ?_
            refine g_iload C (pc := 76) dX8_play_76 1 rfl ?_
            refine g_callVV C (pc := 78) mf_X8_burn lk_RX8_88 (c_X8_burn n ρ I s r F b none _ hn9 hst hrf hrr hrw hbr hbw hdis (by intro z hz; cases hz) (by first | exact ev13 | (rw [ev13]; rfl))) (by decide) (Nat.le_refl _) rfl (by first | assumption | rfl | omega) rfl (by first | assumption | rfl | omega) (Nat.le_of_ble_eq_true rfl) dX8_play_78 (fun I78 h78 => ?_)
            obtain ⟨h78, g78⟩ := h78
            have hF := h78
            have hK : ∀ i, i ≠ s → i ≠ s + 1 → i ≠ s + 2 → i ≠ s + 3 → I78 i = I i := fun i h0 h1 h2 h3 => g78 i h2
            refine g_aload_n C (pc := 81) dX8_play_81 2 rfl ?_
            refine g_iconst C (pc := 82) 1 dX8_play_82 (by decide) ?_
            refine g_aload_n C (pc := 83) dX8_play_83 2 rfl ?_
            refine g_getI C (pc := 84) fl_RX8_21 (by decide) (by first | assumption | rfl | omega) (by first | assumption | rfl | omega) dX8_play_84 ?_
            refine g_isub C (pc := 87) dX8_play_87 ?_
            refine g_putI C (pc := 88) fl_RX8_21 (by decide) fp_7_3 (Or.inl rfl) ⟨rfl, rfl⟩ (by first | assumption | rfl | omega) (by first | assumption | rfl | omega) hn9 dX8_play_88 ?_
            refine g_iload C (pc := 91) dX8_play_91 0 rfl ?_
            refine g_iret C hR (pc := 93) rfl dX8_play_93 ?_
            refine ⟨rfl, _, rfl, ?_⟩
            refine ⟨ev33, ?_, fun i h0 h1 h2 h3 => (wr_n h0).trans (hK i h0 h1 h2 h3)⟩
            unfold playB
            first | rw [if_pos hwd4] | rw [if_neg hwd4]
            exact hF.flip (by first | exact hbw.1 | exact (burnB_W hbw).1)
        · exact absurd ev13 c55
      · exact absurd ev33 c39
    · exact absurd c16 (by decide)
  · exact absurd c1 (by decide)
