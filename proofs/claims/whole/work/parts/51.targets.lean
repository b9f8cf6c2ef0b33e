theorem inr_iff {x : Int32} {k : Nat} (h1 : 1 ≤ k) (hk : k < 1000) : (0 ≤ x.toInt64 ∧ x.toInt64 ≤ (nI k - 1).toInt64) ↔ 0 ≤ x.toInt ∧ x.toInt < (k : Int) := by
  have := in_iff (x := x) (k := k - 1) (by omega)
  rw [show k - 1 + 1 = k by omega] at this
  rw [show nI k - 1 = nI (k - 1) from pk_sub (b := 1) h1, nI_l (by omega), this, Int32.le_iff_toInt_le, Int32.lt_iff_toInt_lt, nI_toInt (by omega)]
  rfl
theorem on_end {W : Nat} {x y : Int32} (hW : W ≤ 5) (h1 : 0 ≤ x.toInt) (h2 : x.toInt < 6) (h3 : 0 ≤ y.toInt) (h4 : y.toInt < 6) : x * nI W + y = nI (x.toInt.toNat * W + y.toInt.toNat) := by
  have a : x = nI x.toInt.toNat := i32_nat (by omega) (by omega)
  have b : y = nI y.toInt.toNat := i32_nat (by omega) (by omega)
  have e : x * nI W + y = nI x.toInt.toNat * nI W + nI y.toInt.toNat := by rw [← a, ← b]
  rw [e, pk_mul, nI_add]
def stpO (F : RT) (b : BT) (w c : Nat) : Option Nat := (nxtO F (some c) w).bind (fun a => if stpB F b a = true then none else some a)
def rayO (F : RT) (b : BT) (w k : Nat) : Option Nat → List Nat
  | none => []
  | some c => rayL F b w k c
theorem ray_step {F : RT} {b : BT} {w m c : Nat} : rayL F b w (m + 1) c = (nxtO F (some c) w).toList ++ rayO F b w m (stpO F b w c) := by
  unfold stpO
  cases e : nxtO F (some c) w with
  | none => rw [rayL_none e]; rfl
  | some a =>
    cases hs : stpB F b a with
    | true => rw [rayL_stop e hs]; simp [hs, rayO]
    | false => rw [rayL_go e hs]; simp [hs, rayO]
theorem rayO_0 {F : RT} {b : BT} {w : Nat} {o : Option Nat} : rayO F b w 0 o = [] := by cases o <;> rfl
theorem stp_pon {F : RT} {b : BT} (hf : RW F) {a : Nat} (hr : rS F a = false) : stpB F b a = true ↔ pon F b a ≠ none := by
  unfold stpB
  rw [hr, Bool.false_or, Bool.or_eq_true, helB_t, helB_t]
  constructor
  · rintro (⟨p, h1, h2, h3⟩ | ⟨p, h1, h2, h3⟩) h
    · exact pon_none h p h1 h3
    · exact pon_none h p h1 h3
  · intro h
    obtain ⟨t, ht⟩ : ∃ t, pon F b a = some t := by
      cases e : pon F b a with
      | none => exact absurd e h
      | some t => exact ⟨t, rfl⟩
    obtain ⟨h1, h2⟩ := pon_some ht
    have := (hf.2.2.2.2.2.1 t h1).1
    rcases Nat.lt_or_ge (rSd F t) 1 with h9 | h9
    · exact Or.inl ⟨t, h1, by omega, h2⟩
    · exact Or.inr ⟨t, h1, by omega, h2⟩
theorem no_open {F : RT} {o : Option Nat} (h : ¬ (o.map (rS F)) = some false) (i : Nat) : (decide (i ∈ o.toList) && !rS F i) = false := by
  cases o with
  | none => rfl
  | some a =>
    have : rS F a = true := by
      cases e : rS F a with
      | true => rfl
      | false => exact absurd (show some (rS F a) = some false by rw [e]) h
    by_cases hi : i = a
    · subst hi; rw [this]; simp
    · simp [hi]
theorem mem_app {i : Nat} {V U : List Nat} {z : Bool} : (decide (i ∈ V ++ U) && z) = ((decide (i ∈ V) && z) || (decide (i ∈ U) && z)) := by
  by_cases h1 : i ∈ V <;> by_cases h2 : i ∈ U <;> simp [h1, h2]
theorem nxtO_lt2 {F : RT} (hf : RW F) {a : Option Nat} {w q : Nat} (e : nxtO F a w = some q) : q < rW F * rH F := by
  unfold nxtO at e
  cases a with
  | none => cases e
  | some z => exact (nxt_lt hf.2.1 hf.2.2.2.1 e).1
/-- where a sparrow comes down: j of its two squares -/
def hpL (F : RT) (w q : Nat) : Nat → List Nat
  | 0 => []
  | 1 => (onF (rW F) (rH F) q w 2 (-1)).toList
  | _ => (onF (rW F) (rH F) q w 2 (-1)).toList ++ (onF (rW F) (rH F) q w 2 1).toList
theorem hpL_hop {F : RT} (hf : RW F) {w q i : Nat} (hw : w < 4) (hq : q < rW F * rH F) : (i ∈ hpL F w q 2) ↔ i ∈ hopL F w q := by
  have e3 : hopR (rW F) (rH F) w q 3 = nxtO F (nxtO F (nxtO F (some q) w) w) ((w + 3) % 4) := rfl
  have e1 : hopR (rW F) (rH F) w q 1 = nxtO F (nxtO F (nxtO F (some q) w) w) ((w + 1) % 4) := rfl
  show (i ∈ (onF (rW F) (rH F) q w 2 (-1)).toList ++ (onF (rW F) (rH F) q w 2 1).toList) ↔ _
  unfold hopL
  rw [List.mem_append, List.mem_append, ← e3, ← e1]
  rcases on_hop (by have := hf.2.1; omega) (by have := hf.2.2.2.1; omega) hf.1 hf.2.2.1 hw hq with ⟨h1, h2⟩ | ⟨h1, h2⟩
  · rw [h1, h2]
  · rw [h1, h2]; exact Or.comm
theorem onF_lt {W H q w : Nat} {far asd : Int} {a : Nat} (h : onF W H q w far asd = some a) : a < W * H := by
  unfold onF at h
  generalize ((q / W : Nat) : Int) + (if w % 2 = 0 then (if w = 0 ∨ w = 3 then -far else far) else asd) = x at h
  generalize ((q % W : Nat) : Int) + (if w % 2 = 0 then asd else (if w = 0 ∨ w = 3 then -far else far)) = y at h
  by_cases hc : 0 ≤ x ∧ x < (H : Int) ∧ 0 ≤ y ∧ y < (W : Int)
  · rw [if_pos hc] at h
    have h9 : x.toNat * W + y.toNat = a := Option.some.inj h
    obtain ⟨h1, h2, h3, h4⟩ := hc
    have a1 : x.toNat + 1 ≤ H := by omega
    have a2 := Nat.mul_le_mul_right W a1
    rw [Nat.add_mul, Nat.one_mul, Nat.mul_comm H W] at a2
    omega
  · rw [if_neg hc] at h; cases h
theorem tgt_of {F : RT} {b : BT} {w p q i : Nat} (h : bP b p = some q) (h1 : 1 ≤ bO b p) (h2 : rSd F p = bM b) : tgt F b w p i = (decide (i ∈ kinL F b w (rKd F p) q) && !rS F i && !helB F b (bM b) i) := by
  unfold tgt
  rw [h]
  show (decide (1 ≤ bO b p) && (rSd F p == bM b) && decide (i ∈ kinL F b w (rKd F p) q) && !rS F i && !helB F b (bM b) i) = _
  rw [decide_eq_true h1, h2]; simp
theorem kinL_run {F : RT} {b : BT} {w kd q : Nat} (hf : RW F) (h3 : kd ≠ 3) (hw : w < 4) (hq : q < rW F * rH F) : kinL F b w kd q = rayL F b w (if kd = 2 then 5 else 1) q := by
  unfold kinL
  by_cases h : kd = 2
  · rw [if_pos h, if_pos h]
    exact (ray_more (nxk_5 (show rW F < 6 by have := hf.2.1; omega) (show rH F < 6 by have := hf.2.2.2.1; omega) hf.1 hf.2.2.1 hw hq)).symm
  · rw [if_neg h, if_neg h, if_neg h3, ray_step, rayO_0, List.append_nil]
theorem kinL_hop {F : RT} {b : BT} {w q : Nat} : kinL F b w 3 q = hopL F w q := rfl
set_option maxHeartbeats 1600000 in
theorem c_X12_onTo (n : Nat) (ρ : Rho) (I : Mem) (F : RT) (q wd : Nat) (x far asd : Int32) (hn9 : n ≤ 999) (hms : MS n ρ) (hqf : QF I F) (hrw : RW F) (hq : q < rW F * rH F) (hwd : wd < 4) (hx : x = nI q) (hf1 : 1 ≤ far.toInt) (hf2 : far.toInt ≤ 5) (hs1 : -1 ≤ asd.toInt) (hs2 : asd.toInt ≤ 1) : MI yX12_onTo cX12_onTo 8 (some .int) 1 [.ref 97, .int x, .int (nI wd), .int far, .int asd] n ρ I (fun v I1 => v = oI (onF (rW F) (rH F) q wd far.toInt asd.toInt) ∧ I = I1) := by
  refine MG.of (by decide +kernel) (Nat.le_of_ble_eq_true rfl) hn9 ?_
  intro κ C hR
  show G κ n ρ 0 [(0, .ref 97), (1, .int x), (2, .int (nI wd)), (3, .int far), (4, .int asd)] [] I
  obtain ⟨mn, ⟨m0, m1, m5, m6, m7, m11, m12, m15⟩, ⟨m23, m24, m26, m27, m28, m30, m31, m32, m33⟩, ⟨m38, m39, m40, m42⟩⟩ := id hms
  obtain ⟨qw, qh, qn, qk⟩ := id hqf
  have hn6 : rN F ≤ 6 := hrw.2.2.2.2.1
  have hm25 := Nat.mul_le_mul hrw.2.1 hrw.2.2.2.1
  have hm4 := Nat.mul_le_mul hrw.1 hrw.2.2.1
  have hW2 := hrw.1
  have hW5 := hrw.2.1
  have hH2 := hrw.2.2.1
  have hH5 := hrw.2.2.2.1
  have hdq : q / rW F < rH F := by rw [Nat.div_lt_iff_lt_mul (by omega), Nat.mul_comm]; exact hq
  have hmq : q % rW F < rW F := Nat.mod_lt _ (by omega)
  refine g_iload_n C (pc := 0) dX12_onTo_0 1 rfl ?_
  refine g_aload_n C (pc := 1) dX12_onTo_1 0 rfl ?_
  refine g_getI C (pc := 2) fl_RX12_99 (by decide) (by first | assumption | rfl | omega) (by first | assumption | rfl | omega) dX12_onTo_2 ?_
  refine g_idiv C (pc := 5) dX12_onTo_5 (by rw [qw]; exact nI_ne0 (by omega) (by omega)) ?_
  refine g_istore C (pc := 6) dX12_onTo_6 (by decide) (fun v6 => [(5, .int v6), (0, .ref 97), (1, .int x), (2, .int (nI wd)), (3, .int far), (4, .int asd)]) (fun _ => rfl) (fun v6 ev6 => ?_)
  have h6 : v6.toInt = ((q / rW F : Nat) : Int) := by rw [ev6, qw, hx, pk_div (by omega) (by omega) (by omega), nI_toInt (by omega)]
  have h6n : 0 ≤ v6.toInt ∧ v6.toInt < (rH F : Int) := by rw [h6]; exact ⟨Int.natCast_nonneg _, Int.ofNat_lt.mpr hdq⟩
  refine g_iload_n C (pc := 8) dX12_onTo_8 2 rfl ?_
  refine g_aload_n C (pc := 9) dX12_onTo_9 1 rfl ?_
  refine g_getI C (pc := 10) fl_RX12_99 (by decide) (by first | assumption | rfl | omega) (by first | assumption | rfl | omega) dX12_onTo_10 ?_
  refine g_irem C (pc := 13) dX12_onTo_13 (by rw [qw]; exact nI_ne0 (by omega) (by omega)) ?_
  refine g_istore C (pc := 14) dX12_onTo_14 (by decide) (fun v14 => [(6, .int v14), (5, .int v6), (0, .ref 97), (1, .int x), (2, .int (nI wd)), (3, .int far), (4, .int asd)]) (fun _ => rfl) (fun v14 ev14 => ?_)
  have h14 : v14.toInt = ((q % rW F : Nat) : Int) := by rw [ev14, qw, hx, pk_rem (by omega) (by omega) (by omega), nI_toInt (by omega)]
  have h14n : 0 ≤ v14.toInt ∧ v14.toInt < (rW F : Int) := by rw [h14]; exact ⟨Int.natCast_nonneg _, Int.ofNat_lt.mpr hmq⟩
  refine g_iload_n C (pc := 16) dX12_onTo_16 4 rfl ?_
  refine g_if_eq C (pc := 17) 25 dX12_onTo_17 (by decide) (fun c17 => ?_) (fun c17 => ?_)
  · have w0 : wd = 0 := (nI_eq (b := 0) (by omega) (by decide)).mp c17
    refine g_iload_n C (pc := 25) dX12_onTo_25 5 rfl ?_
    refine g_ineg C (pc := 26) dX12_onTo_26 ?_
    refine g_goto C (pc := 27) 31 dX12_onTo_27 (by decide) ?_
    refine g_istore C (pc := 31) dX12_onTo_31 (by decide) (fun v31 => [(7, .int v31), (6, .int v14), (5, .int v6), (0, .ref 97), (1, .int x), (2, .int (nI wd)), (3, .int far), (4, .int asd)]) (fun _ => rfl) (fun v31 ev31 => ?_)
    have h31 : v31.toInt = (if wd = 0 ∨ wd = 3 then -far.toInt else far.toInt) := by
      rw [ev31]
      first
      | (rw [i32_neg (by omega) (by omega), if_pos (by omega)]; done)
      | (rw [if_neg (by omega)]; done)
    have h31b : -5 ≤ v31.toInt ∧ v31.toInt ≤ 5 := by rw [h31]; split <;> omega
    refine g_iload C (pc := 33) dX12_onTo_33 2 rfl ?_
    refine g_iload_n C (pc := 35) dX12_onTo_35 5 rfl ?_
    refine g_iconst C (pc := 36) 2 dX12_onTo_36 (by decide) ?_
    refine g_irem C (pc := 37) dX12_onTo_37 (by decide) ?_
    refine g_if_ne C (pc := 38) 46 dX12_onTo_38 (by decide) (fun c38 => ?_) (fun c38 => ?_)
    · exact absurd rfl (w0 ▸ c38)
    · have hpe : wd % 2 = 0 := by
        rw [show (2 : Int32) = nI 2 from rfl, pk_rem (by omega) (by decide) (by decide)] at c38
        exact (nI_eq (b := 0) (by omega) (by decide)).mp c38
      refine g_iload C (pc := 41) dX12_onTo_41 0 rfl ?_
      refine g_goto C (pc := 43) 48 dX12_onTo_43 (by decide) ?_
      refine g_iadd C (pc := 48) dX12_onTo_48 ?_
      refine g_istore C (pc := 49) dX12_onTo_49 (by decide) (fun v49 => [(5, .int v49), (7, .int v31), (6, .int v14), (0, .ref 97), (1, .int x), (2, .int (nI wd)), (3, .int far), (4, .int asd)]) (fun _ => rfl) (fun v49 ev49 => ?_)
      have hRo : v49.toInt = ((q / rW F : Nat) : Int) + (if wd % 2 = 0 then (if wd = 0 ∨ wd = 3 then -far.toInt else far.toInt) else asd.toInt) := by
        rw [ev49]
        first
        | (rw [if_pos hpe, ← h31, i32_add (by omega) (by omega) (by omega) (by omega), h6]; done)
        | (rw [if_neg (show ¬ wd % 2 = 0 by omega), i32_add (by omega) (by omega) (by omega) (by omega), h6]; done)
      refine g_iload C (pc := 51) dX12_onTo_51 2 rfl ?_
      refine g_iload_n C (pc := 53) dX12_onTo_53 5 rfl ?_
      refine g_iconst C (pc := 54) 2 dX12_onTo_54 (by decide) ?_
      refine g_irem C (pc := 55) dX12_onTo_55 (by decide) ?_
      refine g_if_ne C (pc := 56) 64 dX12_onTo_56 (by decide) (fun c56 => ?_) (fun c56 => ?_)
      · exact absurd c38 c56
      · refine g_iload C (pc := 59) dX12_onTo_59 7 rfl ?_
        refine g_goto C (pc := 61) 66 dX12_onTo_61 (by decide) ?_
        refine g_iadd C (pc := 66) dX12_onTo_66 ?_
        refine g_istore C (pc := 67) dX12_onTo_67 (by decide) (fun v67 => [(6, .int v67), (5, .int v49), (7, .int v31), (0, .ref 97), (1, .int x), (2, .int (nI wd)), (3, .int far), (4, .int asd)]) (fun _ => rfl) (fun v67 ev67 => ?_)
        have hCo : v67.toInt = ((q % rW F : Nat) : Int) + (if wd % 2 = 0 then asd.toInt else (if wd = 0 ∨ wd = 3 then -far.toInt else far.toInt)) := by
          rw [ev67]
          first
          | (rw [if_pos hpe, i32_add (by omega) (by omega) (by omega) (by omega), h14]; done)
          | (rw [if_neg (show ¬ wd % 2 = 0 by omega), ← h31, i32_add (by omega) (by omega) (by omega) (by omega), h14]; done)
        refine g_iload C (pc := 69) dX12_onTo_69 1 rfl ?_
        refine g_i2l C (pc := 71) dX12_onTo_71 ?_
        refine g_lconst C (pc := 72) 0 dX12_onTo_72 (by decide) ?_
        refine g_aload_n C (pc := 73) dX12_onTo_73 3 rfl ?_
        refine g_getI C (pc := 74) fl_RX12_102 (by decide) (by first | assumption | rfl | omega) (by first | assumption | rfl | omega) dX12_onTo_74 ?_
        refine g_iconst C (pc := 77) 1 dX12_onTo_77 (by decide) ?_
        refine g_isub C (pc := 78) dX12_onTo_78 ?_
        refine g_i2l C (pc := 79) dX12_onTo_79 ?_
        refine g_callSI C (pc := 80) mf_X12_in lk_RX12_113 (c_X12_in n ρ I _ _ _ hn9) (by decide) (Nat.le_refl _) rfl (Nat.le_of_ble_eq_true rfl) dX12_onTo_80 (fun v80 I80 h80 => ?_)
        obtain ⟨e80, rfl⟩ := h80
        refine g_if_eq C (pc := 83) 116 dX12_onTo_83 (by decide) (fun c83 => ?_) (fun c83 => ?_)
        · have hr8 : ¬ (0 ≤ v49.toInt ∧ v49.toInt < (rH F : Int)) := by
            rw [e80, qh] at c83
            exact fun h => bI_0.mp c83 ((inr_iff (by omega) (by omega)).mpr h)
          refine g_bipush C (pc := 116) (-4) dX12_onTo_116 (by decide) ?_
          refine g_iret C hR (pc := 118) rfl dX12_onTo_118 ?_
          refine ⟨rfl, _, rfl, ?_⟩
          refine ⟨?_, rfl⟩
          unfold onF
          rw [← hRo, ← hCo]
          first
          | (rw [if_pos ⟨hr9.1, hr9.2, hc9.1, hc9.2⟩, qw]; exact on_end hW5 hr9.1 (by omega) hc9.1 (by omega))
          | (rw [if_neg (fun h => hr8 ⟨h.1, h.2.1⟩)]; rfl)
          | (rw [if_neg (fun h => hc8 ⟨h.2.2.1, h.2.2.2⟩)]; rfl)
        · have hr9 : 0 ≤ v49.toInt ∧ v49.toInt < (rH F : Int) := by
            rw [e80, qh] at c83
            exact (inr_iff (by omega) (by omega)).mp (bI_1.mp c83)
          refine g_iload C (pc := 86) dX12_onTo_86 0 rfl ?_
          refine g_i2l C (pc := 88) dX12_onTo_88 ?_
          refine g_lconst C (pc := 89) 0 dX12_onTo_89 (by decide) ?_
          refine g_aload_n C (pc := 90) dX12_onTo_90 3 rfl ?_
          refine g_getI C (pc := 91) fl_RX12_99 (by decide) (by first | assumption | rfl | omega) (by first | assumption | rfl | omega) dX12_onTo_91 ?_
          refine g_iconst C (pc := 94) 1 dX12_onTo_94 (by decide) ?_
          refine g_isub C (pc := 95) dX12_onTo_95 ?_
          refine g_i2l C (pc := 96) dX12_onTo_96 ?_
          refine g_callSI C (pc := 97) mf_X12_in lk_RX12_113 (c_X12_in n ρ I _ _ _ hn9) (by decide) (Nat.le_refl _) rfl (Nat.le_of_ble_eq_true rfl) dX12_onTo_97 (fun v97 I97 h97 => ?_)
          obtain ⟨e97, rfl⟩ := h97
          refine g_if_eq C (pc := 100) 116 dX12_onTo_100 (by decide) (fun c100 => ?_) (fun c100 => ?_)
          · have hc8 : ¬ (0 ≤ v67.toInt ∧ v67.toInt < (rW F : Int)) := by
              rw [e97, qw] at c100
              exact fun h => bI_0.mp c100 ((inr_iff (by omega) (by omega)).mpr h)
            refine g_bipush C (pc := 116) (-4) dX12_onTo_116 (by decide) ?_
            refine g_iret C hR (pc := 118) rfl dX12_onTo_118 ?_
            refine ⟨rfl, _, rfl, ?_⟩
            refine ⟨?_, rfl⟩
            unfold onF
            rw [← hRo, ← hCo]
            first
            | (rw [if_pos ⟨hr9.1, hr9.2, hc9.1, hc9.2⟩, qw]; exact on_end hW5 hr9.1 (by omega) hc9.1 (by omega))
            | (rw [if_neg (fun h => hr8 ⟨h.1, h.2.1⟩)]; rfl)
            | (rw [if_neg (fun h => hc8 ⟨h.2.2.1, h.2.2.2⟩)]; rfl)
          · have hc9 : 0 ≤ v67.toInt ∧ v67.toInt < (rW F : Int) := by
              rw [e97, qw] at c100
              exact (inr_iff (by omega) (by omega)).mp (bI_1.mp c100)
            refine g_iload C (pc := 103) dX12_onTo_103 1 rfl ?_
            refine g_aload_n C (pc := 105) dX12_onTo_105 3 rfl ?_
            refine g_getI C (pc := 106) fl_RX12_99 (by decide) (by first | assumption | rfl | omega) (by first | assumption | rfl | omega) dX12_onTo_106 ?_
            refine g_imul C (pc := 109) dX12_onTo_109 ?_
            refine g_iload C (pc := 110) dX12_onTo_110 0 rfl ?_
            refine g_iadd C (pc := 112) dX12_onTo_112 ?_
            refine g_goto C (pc := 113) 118 dX12_onTo_113 (by decide) ?_
            refine g_iret C hR (pc := 118) rfl dX12_onTo_118 ?_
            refine ⟨rfl, _, rfl, ?_⟩
            refine ⟨?_, rfl⟩
            unfold onF
            rw [← hRo, ← hCo]
            first
            | (rw [if_pos ⟨hr9.1, hr9.2, hc9.1, hc9.2⟩, qw]; exact on_end hW5 hr9.1 (by omega) hc9.1 (by omega))
            | (rw [if_neg (fun h => hr8 ⟨h.1, h.2.1⟩)]; rfl)
            | (rw [if_neg (fun h => hc8 ⟨h.2.2.1, h.2.2.2⟩)]; rfl)
  · have w0 : wd ≠ 0 := fun h => c17 (by rw [h]; rfl)
    refine g_iload_n C (pc := 20) dX12_onTo_20 4 rfl ?_
    refine g_iconst C (pc := 21) 3 dX12_onTo_21 (by decide) ?_
    refine g_icmp_ne C (pc := 22) 30 dX12_onTo_22 (by decide) (fun c22 => ?_) (fun c22 => ?_)
    · have w3 : wd ≠ 3 := fun h => c22 (by rw [h]; rfl)
      refine g_iload_n C (pc := 30) dX12_onTo_30 5 rfl ?_
      refine g_istore C (pc := 31) dX12_onTo_31 (by decide) (fun v31 => [(7, .int v31), (6, .int v14), (5, .int v6), (0, .ref 97), (1, .int x), (2, .int (nI wd)), (3, .int far), (4, .int asd)]) (fun _ => rfl) (fun v31 ev31 => ?_)
      have h31 : v31.toInt = (if wd = 0 ∨ wd = 3 then -far.toInt else far.toInt) := by
        rw [ev31]
        first
        | (rw [i32_neg (by omega) (by omega), if_pos (by omega)]; done)
        | (rw [if_neg (by omega)]; done)
      have h31b : -5 ≤ v31.toInt ∧ v31.toInt ≤ 5 := by rw [h31]; split <;> omega
      refine g_iload C (pc := 33) dX12_onTo_33 2 rfl ?_
      refine g_iload_n C (pc := 35) dX12_onTo_35 5 rfl ?_
      refine g_iconst C (pc := 36) 2 dX12_onTo_36 (by decide) ?_
      refine g_irem C (pc := 37) dX12_onTo_37 (by decide) ?_
      refine g_if_ne C (pc := 38) 46 dX12_onTo_38 (by decide) (fun c38 => ?_) (fun c38 => ?_)
      · have hpo : wd % 2 = 1 := by
          rw [show (2 : Int32) = nI 2 from rfl, pk_rem (by omega) (by decide) (by decide)] at c38
          have h9 : wd % 2 ≠ 0 := fun h => c38 (by rw [h]; rfl)
          omega
        refine g_iload C (pc := 46) dX12_onTo_46 7 rfl ?_
        refine g_iadd C (pc := 48) dX12_onTo_48 ?_
        refine g_istore C (pc := 49) dX12_onTo_49 (by decide) (fun v49 => [(5, .int v49), (7, .int v31), (6, .int v14), (0, .ref 97), (1, .int x), (2, .int (nI wd)), (3, .int far), (4, .int asd)]) (fun _ => rfl) (fun v49 ev49 => ?_)
        have hRo : v49.toInt = ((q / rW F : Nat) : Int) + (if wd % 2 = 0 then (if wd = 0 ∨ wd = 3 then -far.toInt else far.toInt) else asd.toInt) := by
          rw [ev49]
          first
          | (rw [if_pos hpe, ← h31, i32_add (by omega) (by omega) (by omega) (by omega), h6]; done)
          | (rw [if_neg (show ¬ wd % 2 = 0 by omega), i32_add (by omega) (by omega) (by omega) (by omega), h6]; done)
        refine g_iload C (pc := 51) dX12_onTo_51 2 rfl ?_
        refine g_iload_n C (pc := 53) dX12_onTo_53 5 rfl ?_
        refine g_iconst C (pc := 54) 2 dX12_onTo_54 (by decide) ?_
        refine g_irem C (pc := 55) dX12_onTo_55 (by decide) ?_
        refine g_if_ne C (pc := 56) 64 dX12_onTo_56 (by decide) (fun c56 => ?_) (fun c56 => ?_)
        · refine g_iload C (pc := 64) dX12_onTo_64 1 rfl ?_
          refine g_iadd C (pc := 66) dX12_onTo_66 ?_
          refine g_istore C (pc := 67) dX12_onTo_67 (by decide) (fun v67 => [(6, .int v67), (5, .int v49), (7, .int v31), (0, .ref 97), (1, .int x), (2, .int (nI wd)), (3, .int far), (4, .int asd)]) (fun _ => rfl) (fun v67 ev67 => ?_)
          have hCo : v67.toInt = ((q % rW F : Nat) : Int) + (if wd % 2 = 0 then asd.toInt else (if wd = 0 ∨ wd = 3 then -far.toInt else far.toInt)) := by
            rw [ev67]
            first
            | (rw [if_pos hpe, i32_add (by omega) (by omega) (by omega) (by omega), h14]; done)
            | (rw [if_neg (show ¬ wd % 2 = 0 by omega), ← h31, i32_add (by omega) (by omega) (by omega) (by omega), h14]; done)
          refine g_iload C (pc := 69) dX12_onTo_69 1 rfl ?_
          refine g_i2l C (pc := 71) dX12_onTo_71 ?_
          refine g_lconst C (pc := 72) 0 dX12_onTo_72 (by decide) ?_
          refine g_aload_n C (pc := 73) dX12_onTo_73 3 rfl ?_
          refine g_getI C (pc := 74) fl_RX12_102 (by decide) (by first | assumption | rfl | omega) (by first | assumption | rfl | omega) dX12_onTo_74 ?_
          refine g_iconst C (pc := 77) 1 dX12_onTo_77 (by decide) ?_
          refine g_isub C (pc := 78) dX12_onTo_78 ?_
          refine g_i2l C (pc := 79) dX12_onTo_79 ?_
          refine g_callSI C (pc := 80) mf_X12_in lk_RX12_113 (c_X12_in n ρ I _ _ _ hn9) (by decide) (Nat.le_refl _) rfl (Nat.le_of_ble_eq_true rfl) dX12_onTo_80 (fun v80 I80 h80 => ?_)
          obtain ⟨e80, rfl⟩ := h80
          refine g_if_eq C (pc := 83) 116 dX12_onTo_83 (by decide) (fun c83 => ?_) (fun c83 => ?_)
          · have hr8 : ¬ (0 ≤ v49.toInt ∧ v49.toInt < (rH F : Int)) := by
              rw [e80, qh] at c83
              exact fun h => bI_0.mp c83 ((inr_iff (by omega) (by omega)).mpr h)
            refine g_bipush C (pc := 116) (-4) dX12_onTo_116 (by decide) ?_
            refine g_iret C hR (pc := 118) rfl dX12_onTo_118 ?_
            refine ⟨rfl, _, rfl, ?_⟩
            refine ⟨?_, rfl⟩
            unfold onF
            rw [← hRo, ← hCo]
            first
            | (rw [if_pos ⟨hr9.1, hr9.2, hc9.1, hc9.2⟩, qw]; exact on_end hW5 hr9.1 (by omega) hc9.1 (by omega))
            | (rw [if_neg (fun h => hr8 ⟨h.1, h.2.1⟩)]; rfl)
            | (rw [if_neg (fun h => hc8 ⟨h.2.2.1, h.2.2.2⟩)]; rfl)
          · have hr9 : 0 ≤ v49.toInt ∧ v49.toInt < (rH F : Int) := by
              rw [e80, qh] at c83
              exact (inr_iff (by omega) (by omega)).mp (bI_1.mp c83)
            refine g_iload C (pc := 86) dX12_onTo_86 0 rfl ?_
            refine g_i2l C (pc := 88) dX12_onTo_88 ?_
            refine g_lconst C (pc := 89) 0 dX12_onTo_89 (by decide) ?_
            refine g_aload_n C (pc := 90) dX12_onTo_90 3 rfl ?_
            refine g_getI C (pc := 91) fl_RX12_99 (by decide) (by first | assumption | rfl | omega) (by first | assumption | rfl | omega) dX12_onTo_91 ?_
            refine g_iconst C (pc := 94) 1 dX12_onTo_94 (by decide) ?_
            refine g_isub C (pc := 95) dX12_onTo_95 ?_
            refine g_i2l C (pc := 96) dX12_onTo_96 ?_
            refine g_callSI C (pc := 97) mf_X12_in lk_RX12_113 (c_X12_in n ρ I _ _ _ hn9) (by decide) (Nat.le_refl _) rfl (Nat.le_of_ble_eq_true rfl) dX12_onTo_97 (fun v97 I97 h97 => ?_)
            obtain ⟨e97, rfl⟩ := h97
            refine g_if_eq C (pc := 100) 116 dX12_onTo_100 (by decide) (fun c100 => ?_) (fun c100 => ?_)
            · have hc8 : ¬ (0 ≤ v67.toInt ∧ v67.toInt < (rW F : Int)) := by
                rw [e97, qw] at c100
                exact fun h => bI_0.mp c100 ((inr_iff (by omega) (by omega)).mpr h)
              refine g_bipush C (pc := 116) (-4) dX12_onTo_116 (by decide) ?_
              refine g_iret C hR (pc := 118) rfl dX12_onTo_118 ?_
              refine ⟨rfl, _, rfl, ?_⟩
              refine ⟨?_, rfl⟩
              unfold onF
              rw [← hRo, ← hCo]
              first
              | (rw [if_pos ⟨hr9.1, hr9.2, hc9.1, hc9.2⟩, qw]; exact on_end hW5 hr9.1 (by omega) hc9.1 (by omega))
              | (rw [if_neg (fun h => hr8 ⟨h.1, h.2.1⟩)]; rfl)
              | (rw [if_neg (fun h => hc8 ⟨h.2.2.1, h.2.2.2⟩)]; rfl)
            · have hc9 : 0 ≤ v67.toInt ∧ v67.toInt < (rW F : Int) := by
                rw [e97, qw] at c100
                exact (inr_iff (by omega) (by omega)).mp (bI_1.mp c100)
              refine g_iload C (pc := 103) dX12_onTo_103 1 rfl ?_
              refine g_aload_n C (pc := 105) dX12_onTo_105 3 rfl ?_
              refine g_getI C (pc := 106) fl_RX12_99 (by decide) (by first | assumption | rfl | omega) (by first | assumption | rfl | omega) dX12_onTo_106 ?_
              refine g_imul C (pc := 109) dX12_onTo_109 ?_
              refine g_iload C (pc := 110) dX12_onTo_110 0 rfl ?_
              refine g_iadd C (pc := 112) dX12_onTo_112 ?_
              refine g_goto C (pc := 113) 118 dX12_onTo_113 (by decide) ?_
              refine g_iret C hR (pc := 118) rfl dX12_onTo_118 ?_
              refine ⟨rfl, _, rfl, ?_⟩
              refine ⟨?_, rfl⟩
              unfold onF
              rw [← hRo, ← hCo]
              first
              | (rw [if_pos ⟨hr9.1, hr9.2, hc9.1, hc9.2⟩, qw]; exact on_end hW5 hr9.1 (by omega) hc9.1 (by omega))
              | (rw [if_neg (fun h => hr8 ⟨h.1, h.2.1⟩)]; rfl)
              | (rw [if_neg (fun h => hc8 ⟨h.2.2.1, h.2.2.2⟩)]; rfl)
        · exact absurd c56 c38
      · have hpe : wd % 2 = 0 := by
          rw [show (2 : Int32) = nI 2 from rfl, pk_rem (by omega) (by decide) (by decide)] at c38
          exact (nI_eq (b := 0) (by omega) (by decide)).mp c38
        refine g_iload C (pc := 41) dX12_onTo_41 0 rfl ?_
        refine g_goto C (pc := 43) 48 dX12_onTo_43 (by decide) ?_
        refine g_iadd C (pc := 48) dX12_onTo_48 ?_
        refine g_istore C (pc := 49) dX12_onTo_49 (by decide) (fun v49 => [(5, .int v49), (7, .int v31), (6, .int v14), (0, .ref 97), (1, .int x), (2, .int (nI wd)), (3, .int far), (4, .int asd)]) (fun _ => rfl) (fun v49 ev49 => ?_)
        have hRo : v49.toInt = ((q / rW F : Nat) : Int) + (if wd % 2 = 0 then (if wd = 0 ∨ wd = 3 then -far.toInt else far.toInt) else asd.toInt) := by
          rw [ev49]
          first
          | (rw [if_pos hpe, ← h31, i32_add (by omega) (by omega) (by omega) (by omega), h6]; done)
          | (rw [if_neg (show ¬ wd % 2 = 0 by omega), i32_add (by omega) (by omega) (by omega) (by omega), h6]; done)
        refine g_iload C (pc := 51) dX12_onTo_51 2 rfl ?_
        refine g_iload_n C (pc := 53) dX12_onTo_53 5 rfl ?_
        refine g_iconst C (pc := 54) 2 dX12_onTo_54 (by decide) ?_
        refine g_irem C (pc := 55) dX12_onTo_55 (by decide) ?_
        refine g_if_ne C (pc := 56) 64 dX12_onTo_56 (by decide) (fun c56 => ?_) (fun c56 => ?_)
        · exact absurd c38 c56
        · refine g_iload C (pc := 59) dX12_onTo_59 7 rfl ?_
          refine g_goto C (pc := 61) 66 dX12_onTo_61 (by decide) ?_
          refine g_iadd C (pc := 66) dX12_onTo_66 ?_
          refine g_istore C (pc := 67) dX12_onTo_67 (by decide) (fun v67 => [(6, .int v67), (5, .int v49), (7, .int v31), (0, .ref 97), (1, .int x), (2, .int (nI wd)), (3, .int far), (4, .int asd)]) (fun _ => rfl) (fun v67 ev67 => ?_)
          have hCo : v67.toInt = ((q % rW F : Nat) : Int) + (if wd % 2 = 0 then asd.toInt else (if wd = 0 ∨ wd = 3 then -far.toInt else far.toInt)) := by
            rw [ev67]
            first
            | (rw [if_pos hpe, i32_add (by omega) (by omega) (by omega) (by omega), h14]; done)
            | (rw [if_neg (show ¬ wd % 2 = 0 by omega), ← h31, i32_add (by omega) (by omega) (by omega) (by omega), h14]; done)
          refine g_iload C (pc := 69) dX12_onTo_69 1 rfl ?_
          refine g_i2l C (pc := 71) dX12_onTo_71 ?_
          refine g_lconst C (pc := 72) 0 dX12_onTo_72 (by decide) ?_
          refine g_aload_n C (pc := 73) dX12_onTo_73 3 rfl ?_
          refine g_getI C (pc := 74) fl_RX12_102 (by decide) (by first | assumption | rfl | omega) (by first | assumption | rfl | omega) dX12_onTo_74 ?_
          refine g_iconst C (pc := 77) 1 dX12_onTo_77 (by decide) ?_
          refine g_isub C (pc := 78) dX12_onTo_78 ?_
          refine g_i2l C (pc := 79) dX12_onTo_79 ?_
          refine g_callSI C (pc := 80) mf_X12_in lk_RX12_113 (c_X12_in n ρ I _ _ _ hn9) (by decide) (Nat.le_refl _) rfl (Nat.le_of_ble_eq_true rfl) dX12_onTo_80 (fun v80 I80 h80 => ?_)
          obtain ⟨e80, rfl⟩ := h80
          refine g_if_eq C (pc := 83) 116 dX12_onTo_83 (by decide) (fun c83 => ?_) (fun c83 => ?_)
          · have hr8 : ¬ (0 ≤ v49.toInt ∧ v49.toInt < (rH F : Int)) := by
              rw [e80, qh] at c83
              exact fun h => bI_0.mp c83 ((inr_iff (by omega) (by omega)).mpr h)
            refine g_bipush C (pc := 116) (-4) dX12_onTo_116 (by decide) ?_
            refine g_iret C hR (pc := 118) rfl dX12_onTo_118 ?_
            refine ⟨rfl, _, rfl, ?_⟩
            refine ⟨?_, rfl⟩
            unfold onF
            rw [← hRo, ← hCo]
            first
            | (rw [if_pos ⟨hr9.1, hr9.2, hc9.1, hc9.2⟩, qw]; exact on_end hW5 hr9.1 (by omega) hc9.1 (by omega))
            | (rw [if_neg (fun h => hr8 ⟨h.1, h.2.1⟩)]; rfl)
            | (rw [if_neg (fun h => hc8 ⟨h.2.2.1, h.2.2.2⟩)]; rfl)
          · have hr9 : 0 ≤ v49.toInt ∧ v49.toInt < (rH F : Int) := by
              rw [e80, qh] at c83
              exact (inr_iff (by omega) (by omega)).mp (bI_1.mp c83)
            refine g_iload C (pc := 86) dX12_onTo_86 0 rfl ?_
            refine g_i2l C (pc := 88) dX12_onTo_88 ?_
            refine g_lconst C (pc := 89) 0 dX12_onTo_89 (by decide) ?_
            refine g_aload_n C (pc := 90) dX12_onTo_90 3 rfl ?_
            refine g_getI C (pc := 91) fl_RX12_99 (by decide) (by first | assumption | rfl | omega) (by first | assumption | rfl | omega) dX12_onTo_91 ?_
            refine g_iconst C (pc := 94) 1 dX12_onTo_94 (by decide) ?_
            refine g_isub C (pc := 95) dX12_onTo_95 ?_
            refine g_i2l C (pc := 96) dX12_onTo_96 ?_
            refine g_callSI C (pc := 97) mf_X12_in lk_RX12_113 (c_X12_in n ρ I _ _ _ hn9) (by decide) (Nat.le_refl _) rfl (Nat.le_of_ble_eq_true rfl) dX12_onTo_97 (fun v97 I97 h97 => ?_)
            obtain ⟨e97, rfl⟩ := h97
            refine g_if_eq C (pc := 100) 116 dX12_onTo_100 (by decide) (fun c100 => ?_) (fun c100 => ?_)
            · have hc8 : ¬ (0 ≤ v67.toInt ∧ v67.toInt < (rW F : Int)) := by
                rw [e97, qw] at c100
                exact fun h => bI_0.mp c100 ((inr_iff (by omega) (by omega)).mpr h)
              refine g_bipush C (pc := 116) (-4) dX12_onTo_116 (by decide) ?_
              refine g_iret C hR (pc := 118) rfl dX12_onTo_118 ?_
              refine ⟨rfl, _, rfl, ?_⟩
              refine ⟨?_, rfl⟩
              unfold onF
              rw [← hRo, ← hCo]
              first
              | (rw [if_pos ⟨hr9.1, hr9.2, hc9.1, hc9.2⟩, qw]; exact on_end hW5 hr9.1 (by omega) hc9.1 (by omega))
              | (rw [if_neg (fun h => hr8 ⟨h.1, h.2.1⟩)]; rfl)
              | (rw [if_neg (fun h => hc8 ⟨h.2.2.1, h.2.2.2⟩)]; rfl)
            · have hc9 : 0 ≤ v67.toInt ∧ v67.toInt < (rW F : Int) := by
                rw [e97, qw] at c100
                exact (inr_iff (by omega) (by omega)).mp (bI_1.mp c100)
              refine g_iload C (pc := 103) dX12_onTo_103 1 rfl ?_
              refine g_aload_n C (pc := 105) dX12_onTo_105 3 rfl ?_
              refine g_getI C (pc := 106) fl_RX12_99 (by decide) (by first | assumption | rfl | omega) (by first | assumption | rfl | omega) dX12_onTo_106 ?_
              refine g_imul C (pc := 109) dX12_onTo_109 ?_
              refine g_iload C (pc := 110) dX12_onTo_110 0 rfl ?_
              refine g_iadd C (pc := 112) dX12_onTo_112 ?_
              refine g_goto C (pc := 113) 118 dX12_onTo_113 (by decide) ?_
              refine g_iret C hR (pc := 118) rfl dX12_onTo_118 ?_
              refine ⟨rfl, _, rfl, ?_⟩
              refine ⟨?_, rfl⟩
              unfold onF
              rw [← hRo, ← hCo]
              first
              | (rw [if_pos ⟨hr9.1, hr9.2, hc9.1, hc9.2⟩, qw]; exact on_end hW5 hr9.1 (by omega) hc9.1 (by omega))
              | (rw [if_neg (fun h => hr8 ⟨h.1, h.2.1⟩)]; rfl)
              | (rw [if_neg (fun h => hc8 ⟨h.2.2.1, h.2.2.2⟩)]; rfl)
    · have w3 : wd = 3 := (nI_eq (b := 3) (by omega) (by decide)).mp c22
      refine g_iload_n C (pc := 25) dX12_onTo_25 5 rfl ?_
      refine g_ineg C (pc := 26) dX12_onTo_26 ?_
      refine g_goto C (pc := 27) 31 dX12_onTo_27 (by decide) ?_
      refine g_istore C (pc := 31) dX12_onTo_31 (by decide) (fun v31 => [(7, .int v31), (6, .int v14), (5, .int v6), (0, .ref 97), (1, .int x), (2, .int (nI wd)), (3, .int far), (4, .int asd)]) (fun _ => rfl) (fun v31 ev31 => ?_)
      have h31 : v31.toInt = (if wd = 0 ∨ wd = 3 then -far.toInt else far.toInt) := by
        rw [ev31]
        first
        | (rw [i32_neg (by omega) (by omega), if_pos (by omega)]; done)
        | (rw [if_neg (by omega)]; done)
      have h31b : -5 ≤ v31.toInt ∧ v31.toInt ≤ 5 := by rw [h31]; split <;> omega
      refine g_iload C (pc := 33) dX12_onTo_33 2 rfl ?_
      refine g_iload_n C (pc := 35) dX12_onTo_35 5 rfl ?_
      refine g_iconst C (pc := 36) 2 dX12_onTo_36 (by decide) ?_
      refine g_irem C (pc := 37) dX12_onTo_37 (by decide) ?_
      refine g_if_ne C (pc := 38) 46 dX12_onTo_38 (by decide) (fun c38 => ?_) (fun c38 => ?_)
      · have hpo : wd % 2 = 1 := by
          rw [show (2 : Int32) = nI 2 from rfl, pk_rem (by omega) (by decide) (by decide)] at c38
          have h9 : wd % 2 ≠ 0 := fun h => c38 (by rw [h]; rfl)
          omega
        refine g_iload C (pc := 46) dX12_onTo_46 7 rfl ?_
        refine g_iadd C (pc := 48) dX12_onTo_48 ?_
        refine g_istore C (pc := 49) dX12_onTo_49 (by decide) (fun v49 => [(5, .int v49), (7, .int v31), (6, .int v14), (0, .ref 97), (1, .int x), (2, .int (nI wd)), (3, .int far), (4, .int asd)]) (fun _ => rfl) (fun v49 ev49 => ?_)
        have hRo : v49.toInt = ((q / rW F : Nat) : Int) + (if wd % 2 = 0 then (if wd = 0 ∨ wd = 3 then -far.toInt else far.toInt) else asd.toInt) := by
          rw [ev49]
          first
          | (rw [if_pos hpe, ← h31, i32_add (by omega) (by omega) (by omega) (by omega), h6]; done)
          | (rw [if_neg (show ¬ wd % 2 = 0 by omega), i32_add (by omega) (by omega) (by omega) (by omega), h6]; done)
        refine g_iload C (pc := 51) dX12_onTo_51 2 rfl ?_
        refine g_iload_n C (pc := 53) dX12_onTo_53 5 rfl ?_
        refine g_iconst C (pc := 54) 2 dX12_onTo_54 (by decide) ?_
        refine g_irem C (pc := 55) dX12_onTo_55 (by decide) ?_
        refine g_if_ne C (pc := 56) 64 dX12_onTo_56 (by decide) (fun c56 => ?_) (fun c56 => ?_)
        · refine g_iload C (pc := 64) dX12_onTo_64 1 rfl ?_
          refine g_iadd C (pc := 66) dX12_onTo_66 ?_
          refine g_istore C (pc := 67) dX12_onTo_67 (by decide) (fun v67 => [(6, .int v67), (5, .int v49), (7, .int v31), (0, .ref 97), (1, .int x), (2, .int (nI wd)), (3, .int far), (4, .int asd)]) (fun _ => rfl) (fun v67 ev67 => ?_)
          have hCo : v67.toInt = ((q % rW F : Nat) : Int) + (if wd % 2 = 0 then asd.toInt else (if wd = 0 ∨ wd = 3 then -far.toInt else far.toInt)) := by
            rw [ev67]
            first
            | (rw [if_pos hpe, i32_add (by omega) (by omega) (by omega) (by omega), h14]; done)
            | (rw [if_neg (show ¬ wd % 2 = 0 by omega), ← h31, i32_add (by omega) (by omega) (by omega) (by omega), h14]; done)
          refine g_iload C (pc := 69) dX12_onTo_69 1 rfl ?_
          refine g_i2l C (pc := 71) dX12_onTo_71 ?_
          refine g_lconst C (pc := 72) 0 dX12_onTo_72 (by decide) ?_
          refine g_aload_n C (pc := 73) dX12_onTo_73 3 rfl ?_
          refine g_getI C (pc := 74) fl_RX12_102 (by decide) (by first | assumption | rfl | omega) (by first | assumption | rfl | omega) dX12_onTo_74 ?_
          refine g_iconst C (pc := 77) 1 dX12_onTo_77 (by decide) ?_
          refine g_isub C (pc := 78) dX12_onTo_78 ?_
          refine g_i2l C (pc := 79) dX12_onTo_79 ?_
          refine g_callSI C (pc := 80) mf_X12_in lk_RX12_113 (c_X12_in n ρ I _ _ _ hn9) (by decide) (Nat.le_refl _) rfl (Nat.le_of_ble_eq_true rfl) dX12_onTo_80 (fun v80 I80 h80 => ?_)
          obtain ⟨e80, rfl⟩ := h80
          refine g_if_eq C (pc := 83) 116 dX12_onTo_83 (by decide) (fun c83 => ?_) (fun c83 => ?_)
          · have hr8 : ¬ (0 ≤ v49.toInt ∧ v49.toInt < (rH F : Int)) := by
              rw [e80, qh] at c83
              exact fun h => bI_0.mp c83 ((inr_iff (by omega) (by omega)).mpr h)
            refine g_bipush C (pc := 116) (-4) dX12_onTo_116 (by decide) ?_
            refine g_iret C hR (pc := 118) rfl dX12_onTo_118 ?_
            refine ⟨rfl, _, rfl, ?_⟩
            refine ⟨?_, rfl⟩
            unfold onF
            rw [← hRo, ← hCo]
            first
            | (rw [if_pos ⟨hr9.1, hr9.2, hc9.1, hc9.2⟩, qw]; exact on_end hW5 hr9.1 (by omega) hc9.1 (by omega))
            | (rw [if_neg (fun h => hr8 ⟨h.1, h.2.1⟩)]; rfl)
            | (rw [if_neg (fun h => hc8 ⟨h.2.2.1, h.2.2.2⟩)]; rfl)
          · have hr9 : 0 ≤ v49.toInt ∧ v49.toInt < (rH F : Int) := by
              rw [e80, qh] at c83
              exact (inr_iff (by omega) (by omega)).mp (bI_1.mp c83)
            refine g_iload C (pc := 86) dX12_onTo_86 0 rfl ?_
            refine g_i2l C (pc := 88) dX12_onTo_88 ?_
            refine g_lconst C (pc := 89) 0 dX12_onTo_89 (by decide) ?_
            refine g_aload_n C (pc := 90) dX12_onTo_90 3 rfl ?_
            refine g_getI C (pc := 91) fl_RX12_99 (by decide) (by first | assumption | rfl | omega) (by first | assumption | rfl | omega) dX12_onTo_91 ?_
            refine g_iconst C (pc := 94) 1 dX12_onTo_94 (by decide) ?_
            refine g_isub C (pc := 95) dX12_onTo_95 ?_
            refine g_i2l C (pc := 96) dX12_onTo_96 ?_
            refine g_callSI C (pc := 97) mf_X12_in lk_RX12_113 (c_X12_in n ρ I _ _ _ hn9) (by decide) (Nat.le_refl _) rfl (Nat.le_of_ble_eq_true rfl) dX12_onTo_97 (fun v97 I97 h97 => ?_)
            obtain ⟨e97, rfl⟩ := h97
            refine g_if_eq C (pc := 100) 116 dX12_onTo_100 (by decide) (fun c100 => ?_) (fun c100 => ?_)
            · have hc8 : ¬ (0 ≤ v67.toInt ∧ v67.toInt < (rW F : Int)) := by
                rw [e97, qw] at c100
                exact fun h => bI_0.mp c100 ((inr_iff (by omega) (by omega)).mpr h)
              refine g_bipush C (pc := 116) (-4) dX12_onTo_116 (by decide) ?_
              refine g_iret C hR (pc := 118) rfl dX12_onTo_118 ?_
              refine ⟨rfl, _, rfl, ?_⟩
              refine ⟨?_, rfl⟩
              unfold onF
              rw [← hRo, ← hCo]
              first
              | (rw [if_pos ⟨hr9.1, hr9.2, hc9.1, hc9.2⟩, qw]; exact on_end hW5 hr9.1 (by omega) hc9.1 (by omega))
              | (rw [if_neg (fun h => hr8 ⟨h.1, h.2.1⟩)]; rfl)
              | (rw [if_neg (fun h => hc8 ⟨h.2.2.1, h.2.2.2⟩)]; rfl)
            · have hc9 : 0 ≤ v67.toInt ∧ v67.toInt < (rW F : Int) := by
                rw [e97, qw] at c100
                exact (inr_iff (by omega) (by omega)).mp (bI_1.mp c100)
              refine g_iload C (pc := 103) dX12_onTo_103 1 rfl ?_
              refine g_aload_n C (pc := 105) dX12_onTo_105 3 rfl ?_
              refine g_getI C (pc := 106) fl_RX12_99 (by decide) (by first | assumption | rfl | omega) (by first | assumption | rfl | omega) dX12_onTo_106 ?_
              refine g_imul C (pc := 109) dX12_onTo_109 ?_
              refine g_iload C (pc := 110) dX12_onTo_110 0 rfl ?_
              refine g_iadd C (pc := 112) dX12_onTo_112 ?_
              refine g_goto C (pc := 113) 118 dX12_onTo_113 (by decide) ?_
              refine g_iret C hR (pc := 118) rfl dX12_onTo_118 ?_
              refine ⟨rfl, _, rfl, ?_⟩
              refine ⟨?_, rfl⟩
              unfold onF
              rw [← hRo, ← hCo]
              first
              | (rw [if_pos ⟨hr9.1, hr9.2, hc9.1, hc9.2⟩, qw]; exact on_end hW5 hr9.1 (by omega) hc9.1 (by omega))
              | (rw [if_neg (fun h => hr8 ⟨h.1, h.2.1⟩)]; rfl)
              | (rw [if_neg (fun h => hc8 ⟨h.2.2.1, h.2.2.2⟩)]; rfl)
        · exact absurd c56 c38
      · exact absurd c38 (by rw [w3]; decide)
set_option maxHeartbeats 1600000 in
theorem c_X12_targets (n : Nat) (ρ : Rho) (I : Mem) (F : RT) (b : BT) (p q0 wd : Nat) (hn9 : n ≤ 999) (hms : MS n ρ) (hqf : QF I F) (hrw : RW F) (hqe : QE I F) (hqb : QB I F b) (hbw : BW F b) (hp : p < rN F) (hwd : wd < 4) (hpq : bP b p = some q0) (hq0 : q0 < rW F * rH F) (ho1 : 1 ≤ bO b p) (hsm : rSd F p = bM b) : MI yX12_targets cX12_targets 8 (some .int) 2 [.ref 97, .int (nI p), .int (nI wd)] n ρ I (fun v I1 => (∀ i, i < 32 → bt v i = tgt F b wd p i) ∧ I = I1) := by
  refine MG.of (by decide +kernel) (Nat.le_of_ble_eq_true rfl) hn9 ?_
  intro κ C hR
  show G κ n ρ 0 [(0, .ref 97), (1, .int (nI p)), (2, .int (nI wd))] [] I
  obtain ⟨mn, ⟨m0, m1, m5, m6, m7, m11, m12, m15⟩, ⟨m23, m24, m26, m27, m28, m30, m31, m32, m33⟩, ⟨m38, m39, m40, m42⟩⟩ := id hms
  obtain ⟨qw, qh, qn, qk⟩ := id hqf
  have hn6 : rN F ≤ 6 := hrw.2.2.2.2.1
  have hm25 := Nat.mul_le_mul hrw.2.1 hrw.2.2.2.1
  have hm4 := Nat.mul_le_mul hrw.1 hrw.2.2.1
  have hp6 : p < 6 := by omega
  have hk4 := (hrw.2.2.2.2.2.1 p hp).2
  have hq25 : q0 < 25 := (hbw.2.1 p hp).1 q0 hpq
  have hW2 := hrw.1
  have hW5 := hrw.2.1
  have hH2 := hrw.2.2.1
  have hH5 := hrw.2.2.2.1
  have hcl : (nI p).toNatClampNeg = p := nI_clamp (by omega)
  refine g_iconst C (pc := 0) 0 dX12_targets_0 (by decide) ?_
  refine g_istore_n C (pc := 1) dX12_targets_1 (by decide) (fun v1 => [(3, .int v1), (0, .ref 97), (1, .int (nI p)), (2, .int (nI wd))]) (fun _ => rfl) (fun v1 ev1 => ?_)
  refine g_aload_n C (pc := 2) dX12_targets_2 1 rfl ?_
  refine g_getR C (pc := 3) fl_RX12_20 (by decide) (by first | assumption | rfl | omega) (by first | assumption | rfl | omega) (by first | assumption | rfl | omega) dX12_targets_3 ?_
  refine g_iload_n C (pc := 6) dX12_targets_6 2 rfl ?_
  refine g_iald C (pc := 7) (by first | assumption | rfl | omega) (by first | assumption | rfl | omega) (vp_in_nI (n := p) (by omega) (by decide)) dX12_targets_7 ?_
  refine g_iconst C (pc := 8) 3 dX12_targets_8 (by decide) ?_
  refine g_icmp_ne C (pc := 9) 69 dX12_targets_9 (by decide) (fun c9 => ?_) (fun c9 => ?_)
  · have hk3 : rKd F p ≠ 3 := fun h => c9 (by rw [hcl, (qk p hp).2, h]; rfl)
    refine g_iconst C (pc := 69) 1 dX12_targets_69 (by decide) ?_
    refine g_istore C (pc := 70) dX12_targets_70 (by decide) (fun v70 => [(4, .int v70), (3, .int v1), (0, .ref 97), (1, .int (nI p)), (2, .int (nI wd))]) (fun _ => rfl) (fun v70 ev70 => ?_)
    refine g_aload_n C (pc := 72) dX12_targets_72 2 rfl ?_
    refine g_getR C (pc := 73) fl_RX12_20 (by decide) (by first | assumption | rfl | omega) (by first | assumption | rfl | omega) (by first | assumption | rfl | omega) dX12_targets_73 ?_
    refine g_iload_n C (pc := 76) dX12_targets_76 3 rfl ?_
    refine g_iald C (pc := 77) (by first | assumption | rfl | omega) (by first | assumption | rfl | omega) (vp_in_nI (n := p) (by omega) (by decide)) dX12_targets_77 ?_
    refine g_iconst C (pc := 78) 2 dX12_targets_78 (by decide) ?_
    refine g_icmp_ne C (pc := 79) 86 dX12_targets_79 (by decide) (fun c79 => ?_) (fun c79 => ?_)
    · refine g_iconst C (pc := 86) 1 dX12_targets_86 (by decide) ?_
      refine g_istore C (pc := 87) dX12_targets_87 (by decide) (fun v87 => [(5, .int v87), (4, .int v70), (3, .int v1), (0, .ref 97), (1, .int (nI p)), (2, .int (nI wd))]) (fun _ => rfl) (fun v87 ev87 => ?_)
      obtain ⟨M, hM⟩ : ∃ M, M = (if rKd F p = 2 then 5 else 1) := ⟨_, rfl⟩
      have h87 : v87 = nI M := by
        rw [ev87, hM]
        first
        | (rw [if_pos (by rw [hcl, (qk p hp).2] at c79; exact (nI_eq (b := 2) (by omega) (by decide)).mp c79)]; rfl)
        | (rw [if_neg (fun h => c79 (by rw [hcl, (qk p hp).2, h]; rfl))]; rfl)
      have hM5 : M ≤ 5 := by rw [hM]; split <;> omega
      refine g_iconst C (pc := 89) 1 dX12_targets_89 (by decide) ?_
      refine g_istore C (pc := 90) dX12_targets_90 (by decide) (fun v90 => [(6, .int v90), (5, .int v87), (4, .int v70), (3, .int v1), (0, .ref 97), (1, .int (nI p)), (2, .int (nI wd))]) (fun _ => rfl) (fun v90 ev90 => ?_)
      have L92 : ∀ (k9 : Nat) (k : Nat) (o : Option Nat) (V : List Nat) (wz6 : Int32) (wz4 : Int32) (wz3 : Int32) (hw6 : wz6 = nI (k + 1)) (hk : k ≤ M) (hw4 : wz4 = bI (o.isSome = true)) (hb : ∀ i, i < 32 → bt wz3 i = (decide (i ∈ V) && !rS F i)) (hV : rayL F b wd M q0 = V ++ rayO F b wd (M - k) o) (ho : ∀ c, o = some c → nxk (rW F) (rH F) wd k q0 = some c), M - k < k9 → G κ n ρ 92 [(6, .int wz6), (4, .int wz4), (3, .int wz3), (5, .int v87), (0, .ref 97), (1, .int (nI p)), (2, .int (nI wd))] [] I := by
        intro k9
        induction k9 with
        | zero => intro k o V wz6 wz4 wz3 hw6 hk hw4 hb hV ho hm92; exact absurd hm92 (Nat.not_lt_zero _)
        | succ k9 ih92 =>
          intro k o V wz6 wz4 wz3 hw6 hk hw4 hb hV ho hm92
          refine g_iload C (pc := 92) dX12_targets_92 0 rfl ?_
          refine g_iload C (pc := 94) dX12_targets_94 3 rfl ?_
          refine g_icmp_gt C (pc := 96) 173 dX12_targets_96 (by decide) (fun c96 => ?_) (fun c96 => ?_)
          · have hend : rayO F b wd (M - k) o = [] := by
              rw [hw6, h87, nI_ltI (by omega) (by omega)] at c96
              rw [show M - k = 0 by omega]; exact rayO_0
            refine g_aload_n C (pc := 173) dX12_targets_173 4 rfl ?_
            refine g_iload_n C (pc := 174) dX12_targets_174 2 rfl ?_
            refine g_callVI C (pc := 175) mf_X12_ownGone lk_RX12_215 (c_X12_ownGone n ρ I F b _ hn9 hms hqf hrw hqb hbw) (by decide) (Nat.le_refl _) rfl (by first | assumption | rfl | omega) rfl (by first | assumption | rfl | omega) (Nat.le_of_ble_eq_true rfl) dX12_targets_175 (fun v175 I175 h175 => ?_)
            obtain ⟨e175, rfl⟩ := h175
            refine g_iret C hR (pc := 178) rfl dX12_targets_178 ?_
            refine ⟨rfl, _, rfl, ?_⟩
            refine ⟨fun i hi => ?_, rfl⟩
            rw [hend, List.append_nil] at hV
            rw [e175 i hi, hb i hi, tgt_of hpq ho1 hsm, kinL_run hrw hk3 hwd hq0, ← hM, hV]
          · have hkM : k < M := by
              rw [hw6, h87, nI_leI (by omega) (by omega)] at c96
              omega
            refine g_iload C (pc := 99) dX12_targets_99 1 rfl ?_
            refine g_if_eq C (pc := 101) 173 dX12_targets_101 (by decide) (fun c101 => ?_) (fun c101 => ?_)
            · have hend : rayO F b wd (M - k) o = [] := by
                rw [hw4] at c101
                have := bI_0.mp c101
                cases o with
                | none => rfl
                | some c => exact absurd rfl this
              refine g_aload_n C (pc := 173) dX12_targets_173 4 rfl ?_
              refine g_iload_n C (pc := 174) dX12_targets_174 2 rfl ?_
              refine g_callVI C (pc := 175) mf_X12_ownGone lk_RX12_215 (c_X12_ownGone n ρ I F b _ hn9 hms hqf hrw hqb hbw) (by decide) (Nat.le_refl _) rfl (by first | assumption | rfl | omega) rfl (by first | assumption | rfl | omega) (Nat.le_of_ble_eq_true rfl) dX12_targets_175 (fun v175 I175 h175 => ?_)
              obtain ⟨e175, rfl⟩ := h175
              refine g_iret C hR (pc := 178) rfl dX12_targets_178 ?_
              refine ⟨rfl, _, rfl, ?_⟩
              refine ⟨fun i hi => ?_, rfl⟩
              rw [hend, List.append_nil] at hV
              rw [e175 i hi, hb i hi, tgt_of hpq ho1 hsm, kinL_run hrw hk3 hwd hq0, ← hM, hV]
            · obtain ⟨c, hoc⟩ : ∃ c, o = some c := by
                rw [hw4] at c101
                have := bI_1.mp c101
                cases o with
                | none => cases this
                | some c => exact ⟨c, rfl⟩
              refine g_aload_n C (pc := 104) dX12_targets_104 4 rfl ?_
              refine g_aload_n C (pc := 105) dX12_targets_105 4 rfl ?_
              refine g_getR C (pc := 106) fl_RX12_35 (by decide) (by first | assumption | rfl | omega) (by first | assumption | rfl | omega) (by first | assumption | rfl | omega) dX12_targets_106 ?_
              refine g_iload_n C (pc := 109) dX12_targets_109 5 rfl ?_
              refine g_iald C (pc := 110) (by first | assumption | rfl | omega) (by first | assumption | rfl | omega) (vp_in_nI (n := p) (by omega) (by decide)) dX12_targets_110 ?_
              refine g_iload_n C (pc := 111) dX12_targets_111 6 rfl ?_
              refine g_iload C (pc := 112) dX12_targets_112 0 rfl ?_
              refine g_iconst C (pc := 114) 0 dX12_targets_114 (by decide) ?_
              refine g_callVI C (pc := 115) mf_X12_onTo lk_RX12_207 (c_X12_onTo n ρ I F q0 wd _ wz6 0 hn9 hms hqf hrw hq0 hwd (by rw [(nI_clamp (by omega) : (nI p).toNatClampNeg = p), (hqb.1 p (by omega)).1, hpq]; rfl) (by rw [hw6, nI_toInt (by omega)]; omega) (by rw [hw6, nI_toInt (by omega)]; omega) (by decide) (by decide)) (by decide) (Nat.le_refl _) rfl (by first | assumption | rfl | omega) rfl (by first | assumption | rfl | omega) (Nat.le_of_ble_eq_true rfl) dX12_targets_115 (fun v115 I115 h115 => ?_)
              obtain ⟨e115, rfl⟩ := h115
              refine g_istore C (pc := 118) dX12_targets_118 (by decide) (fun v118 => [(7, .int v118), (6, .int wz6), (4, .int wz4), (3, .int wz3), (5, .int v87), (0, .ref 97), (1, .int (nI p)), (2, .int (nI wd))]) (fun _ => rfl) (fun v118 ev118 => ?_)
              have hv118 : v118 = oI (nxtO F (some c) wd) := by
                rw [ev118, e115, hw6, nI_toInt (by omega)]
                refine congrArg oI ?_
                have := on_far (w := wd) (q := q0) (k := k) (show rW F < 6 by omega) (show rH F < 6 by omega) hW2 hH2 hwd hq0 (by omega)
                rw [show ((k + 1 : Nat) : Int) = (k : Int) + 1 by omega]
                refine this.trans ?_
                show (nxk (rW F) (rH F) wd k q0).bind _ = _
                rw [ho c hoc]; rfl
              refine g_aload_n C (pc := 120) dX12_targets_120 5 rfl ?_
              refine g_iload C (pc := 121) dX12_targets_121 0 rfl ?_
              refine g_callVI C (pc := 123) mf_X12_isOpen lk_RX12_211 (c_X12_isOpen n ρ I F (nxtO F (some c) wd) _ hn9 hms hqe (fun z hz => by have := nxtO_lt2 hrw hz; omega) hv118) (by decide) (Nat.le_refl _) rfl (by first | assumption | rfl | omega) rfl (by first | assumption | rfl | omega) (Nat.le_of_ble_eq_true rfl) dX12_targets_123 (fun v123 I123 h123 => ?_)
              obtain ⟨e123, rfl⟩ := h123
              refine g_istore C (pc := 126) dX12_targets_126 (by decide) (fun v126 => [(4, .int v126), (7, .int v118), (6, .int wz6), (3, .int wz3), (5, .int v87), (0, .ref 97), (1, .int (nI p)), (2, .int (nI wd))]) (fun _ => rfl) (fun v126 ev126 => ?_)
              refine g_iload_n C (pc := 128) dX12_targets_128 3 rfl ?_
              refine g_iload C (pc := 129) dX12_targets_129 0 rfl ?_
              refine g_if_eq C (pc := 131) 141 dX12_targets_131 (by decide) (fun c131 => ?_) (fun c131 => ?_)
              · have hno : ¬ ((nxtO F (some c) wd).map (rS F)) = some false := by
                  rw [ev126, e123] at c131
                  exact bI_0.mp c131
                have hst : stpO F b wd c = none := by
                  unfold stpO
                  cases h9 : nxtO F (some c) wd with
                  | none => rfl
                  | some a =>
                    have h8 : rS F a = true := by
                      cases h7 : rS F a with
                      | true => rfl
                      | false => exact absurd (by rw [h9]; exact congrArg some h7) hno
                    show (if stpB F b a = true then none else some a) = none
                    rw [if_pos (by unfold stpB; rw [h8]; rfl)]
                refine g_iconst C (pc := 141) 0 dX12_targets_141 (by decide) ?_
                refine g_ior C (pc := 142) dX12_targets_142 ?_
                refine g_istore_n C (pc := 143) dX12_targets_143 (by decide) (fun v143 => [(3, .int v143), (4, .int v126), (7, .int v118), (6, .int wz6), (5, .int v87), (0, .ref 97), (1, .int (nI p)), (2, .int (nI wd))]) (fun _ => rfl) (fun v143 ev143 => ?_)
                refine g_iload C (pc := 144) dX12_targets_144 1 rfl ?_
                refine g_if_eq C (pc := 146) 164 dX12_targets_146 (by decide) (fun c146 => ?_) (fun c146 => ?_)
                · refine g_iconst C (pc := 164) 0 dX12_targets_164 (by decide) ?_
                  refine g_istore C (pc := 165) dX12_targets_165 (by decide) (fun v165 => [(4, .int v165), (3, .int v143), (7, .int v118), (6, .int wz6), (5, .int v87), (0, .ref 97), (1, .int (nI p)), (2, .int (nI wd))]) (fun _ => rfl) (fun v165 ev165 => ?_)
                  refine g_iinc C (pc := 167) (1) dX12_targets_167 3 rfl (by decide) (by decide) (fun v167 => [(6, .int v167), (4, .int v165), (3, .int v143), (7, .int v118), (5, .int v87), (0, .ref 97), (1, .int (nI p)), (2, .int (nI wd))]) (fun _ => rfl) (fun v167 ev167 => ?_)
                  refine g_goto C (pc := 170) 92 dX12_targets_170 (by decide) ?_
                  refine g_lv C [0, 1, 2, 4, 5, 6, 7] rfl (ih92 (k + 1) (stpO F b wd c) (V ++ (nxtO F (some c) wd).toList) _ _ _ ?_ ?_ ?_ ?_ ?_ ?_ (by omega))
                  · subst ev167; rw [hw6]; exact nI_1 _
                  · omega
                  · rw [ev165, hst]; rfl
                  · intro i hi
                    rw [ev143, b_or, hb i hi, mem_app]
                    first
                    | (rw [hbi i hi]; done)
                    | (rw [no_open hno i, b_0]; done)
                  · rw [hV, List.append_assoc, show M - k = (M - (k + 1)) + 1 by omega, hoc]; exact congrArg _ ray_step
                  · intro c9 h9
                    have : nxtO F (some c) wd = some c9 := by
                      unfold stpO at h9
                      obtain ⟨z, h1, h2⟩ := Option.bind_eq_some_iff.mp h9
                      split at h2
                      · cases h2
                      · cases h2; exact h1
                    show (nxk (rW F) (rH F) wd k q0).bind _ = _
                    rw [ho c hoc]; exact this
                · exact absurd c131 c146
              · have hop := bI_1.mp (fun h => c131 (by rw [ev126, e123, h]))
                obtain ⟨a9, ha9, hra⟩ := Option.map_eq_some_iff.mp hop
                have ha25 := nxtO_lt2 hrw ha9
                have hbi : ∀ i, i < 32 → bt (1 <<< (v118 &&& 31)) i = (decide (i ∈ (nxtO F (some c) wd).toList) && !rS F i) := fun i hi => by
                  have h1 := bitO_at (a := some a9) (by intro z hz; cases hz; omega) hi
                  unfold bitO at h1
                  rw [if_pos ⟨nI_pos' (n := a9) (by omega), nI_lt (a := a9) (b := 25) (by omega) (by decide)⟩] at h1
                  rw [hv118, ha9, h1]
                  by_cases h2 : i = a9
                  · subst h2; rw [hra]; simp
                  · simp [h2, Ne.symm h2]
                refine g_iconst C (pc := 134) 1 dX12_targets_134 (by decide) ?_
                refine g_iload C (pc := 135) dX12_targets_135 1 rfl ?_
                refine g_ishl C (pc := 137) dX12_targets_137 ?_
                refine g_goto C (pc := 138) 142 dX12_targets_138 (by decide) ?_
                refine g_ior C (pc := 142) dX12_targets_142 ?_
                refine g_istore_n C (pc := 143) dX12_targets_143 (by decide) (fun v143 => [(3, .int v143), (4, .int v126), (7, .int v118), (6, .int wz6), (5, .int v87), (0, .ref 97), (1, .int (nI p)), (2, .int (nI wd))]) (fun _ => rfl) (fun v143 ev143 => ?_)
                refine g_iload C (pc := 144) dX12_targets_144 1 rfl ?_
                refine g_if_eq C (pc := 146) 164 dX12_targets_146 (by decide) (fun c146 => ?_) (fun c146 => ?_)
                · exact absurd c146 c131
                · refine g_aload_n C (pc := 149) dX12_targets_149 5 rfl ?_
                  refine g_iload C (pc := 150) dX12_targets_150 2 rfl ?_
                  refine g_callVI C (pc := 152) mf_X12_pieceAt lk_RX12_218 (c_X12_pieceAt n ρ I F b a9 _ hn9 hms hqf hrw hqb hbw (by omega) (by rw [hv118, ha9]; rfl)) (by decide) (Nat.le_refl _) rfl (by first | assumption | rfl | omega) rfl (by first | assumption | rfl | omega) (Nat.le_of_ble_eq_true rfl) dX12_targets_152 (fun v152 I152 h152 => ?_)
                  obtain ⟨e152, rfl⟩ := h152
                  refine g_bipush C (pc := 155) (-4) dX12_targets_155 (by decide) ?_
                  refine g_icmp_ne C (pc := 157) 164 dX12_targets_157 (by decide) (fun c157 => ?_) (fun c157 => ?_)
                  · have hst : stpO F b wd c = none := by
                      unfold stpO; rw [ha9]
                      show (if stpB F b a9 = true then none else some a9) = none
                      rw [if_pos ((stp_pon hrw hra).mpr (fun h => c157 (by rw [e152, h]; rfl)))]
                    refine g_iconst C (pc := 164) 0 dX12_targets_164 (by decide) ?_
                    refine g_istore C (pc := 165) dX12_targets_165 (by decide) (fun v165 => [(4, .int v165), (3, .int v143), (7, .int v118), (6, .int wz6), (5, .int v87), (0, .ref 97), (1, .int (nI p)), (2, .int (nI wd))]) (fun _ => rfl) (fun v165 ev165 => ?_)
                    refine g_iinc C (pc := 167) (1) dX12_targets_167 3 rfl (by decide) (by decide) (fun v167 => [(6, .int v167), (4, .int v165), (3, .int v143), (7, .int v118), (5, .int v87), (0, .ref 97), (1, .int (nI p)), (2, .int (nI wd))]) (fun _ => rfl) (fun v167 ev167 => ?_)
                    refine g_goto C (pc := 170) 92 dX12_targets_170 (by decide) ?_
                    refine g_lv C [0, 1, 2, 4, 5, 6, 7] rfl (ih92 (k + 1) (stpO F b wd c) (V ++ (nxtO F (some c) wd).toList) _ _ _ ?_ ?_ ?_ ?_ ?_ ?_ (by omega))
                    · subst ev167; rw [hw6]; exact nI_1 _
                    · omega
                    · rw [ev165, hst]; rfl
                    · intro i hi
                      rw [ev143, b_or, hb i hi, mem_app]
                      first
                      | (rw [hbi i hi]; done)
                      | (rw [no_open hno i, b_0]; done)
                    · rw [hV, List.append_assoc, show M - k = (M - (k + 1)) + 1 by omega, hoc]; exact congrArg _ ray_step
                    · intro c9 h9
                      have : nxtO F (some c) wd = some c9 := by
                        unfold stpO at h9
                        obtain ⟨z, h1, h2⟩ := Option.bind_eq_some_iff.mp h9
                        split at h2
                        · cases h2
                        · cases h2; exact h1
                      show (nxk (rW F) (rH F) wd k q0).bind _ = _
                      rw [ho c hoc]; exact this
                  · have hst : stpO F b wd c = some a9 := by
                      unfold stpO; rw [ha9]
                      show (if stpB F b a9 = true then none else some a9) = some a9
                      rw [if_neg (fun h => (stp_pon hrw hra).mp h ((oI_none (fun z hz => by have := (pon_some hz).1; omega)).mp (e152.symm.trans c157)))]
                    refine g_iconst C (pc := 160) 1 dX12_targets_160 (by decide) ?_
                    refine g_goto C (pc := 161) 165 dX12_targets_161 (by decide) ?_
                    refine g_istore C (pc := 165) dX12_targets_165 (by decide) (fun v165 => [(4, .int v165), (3, .int v143), (7, .int v118), (6, .int wz6), (5, .int v87), (0, .ref 97), (1, .int (nI p)), (2, .int (nI wd))]) (fun _ => rfl) (fun v165 ev165 => ?_)
                    refine g_iinc C (pc := 167) (1) dX12_targets_167 3 rfl (by decide) (by decide) (fun v167 => [(6, .int v167), (4, .int v165), (3, .int v143), (7, .int v118), (5, .int v87), (0, .ref 97), (1, .int (nI p)), (2, .int (nI wd))]) (fun _ => rfl) (fun v167 ev167 => ?_)
                    refine g_goto C (pc := 170) 92 dX12_targets_170 (by decide) ?_
                    refine g_lv C [0, 1, 2, 4, 5, 6, 7] rfl (ih92 (k + 1) (stpO F b wd c) (V ++ (nxtO F (some c) wd).toList) _ _ _ ?_ ?_ ?_ ?_ ?_ ?_ (by omega))
                    · subst ev167; rw [hw6]; exact nI_1 _
                    · omega
                    · rw [ev165, hst]; rfl
                    · intro i hi
                      rw [ev143, b_or, hb i hi, mem_app]
                      first
                      | (rw [hbi i hi]; done)
                      | (rw [no_open hno i, b_0]; done)
                    · rw [hV, List.append_assoc, show M - k = (M - (k + 1)) + 1 by omega, hoc]; exact congrArg _ ray_step
                    · intro c9 h9
                      have : nxtO F (some c) wd = some c9 := by
                        unfold stpO at h9
                        obtain ⟨z, h1, h2⟩ := Option.bind_eq_some_iff.mp h9
                        split at h2
                        · cases h2
                        · cases h2; exact h1
                      show (nxk (rW F) (rH F) wd k q0).bind _ = _
                      rw [ho c hoc]; exact this
      refine g_lv C [0, 2, 3, 1, 4, 5, 6] rfl (L92 (_ + 1) 0 (some q0) [] _ _ _ ?_ ?_ ?_ ?_ ?_ ?_ (by first | omega | exact Nat.lt_succ_self _))
      · subst ev90; rfl
      · omega
      · subst ev70; rfl
      · intro i hi; subst ev1; rw [b_0]; rfl
      · rfl
      · intro c h; cases h; rfl
    · refine g_iconst C (pc := 82) 5 dX12_targets_82 (by decide) ?_
      refine g_goto C (pc := 83) 87 dX12_targets_83 (by decide) ?_
      refine g_istore C (pc := 87) dX12_targets_87 (by decide) (fun v87 => [(5, .int v87), (4, .int v70), (3, .int v1), (0, .ref 97), (1, .int (nI p)), (2, .int (nI wd))]) (fun _ => rfl) (fun v87 ev87 => ?_)
      obtain ⟨M, hM⟩ : ∃ M, M = (if rKd F p = 2 then 5 else 1) := ⟨_, rfl⟩
      have h87 : v87 = nI M := by
        rw [ev87, hM]
        first
        | (rw [if_pos (by rw [hcl, (qk p hp).2] at c79; exact (nI_eq (b := 2) (by omega) (by decide)).mp c79)]; rfl)
        | (rw [if_neg (fun h => c79 (by rw [hcl, (qk p hp).2, h]; rfl))]; rfl)
      have hM5 : M ≤ 5 := by rw [hM]; split <;> omega
      refine g_iconst C (pc := 89) 1 dX12_targets_89 (by decide) ?_
      refine g_istore C (pc := 90) dX12_targets_90 (by decide) (fun v90 => [(6, .int v90), (5, .int v87), (4, .int v70), (3, .int v1), (0, .ref 97), (1, .int (nI p)), (2, .int (nI wd))]) (fun _ => rfl) (fun v90 ev90 => ?_)
      have L92 : ∀ (k9 : Nat) (k : Nat) (o : Option Nat) (V : List Nat) (wz6 : Int32) (wz4 : Int32) (wz3 : Int32) (hw6 : wz6 = nI (k + 1)) (hk : k ≤ M) (hw4 : wz4 = bI (o.isSome = true)) (hb : ∀ i, i < 32 → bt wz3 i = (decide (i ∈ V) && !rS F i)) (hV : rayL F b wd M q0 = V ++ rayO F b wd (M - k) o) (ho : ∀ c, o = some c → nxk (rW F) (rH F) wd k q0 = some c), M - k < k9 → G κ n ρ 92 [(6, .int wz6), (4, .int wz4), (3, .int wz3), (5, .int v87), (0, .ref 97), (1, .int (nI p)), (2, .int (nI wd))] [] I := by
        intro k9
        induction k9 with
        | zero => intro k o V wz6 wz4 wz3 hw6 hk hw4 hb hV ho hm92; exact absurd hm92 (Nat.not_lt_zero _)
        | succ k9 ih92 =>
          intro k o V wz6 wz4 wz3 hw6 hk hw4 hb hV ho hm92
          refine g_iload C (pc := 92) dX12_targets_92 0 rfl ?_
          refine g_iload C (pc := 94) dX12_targets_94 3 rfl ?_
          refine g_icmp_gt C (pc := 96) 173 dX12_targets_96 (by decide) (fun c96 => ?_) (fun c96 => ?_)
          · have hend : rayO F b wd (M - k) o = [] := by
              rw [hw6, h87, nI_ltI (by omega) (by omega)] at c96
              rw [show M - k = 0 by omega]; exact rayO_0
            refine g_aload_n C (pc := 173) dX12_targets_173 4 rfl ?_
            refine g_iload_n C (pc := 174) dX12_targets_174 2 rfl ?_
            refine g_callVI C (pc := 175) mf_X12_ownGone lk_RX12_215 (c_X12_ownGone n ρ I F b _ hn9 hms hqf hrw hqb hbw) (by decide) (Nat.le_refl _) rfl (by first | assumption | rfl | omega) rfl (by first | assumption | rfl | omega) (Nat.le_of_ble_eq_true rfl) dX12_targets_175 (fun v175 I175 h175 => ?_)
            obtain ⟨e175, rfl⟩ := h175
            refine g_iret C hR (pc := 178) rfl dX12_targets_178 ?_
            refine ⟨rfl, _, rfl, ?_⟩
            refine ⟨fun i hi => ?_, rfl⟩
            rw [hend, List.append_nil] at hV
            rw [e175 i hi, hb i hi, tgt_of hpq ho1 hsm, kinL_run hrw hk3 hwd hq0, ← hM, hV]
          · have hkM : k < M := by
              rw [hw6, h87, nI_leI (by omega) (by omega)] at c96
              omega
            refine g_iload C (pc := 99) dX12_targets_99 1 rfl ?_
            refine g_if_eq C (pc := 101) 173 dX12_targets_101 (by decide) (fun c101 => ?_) (fun c101 => ?_)
            · have hend : rayO F b wd (M - k) o = [] := by
                rw [hw4] at c101
                have := bI_0.mp c101
                cases o with
                | none => rfl
                | some c => exact absurd rfl this
              refine g_aload_n C (pc := 173) dX12_targets_173 4 rfl ?_
              refine g_iload_n C (pc := 174) dX12_targets_174 2 rfl ?_
              refine g_callVI C (pc := 175) mf_X12_ownGone lk_RX12_215 (c_X12_ownGone n ρ I F b _ hn9 hms hqf hrw hqb hbw) (by decide) (Nat.le_refl _) rfl (by first | assumption | rfl | omega) rfl (by first | assumption | rfl | omega) (Nat.le_of_ble_eq_true rfl) dX12_targets_175 (fun v175 I175 h175 => ?_)
              obtain ⟨e175, rfl⟩ := h175
              refine g_iret C hR (pc := 178) rfl dX12_targets_178 ?_
              refine ⟨rfl, _, rfl, ?_⟩
              refine ⟨fun i hi => ?_, rfl⟩
              rw [hend, List.append_nil] at hV
              rw [e175 i hi, hb i hi, tgt_of hpq ho1 hsm, kinL_run hrw hk3 hwd hq0, ← hM, hV]
            · obtain ⟨c, hoc⟩ : ∃ c, o = some c := by
                rw [hw4] at c101
                have := bI_1.mp c101
                cases o with
                | none => cases this
                | some c => exact ⟨c, rfl⟩
              refine g_aload_n C (pc := 104) dX12_targets_104 4 rfl ?_
              refine g_aload_n C (pc := 105) dX12_targets_105 4 rfl ?_
              refine g_getR C (pc := 106) fl_RX12_35 (by decide) (by first | assumption | rfl | omega) (by first | assumption | rfl | omega) (by first | assumption | rfl | omega) dX12_targets_106 ?_
              refine g_iload_n C (pc := 109) dX12_targets_109 5 rfl ?_
              refine g_iald C (pc := 110) (by first | assumption | rfl | omega) (by first | assumption | rfl | omega) (vp_in_nI (n := p) (by omega) (by decide)) dX12_targets_110 ?_
              refine g_iload_n C (pc := 111) dX12_targets_111 6 rfl ?_
              refine g_iload C (pc := 112) dX12_targets_112 0 rfl ?_
              refine g_iconst C (pc := 114) 0 dX12_targets_114 (by decide) ?_
              refine g_callVI C (pc := 115) mf_X12_onTo lk_RX12_207 (c_X12_onTo n ρ I F q0 wd _ wz6 0 hn9 hms hqf hrw hq0 hwd (by rw [(nI_clamp (by omega) : (nI p).toNatClampNeg = p), (hqb.1 p (by omega)).1, hpq]; rfl) (by rw [hw6, nI_toInt (by omega)]; omega) (by rw [hw6, nI_toInt (by omega)]; omega) (by decide) (by decide)) (by decide) (Nat.le_refl _) rfl (by first | assumption | rfl | omega) rfl (by first | assumption | rfl | omega) (Nat.le_of_ble_eq_true rfl) dX12_targets_115 (fun v115 I115 h115 => ?_)
              obtain ⟨e115, rfl⟩ := h115
              refine g_istore C (pc := 118) dX12_targets_118 (by decide) (fun v118 => [(7, .int v118), (6, .int wz6), (4, .int wz4), (3, .int wz3), (5, .int v87), (0, .ref 97), (1, .int (nI p)), (2, .int (nI wd))]) (fun _ => rfl) (fun v118 ev118 => ?_)
              have hv118 : v118 = oI (nxtO F (some c) wd) := by
                rw [ev118, e115, hw6, nI_toInt (by omega)]
                refine congrArg oI ?_
                have := on_far (w := wd) (q := q0) (k := k) (show rW F < 6 by omega) (show rH F < 6 by omega) hW2 hH2 hwd hq0 (by omega)
                rw [show ((k + 1 : Nat) : Int) = (k : Int) + 1 by omega]
                refine this.trans ?_
                show (nxk (rW F) (rH F) wd k q0).bind _ = _
                rw [ho c hoc]; rfl
              refine g_aload_n C (pc := 120) dX12_targets_120 5 rfl ?_
              refine g_iload C (pc := 121) dX12_targets_121 0 rfl ?_
              refine g_callVI C (pc := 123) mf_X12_isOpen lk_RX12_211 (c_X12_isOpen n ρ I F (nxtO F (some c) wd) _ hn9 hms hqe (fun z hz => by have := nxtO_lt2 hrw hz; omega) hv118) (by decide) (Nat.le_refl _) rfl (by first | assumption | rfl | omega) rfl (by first | assumption | rfl | omega) (Nat.le_of_ble_eq_true rfl) dX12_targets_123 (fun v123 I123 h123 => ?_)
              obtain ⟨e123, rfl⟩ := h123
              refine g_istore C (pc := 126) dX12_targets_126 (by decide) (fun v126 => [(4, .int v126), (7, .int v118), (6, .int wz6), (3, .int wz3), (5, .int v87), (0, .ref 97), (1, .int (nI p)), (2, .int (nI wd))]) (fun _ => rfl) (fun v126 ev126 => ?_)
              refine g_iload_n C (pc := 128) dX12_targets_128 3 rfl ?_
              refine g_iload C (pc := 129) dX12_targets_129 0 rfl ?_
              refine g_if_eq C (pc := 131) 141 dX12_targets_131 (by decide) (fun c131 => ?_) (fun c131 => ?_)
              · have hno : ¬ ((nxtO F (some c) wd).map (rS F)) = some false := by
                  rw [ev126, e123] at c131
                  exact bI_0.mp c131
                have hst : stpO F b wd c = none := by
                  unfold stpO
                  cases h9 : nxtO F (some c) wd with
                  | none => rfl
                  | some a =>
                    have h8 : rS F a = true := by
                      cases h7 : rS F a with
                      | true => rfl
                      | false => exact absurd (by rw [h9]; exact congrArg some h7) hno
                    show (if stpB F b a = true then none else some a) = none
                    rw [if_pos (by unfold stpB; rw [h8]; rfl)]
                refine g_iconst C (pc := 141) 0 dX12_targets_141 (by decide) ?_
                refine g_ior C (pc := 142) dX12_targets_142 ?_
                refine g_istore_n C (pc := 143) dX12_targets_143 (by decide) (fun v143 => [(3, .int v143), (4, .int v126), (7, .int v118), (6, .int wz6), (5, .int v87), (0, .ref 97), (1, .int (nI p)), (2, .int (nI wd))]) (fun _ => rfl) (fun v143 ev143 => ?_)
                refine g_iload C (pc := 144) dX12_targets_144 1 rfl ?_
                refine g_if_eq C (pc := 146) 164 dX12_targets_146 (by decide) (fun c146 => ?_) (fun c146 => ?_)
                · refine g_iconst C (pc := 164) 0 dX12_targets_164 (by decide) ?_
                  refine g_istore C (pc := 165) dX12_targets_165 (by decide) (fun v165 => [(4, .int v165), (3, .int v143), (7, .int v118), (6, .int wz6), (5, .int v87), (0, .ref 97), (1, .int (nI p)), (2, .int (nI wd))]) (fun _ => rfl) (fun v165 ev165 => ?_)
                  refine g_iinc C (pc := 167) (1) dX12_targets_167 3 rfl (by decide) (by decide) (fun v167 => [(6, .int v167), (4, .int v165), (3, .int v143), (7, .int v118), (5, .int v87), (0, .ref 97), (1, .int (nI p)), (2, .int (nI wd))]) (fun _ => rfl) (fun v167 ev167 => ?_)
                  refine g_goto C (pc := 170) 92 dX12_targets_170 (by decide) ?_
                  refine g_lv C [0, 1, 2, 4, 5, 6, 7] rfl (ih92 (k + 1) (stpO F b wd c) (V ++ (nxtO F (some c) wd).toList) _ _ _ ?_ ?_ ?_ ?_ ?_ ?_ (by omega))
                  · subst ev167; rw [hw6]; exact nI_1 _
                  · omega
                  · rw [ev165, hst]; rfl
                  · intro i hi
                    rw [ev143, b_or, hb i hi, mem_app]
                    first
                    | (rw [hbi i hi]; done)
                    | (rw [no_open hno i, b_0]; done)
                  · rw [hV, List.append_assoc, show M - k = (M - (k + 1)) + 1 by omega, hoc]; exact congrArg _ ray_step
                  · intro c9 h9
                    have : nxtO F (some c) wd = some c9 := by
                      unfold stpO at h9
                      obtain ⟨z, h1, h2⟩ := Option.bind_eq_some_iff.mp h9
                      split at h2
                      · cases h2
                      · cases h2; exact h1
                    show (nxk (rW F) (rH F) wd k q0).bind _ = _
                    rw [ho c hoc]; exact this
                · exact absurd c131 c146
              · have hop := bI_1.mp (fun h => c131 (by rw [ev126, e123, h]))
                obtain ⟨a9, ha9, hra⟩ := Option.map_eq_some_iff.mp hop
                have ha25 := nxtO_lt2 hrw ha9
                have hbi : ∀ i, i < 32 → bt (1 <<< (v118 &&& 31)) i = (decide (i ∈ (nxtO F (some c) wd).toList) && !rS F i) := fun i hi => by
                  have h1 := bitO_at (a := some a9) (by intro z hz; cases hz; omega) hi
                  unfold bitO at h1
                  rw [if_pos ⟨nI_pos' (n := a9) (by omega), nI_lt (a := a9) (b := 25) (by omega) (by decide)⟩] at h1
                  rw [hv118, ha9, h1]
                  by_cases h2 : i = a9
                  · subst h2; rw [hra]; simp
                  · simp [h2, Ne.symm h2]
                refine g_iconst C (pc := 134) 1 dX12_targets_134 (by decide) ?_
                refine g_iload C (pc := 135) dX12_targets_135 1 rfl ?_
                refine g_ishl C (pc := 137) dX12_targets_137 ?_
                refine g_goto C (pc := 138) 142 dX12_targets_138 (by decide) ?_
                refine g_ior C (pc := 142) dX12_targets_142 ?_
                refine g_istore_n C (pc := 143) dX12_targets_143 (by decide) (fun v143 => [(3, .int v143), (4, .int v126), (7, .int v118), (6, .int wz6), (5, .int v87), (0, .ref 97), (1, .int (nI p)), (2, .int (nI wd))]) (fun _ => rfl) (fun v143 ev143 => ?_)
                refine g_iload C (pc := 144) dX12_targets_144 1 rfl ?_
                refine g_if_eq C (pc := 146) 164 dX12_targets_146 (by decide) (fun c146 => ?_) (fun c146 => ?_)
                · exact absurd c146 c131
                · refine g_aload_n C (pc := 149) dX12_targets_149 5 rfl ?_
                  refine g_iload C (pc := 150) dX12_targets_150 2 rfl ?_
                  refine g_callVI C (pc := 152) mf_X12_pieceAt lk_RX12_218 (c_X12_pieceAt n ρ I F b a9 _ hn9 hms hqf hrw hqb hbw (by omega) (by rw [hv118, ha9]; rfl)) (by decide) (Nat.le_refl _) rfl (by first | assumption | rfl | omega) rfl (by first | assumption | rfl | omega) (Nat.le_of_ble_eq_true rfl) dX12_targets_152 (fun v152 I152 h152 => ?_)
                  obtain ⟨e152, rfl⟩ := h152
                  refine g_bipush C (pc := 155) (-4) dX12_targets_155 (by decide) ?_
                  refine g_icmp_ne C (pc := 157) 164 dX12_targets_157 (by decide) (fun c157 => ?_) (fun c157 => ?_)
                  · have hst : stpO F b wd c = none := by
                      unfold stpO; rw [ha9]
                      show (if stpB F b a9 = true then none else some a9) = none
                      rw [if_pos ((stp_pon hrw hra).mpr (fun h => c157 (by rw [e152, h]; rfl)))]
                    refine g_iconst C (pc := 164) 0 dX12_targets_164 (by decide) ?_
                    refine g_istore C (pc := 165) dX12_targets_165 (by decide) (fun v165 => [(4, .int v165), (3, .int v143), (7, .int v118), (6, .int wz6), (5, .int v87), (0, .ref 97), (1, .int (nI p)), (2, .int (nI wd))]) (fun _ => rfl) (fun v165 ev165 => ?_)
                    refine g_iinc C (pc := 167) (1) dX12_targets_167 3 rfl (by decide) (by decide) (fun v167 => [(6, .int v167), (4, .int v165), (3, .int v143), (7, .int v118), (5, .int v87), (0, .ref 97), (1, .int (nI p)), (2, .int (nI wd))]) (fun _ => rfl) (fun v167 ev167 => ?_)
                    refine g_goto C (pc := 170) 92 dX12_targets_170 (by decide) ?_
                    refine g_lv C [0, 1, 2, 4, 5, 6, 7] rfl (ih92 (k + 1) (stpO F b wd c) (V ++ (nxtO F (some c) wd).toList) _ _ _ ?_ ?_ ?_ ?_ ?_ ?_ (by omega))
                    · subst ev167; rw [hw6]; exact nI_1 _
                    · omega
                    · rw [ev165, hst]; rfl
                    · intro i hi
                      rw [ev143, b_or, hb i hi, mem_app]
                      first
                      | (rw [hbi i hi]; done)
                      | (rw [no_open hno i, b_0]; done)
                    · rw [hV, List.append_assoc, show M - k = (M - (k + 1)) + 1 by omega, hoc]; exact congrArg _ ray_step
                    · intro c9 h9
                      have : nxtO F (some c) wd = some c9 := by
                        unfold stpO at h9
                        obtain ⟨z, h1, h2⟩ := Option.bind_eq_some_iff.mp h9
                        split at h2
                        · cases h2
                        · cases h2; exact h1
                      show (nxk (rW F) (rH F) wd k q0).bind _ = _
                      rw [ho c hoc]; exact this
                  · have hst : stpO F b wd c = some a9 := by
                      unfold stpO; rw [ha9]
                      show (if stpB F b a9 = true then none else some a9) = some a9
                      rw [if_neg (fun h => (stp_pon hrw hra).mp h ((oI_none (fun z hz => by have := (pon_some hz).1; omega)).mp (e152.symm.trans c157)))]
                    refine g_iconst C (pc := 160) 1 dX12_targets_160 (by decide) ?_
                    refine g_goto C (pc := 161) 165 dX12_targets_161 (by decide) ?_
                    refine g_istore C (pc := 165) dX12_targets_165 (by decide) (fun v165 => [(4, .int v165), (3, .int v143), (7, .int v118), (6, .int wz6), (5, .int v87), (0, .ref 97), (1, .int (nI p)), (2, .int (nI wd))]) (fun _ => rfl) (fun v165 ev165 => ?_)
                    refine g_iinc C (pc := 167) (1) dX12_targets_167 3 rfl (by decide) (by decide) (fun v167 => [(6, .int v167), (4, .int v165), (3, .int v143), (7, .int v118), (5, .int v87), (0, .ref 97), (1, .int (nI p)), (2, .int (nI wd))]) (fun _ => rfl) (fun v167 ev167 => ?_)
                    refine g_goto C (pc := 170) 92 dX12_targets_170 (by decide) ?_
                    refine g_lv C [0, 1, 2, 4, 5, 6, 7] rfl (ih92 (k + 1) (stpO F b wd c) (V ++ (nxtO F (some c) wd).toList) _ _ _ ?_ ?_ ?_ ?_ ?_ ?_ (by omega))
                    · subst ev167; rw [hw6]; exact nI_1 _
                    · omega
                    · rw [ev165, hst]; rfl
                    · intro i hi
                      rw [ev143, b_or, hb i hi, mem_app]
                      first
                      | (rw [hbi i hi]; done)
                      | (rw [no_open hno i, b_0]; done)
                    · rw [hV, List.append_assoc, show M - k = (M - (k + 1)) + 1 by omega, hoc]; exact congrArg _ ray_step
                    · intro c9 h9
                      have : nxtO F (some c) wd = some c9 := by
                        unfold stpO at h9
                        obtain ⟨z, h1, h2⟩ := Option.bind_eq_some_iff.mp h9
                        split at h2
                        · cases h2
                        · cases h2; exact h1
                      show (nxk (rW F) (rH F) wd k q0).bind _ = _
                      rw [ho c hoc]; exact this
      refine g_lv C [0, 2, 3, 1, 4, 5, 6] rfl (L92 (_ + 1) 0 (some q0) [] _ _ _ ?_ ?_ ?_ ?_ ?_ ?_ (by first | omega | exact Nat.lt_succ_self _))
      · subst ev90; rfl
      · omega
      · subst ev70; rfl
      · intro i hi; subst ev1; rw [b_0]; rfl
      · rfl
      · intro c h; cases h; rfl
  · have hk3 : rKd F p = 3 := by
      rw [hcl, (qk p hp).2] at c9
      exact (nI_eq (b := 3) (by omega) (by decide)).mp c9
    refine g_iconst C (pc := 12) (-1) dX12_targets_12 (by decide) ?_
    refine g_istore C (pc := 13) dX12_targets_13 (by decide) (fun v13 => [(4, .int v13), (3, .int v1), (0, .ref 97), (1, .int (nI p)), (2, .int (nI wd))]) (fun _ => rfl) (fun v13 ev13 => ?_)
    have L15 : ∀ (k9 : Nat) (j : Nat) (wz4 : Int32) (wz3 : Int32) (hw4 : wz4 = (-1) + nI (2 * j)) (hj : j ≤ 2) (hb : ∀ i, i < 32 → bt wz3 i = (decide (i ∈ hpL F wd q0 j) && !rS F i)), 2 - j < k9 → G κ n ρ 15 [(4, .int wz4), (3, .int wz3), (0, .ref 97), (1, .int (nI p)), (2, .int (nI wd))] [] I := by
      intro k9
      induction k9 with
      | zero => intro j wz4 wz3 hw4 hj hb hm15; exact absurd hm15 (Nat.not_lt_zero _)
      | succ k9 ih15 =>
        intro j wz4 wz3 hw4 hj hb hm15
        refine g_iload C (pc := 15) dX12_targets_15 0 rfl ?_
        refine g_iconst C (pc := 17) 2 dX12_targets_17 (by decide) ?_
        refine g_icmp_ge C (pc := 18) 63 dX12_targets_18 (by decide) (fun c18 => ?_) (fun c18 => ?_)
        · have hj2 : j = 2 := by
            rcases (show j = 0 ∨ j = 1 ∨ j = 2 by omega) with h | h | h
            · rw [hw4, h] at c18; exact absurd c18 (by decide)
            · rw [hw4, h] at c18; exact absurd c18 (by decide)
            · exact h
          refine g_aload_n C (pc := 63) dX12_targets_63 2 rfl ?_
          refine g_iload_n C (pc := 64) dX12_targets_64 1 rfl ?_
          refine g_callVI C (pc := 65) mf_X12_ownGone lk_RX12_215 (c_X12_ownGone n ρ I F b _ hn9 hms hqf hrw hqb hbw) (by decide) (Nat.le_refl _) rfl (by first | assumption | rfl | omega) rfl (by first | assumption | rfl | omega) (Nat.le_of_ble_eq_true rfl) dX12_targets_65 (fun v65 I65 h65 => ?_)
          obtain ⟨e65, rfl⟩ := h65
          refine g_iret C hR (pc := 68) rfl dX12_targets_68 ?_
          refine ⟨rfl, _, rfl, ?_⟩
          refine ⟨fun i hi => ?_, rfl⟩
          rw [e65 i hi, hb i hi, hj2, tgt_of hpq ho1 hsm, hk3, kinL_hop, decide_eq_decide.mpr (hpL_hop hrw hwd hq0)]
        · have hj2 : j < 2 := by
            rcases (show j = 0 ∨ j = 1 ∨ j = 2 by omega) with h | h | h
            · omega
            · omega
            · rw [hw4, h] at c18; exact absurd c18 (by decide)
          refine g_aload_n C (pc := 21) dX12_targets_21 2 rfl ?_
          refine g_aload_n C (pc := 22) dX12_targets_22 2 rfl ?_
          refine g_getR C (pc := 23) fl_RX12_35 (by decide) (by first | assumption | rfl | omega) (by first | assumption | rfl | omega) (by first | assumption | rfl | omega) dX12_targets_23 ?_
          refine g_iload_n C (pc := 26) dX12_targets_26 3 rfl ?_
          refine g_iald C (pc := 27) (by first | assumption | rfl | omega) (by first | assumption | rfl | omega) (vp_in_nI (n := p) (by omega) (by decide)) dX12_targets_27 ?_
          refine g_iload_n C (pc := 28) dX12_targets_28 4 rfl ?_
          refine g_iconst C (pc := 29) 2 dX12_targets_29 (by decide) ?_
          refine g_iload C (pc := 30) dX12_targets_30 0 rfl ?_
          refine g_callVI C (pc := 32) mf_X12_onTo lk_RX12_207 (c_X12_onTo n ρ I F q0 wd _ 2 wz4 hn9 hms hqf hrw hq0 hwd (by rw [(nI_clamp (by omega) : (nI p).toNatClampNeg = p), (hqb.1 p (by omega)).1, hpq]; rfl) (by decide) (by decide) (by rw [hw4]; rcases (show j = 0 ∨ j = 1 by omega) with h | h <;> subst h <;> decide) (by rw [hw4]; rcases (show j = 0 ∨ j = 1 by omega) with h | h <;> subst h <;> decide)) (by decide) (Nat.le_refl _) rfl (by first | assumption | rfl | omega) rfl (by first | assumption | rfl | omega) (Nat.le_of_ble_eq_true rfl) dX12_targets_32 (fun v32 I32 h32 => ?_)
          obtain ⟨e32, rfl⟩ := h32
          refine g_istore C (pc := 35) dX12_targets_35 (by decide) (fun v35 => [(5, .int v35), (4, .int wz4), (3, .int wz3), (0, .ref 97), (1, .int (nI p)), (2, .int (nI wd))]) (fun _ => rfl) (fun v35 ev35 => ?_)
          refine g_iload_n C (pc := 37) dX12_targets_37 2 rfl ?_
          refine g_aload_n C (pc := 38) dX12_targets_38 3 rfl ?_
          refine g_iload C (pc := 39) dX12_targets_39 0 rfl ?_
          refine g_callVI C (pc := 41) mf_X12_isOpen lk_RX12_211 (c_X12_isOpen n ρ I F (onF (rW F) (rH F) q0 wd 2 wz4.toInt) _ hn9 hms hqe (fun z hz => by have := onF_lt hz; omega) (ev35.trans e32)) (by decide) (Nat.le_refl _) rfl (by first | assumption | rfl | omega) rfl (by first | assumption | rfl | omega) (Nat.le_of_ble_eq_true rfl) dX12_targets_41 (fun v41 I41 h41 => ?_)
          obtain ⟨e41, rfl⟩ := h41
          refine g_if_eq C (pc := 44) 54 dX12_targets_44 (by decide) (fun c44 => ?_) (fun c44 => ?_)
          · have hno := bI_0.mp (e41.symm.trans c44)
            refine g_iconst C (pc := 54) 0 dX12_targets_54 (by decide) ?_
            refine g_ior C (pc := 55) dX12_targets_55 ?_
            refine g_istore_n C (pc := 56) dX12_targets_56 (by decide) (fun v56 => [(3, .int v56), (5, .int v35), (4, .int wz4), (0, .ref 97), (1, .int (nI p)), (2, .int (nI wd))]) (fun _ => rfl) (fun v56 ev56 => ?_)
            refine g_iinc C (pc := 57) (2) dX12_targets_57 2 rfl (by decide) (by decide) (fun v57 => [(4, .int v57), (3, .int v56), (5, .int v35), (0, .ref 97), (1, .int (nI p)), (2, .int (nI wd))]) (fun _ => rfl) (fun v57 ev57 => ?_)
            refine g_goto C (pc := 60) 15 dX12_targets_60 (by decide) ?_
            refine g_lv C [0, 1, 3, 4, 5] rfl (ih15 (j + 1) _ _ ?_ ?_ ?_ (by omega))
            · subst ev57; rw [hw4]; rcases (show j = 0 ∨ j = 1 by omega) with h | h <;> subst h <;> decide
            · omega
            · intro i hi
              rw [ev56, b_or, hb i hi]
              have hL : hpL F wd q0 (j + 1) = hpL F wd q0 j ++ (onF (rW F) (rH F) q0 wd 2 wz4.toInt).toList := by
                rw [hw4]; rcases (show j = 0 ∨ j = 1 by omega) with h | h <;> subst h <;> rfl
              rw [hL, mem_app]
              first
              | (rw [hbi i hi]; done)
              | (rw [no_open hno i, b_0]; done)
          · have hop := bI_1.mp (fun h => c44 (e41.trans h))
            obtain ⟨a9, ha9, hra⟩ := Option.map_eq_some_iff.mp hop
            have ha25 := onF_lt ha9
            have hbi : ∀ i, i < 32 → bt (1 <<< (v35 &&& 31)) i = (decide (i ∈ (onF (rW F) (rH F) q0 wd 2 wz4.toInt).toList) && !rS F i) := fun i hi => by
              have h1 := bitO_at (a := some a9) (by intro z hz; cases hz; omega) hi
              unfold bitO at h1
              rw [if_pos ⟨nI_pos' (n := a9) (by omega), nI_lt (a := a9) (b := 25) (by omega) (by decide)⟩] at h1
              rw [ev35, e32, show (2 : Int32).toInt = 2 from rfl, ha9, h1]
              by_cases h2 : i = a9
              · subst h2; rw [hra]; simp
              · simp [h2, Ne.symm h2]
            refine g_iconst C (pc := 47) 1 dX12_targets_47 (by decide) ?_
            refine g_iload C (pc := 48) dX12_targets_48 0 rfl ?_
            refine g_ishl C (pc := 50) dX12_targets_50 ?_
            refine g_goto C (pc := 51) 55 dX12_targets_51 (by decide) ?_
            refine g_ior C (pc := 55) dX12_targets_55 ?_
            refine g_istore_n C (pc := 56) dX12_targets_56 (by decide) (fun v56 => [(3, .int v56), (5, .int v35), (4, .int wz4), (0, .ref 97), (1, .int (nI p)), (2, .int (nI wd))]) (fun _ => rfl) (fun v56 ev56 => ?_)
            refine g_iinc C (pc := 57) (2) dX12_targets_57 2 rfl (by decide) (by decide) (fun v57 => [(4, .int v57), (3, .int v56), (5, .int v35), (0, .ref 97), (1, .int (nI p)), (2, .int (nI wd))]) (fun _ => rfl) (fun v57 ev57 => ?_)
            refine g_goto C (pc := 60) 15 dX12_targets_60 (by decide) ?_
            refine g_lv C [0, 1, 3, 4, 5] rfl (ih15 (j + 1) _ _ ?_ ?_ ?_ (by omega))
            · subst ev57; rw [hw4]; rcases (show j = 0 ∨ j = 1 by omega) with h | h <;> subst h <;> decide
            · omega
            · intro i hi
              rw [ev56, b_or, hb i hi]
              have hL : hpL F wd q0 (j + 1) = hpL F wd q0 j ++ (onF (rW F) (rH F) q0 wd 2 wz4.toInt).toList := by
                rw [hw4]; rcases (show j = 0 ∨ j = 1 by omega) with h | h <;> subst h <;> rfl
              rw [hL, mem_app]
              first
              | (rw [hbi i hi]; done)
              | (rw [no_open hno i, b_0]; done)
    refine g_lv C [0, 1, 2, 3, 4] rfl (L15 (_ + 1) 0 _ _ ?_ ?_ ?_ (by first | omega | exact Nat.lt_succ_self _))
    · subst ev13; rfl
    · omega
    · intro i hi; subst ev1; rw [b_0]; rfl
