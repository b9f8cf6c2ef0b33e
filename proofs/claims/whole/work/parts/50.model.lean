/-! ===== the reference: its objects, its boards ===== -/
def MS (n : Nat) (ρ : Rho) : Prop := 119 ≤ n ∧ (ρ 97 0 = some 98 ∧ ρ 97 1 = some 99 ∧ ρ 97 5 = some 100 ∧ ρ 97 6 = some 101 ∧ ρ 97 7 = some 102 ∧ ρ 97 11 = some 103 ∧ ρ 97 12 = some 104 ∧ ρ 97 15 = some 105) ∧ (ρ 97 23 = some 106 ∧ ρ 97 24 = some 107 ∧ ρ 97 26 = some 108 ∧ ρ 97 27 = some 109 ∧ ρ 97 28 = some 110 ∧ ρ 97 30 = some 111 ∧ ρ 97 31 = some 112 ∧ ρ 97 32 = some 113 ∧ ρ 97 33 = some 114) ∧ (ρ 97 38 = some 115 ∧ ρ 97 39 = some 116 ∧ ρ 97 40 = some 117 ∧ ρ 97 42 = some 118)
def QF (I : Mem) (F : RT) : Prop := I 97 2 = nI (rW F) ∧ I 97 3 = nI (rH F) ∧ I 97 4 = nI (rN F) ∧ ∀ p, p < rN F → I 100 p = nI (rSd F p) ∧ I 101 p = nI (rKd F p)
def QE (I : Mem) (F : RT) : Prop := (∀ i, i < 32 → bt (I 98 12) i = rS F i) ∧ ∀ w, w < 5 → I 98 (13 + w) = nI (rOd F w)
def QB (I : Mem) (F : RT) (b : BT) : Prop := (∀ p, p < rN F → I 106 p = oI (bP b p) ∧ I 107 p = nI (bO b p)) ∧ I 97 25 = nI (bM b)
/-- one lost king at most; all stand on the board -/
def L1 (F : RT) (b : BT) : Prop := ∀ p q, p < rN F → q < rN F → rKd F p = 0 → rKd F q = 0 → bP b p = none → bP b q = none → p = q
def PW (F : RT) (b : BT) : Prop := ∀ p q, p < rN F → bP b p = some q → q < rW F * rH F
theorem QF.cong {I I1 : Mem} {F : RT} (h : QF I F) (e2 : I1 97 2 = I 97 2) (e3 : I1 97 3 = I 97 3) (e4 : I1 97 4 = I 97 4) (e5 : I1 100 = I 100) (e6 : I1 101 = I 101) : QF I1 F := by
  unfold QF
  rw [e2, e3, e4, e5, e6]; exact h
theorem QE.cong {I I1 : Mem} {F : RT} (h : QE I F) (e : ∀ k, k < 18 → I1 98 k = I 98 k) : QE I1 F := ⟨fun i hi => by rw [e 12 (by decide)]; exact h.1 i hi, fun w hw => by rw [e _ (by omega)]; exact h.2 w hw⟩
theorem QB.cong {I I1 : Mem} {F : RT} {b : BT} (h : QB I F b) (e6 : ∀ k, k < 6 → I1 106 k = I 106 k) (e7 : ∀ k, k < 6 → I1 107 k = I 107 k) (e25 : I1 97 25 = I 97 25) (hn : rN F ≤ 6) : QB I1 F b := ⟨fun p hp => by rw [e6 p (by omega), e7 p (by omega)]; exact h.1 p hp, e25.trans h.2⟩
theorem lcmp_lt {x y : Int64} : lg_cmp x y < 0 ↔ x < y := by
  unfold lg_cmp
  by_cases h : x > y
  · rw [if_pos h]
    refine ⟨fun h1 => absurd h1 (by decide), fun h1 => ?_⟩
    have a := Int64.lt_iff_toInt_lt.mp h
    have b := Int64.lt_iff_toInt_lt.mp h1
    omega
  · rw [if_neg h]
    by_cases h2 : x = y
    · rw [if_pos h2]
      refine ⟨fun h1 => absurd h1 (by decide), fun h1 => ?_⟩
      rw [h2] at h1
      have b := Int64.lt_iff_toInt_lt.mp h1
      omega
    · rw [if_neg h2]
      refine ⟨fun _ => ?_, fun _ => by decide⟩
      have a : ¬ y.toInt < x.toInt := fun q => h (Int64.lt_iff_toInt_lt.mpr q)
      have b : ¬ x.toInt = y.toInt := fun q => h2 (Int64.toInt_inj.mp q)
      exact Int64.lt_iff_toInt_lt.mpr (by omega)
theorem lcmp_gt {x y : Int64} : 0 < lg_cmp x y ↔ y < x := by
  unfold lg_cmp
  by_cases h : x > y
  · rw [if_pos h]; exact ⟨fun _ => h, fun _ => by decide⟩
  · rw [if_neg h]
    refine ⟨fun h1 => ?_, fun h1 => absurd h1 h⟩
    split at h1
    · exact absurd h1 (by decide)
    · exact absurd h1 (by decide)
theorem i2l_le {x y : Int32} : x.toInt64 ≤ y.toInt64 ↔ x ≤ y := by rw [Int64.le_iff_toInt_le, Int32.le_iff_toInt_le, Int32.toInt_toInt64, Int32.toInt_toInt64]
theorem in_iff {x : Int32} {k : Nat} (hk : k < 1000) : (0 ≤ x.toInt64 ∧ x.toInt64 ≤ lN k) ↔ (0 ≤ x ∧ x < nI (k + 1)) := by
  rw [show (0 : Int64) = (0 : Int32).toInt64 from rfl, ← nI_l (show k < 2 ^ 31 by omega), i2l_le, i2l_le]
  refine and_congr Iff.rfl ?_
  rw [Int32.le_iff_toInt_le, Int32.lt_iff_toInt_lt, nI_toInt (by omega), nI_toInt (by omega)]
  omega
theorem findP_succ {P : Nat → Bool} {j : Nat} : findP P (j + 1) = (match findP P j with | some x => some x | none => if P j = true then some j else none) := by
  cases e : findP P j with
  | some x =>
    obtain ⟨h1, h2, h3⟩ := findP_spec e
    exact findP_some (by omega) h2 h3
  | none =>
    have h := findP_none' e
    by_cases hj : P j = true
    · show _ = (if P j = true then some j else none)
      rw [if_pos hj]; exact findP_some (Nat.lt_succ_self j) hj h
    · show _ = (if P j = true then some j else none)
      rw [if_neg hj]
      exact findP_none fun q hq => by
        rcases Nat.lt_or_ge q j with h1 | h1
        · exact h q h1
        · have : q = j := by omega
          subst this; exact Bool.not_eq_true _ ▸ hj
def ownJ (F : RT) (b : BT) (j i : Nat) : Bool := (List.range j).any (fun p => rSd F p == bM b && bP b p == some i)
theorem ownJ_succ {F : RT} {b : BT} {j i : Nat} : ownJ F b (j + 1) i = (ownJ F b j i || (rSd F j == bM b && bP b j == some i)) := by
  unfold ownJ
  rw [List.range_succ, List.any_append]
  simp
def onF (W H q w : Nat) (far asd : Int) : Option Nat :=
  if 0 ≤ ((q / W : Nat) : Int) + (if w % 2 = 0 then (if w = 0 ∨ w = 3 then -far else far) else asd) ∧ ((q / W : Nat) : Int) + (if w % 2 = 0 then (if w = 0 ∨ w = 3 then -far else far) else asd) < (H : Int) ∧ 0 ≤ ((q % W : Nat) : Int) + (if w % 2 = 0 then asd else (if w = 0 ∨ w = 3 then -far else far)) ∧ ((q % W : Nat) : Int) + (if w % 2 = 0 then asd else (if w = 0 ∨ w = 3 then -far else far)) < (W : Int)
  then some ((((q / W : Nat) : Int) + (if w % 2 = 0 then (if w = 0 ∨ w = 3 then -far else far) else asd)).toNat * W + (((q % W : Nat) : Int) + (if w % 2 = 0 then asd else (if w = 0 ∨ w = 3 then -far else far))).toNat) else none
def nxk (W H : Nat) (w : Nat) : Nat → Nat → Option Nat
  | 0, q => some q
  | k + 1, q => (nxk W H w k q).bind (fun a => nxt W H a w)
def onAll (P : Nat → Nat → Nat → Nat → Bool) : Bool := (List.range 6).all fun W => (List.range 6).all fun H => (List.range 4).all fun w => (List.range (W * H)).all fun q => decide (W < 2) || (decide (H < 2) || P W H w q)
theorem onAll_at {P : Nat → Nat → Nat → Nat → Bool} (h : onAll P = true) {W H w q : Nat} (hW : W < 6) (hH : H < 6) (hW2 : 2 ≤ W) (hH2 : 2 ≤ H) (hw : w < 4) (hq : q < W * H) : P W H w q = true := by
  have h1 := List.all_eq_true.mp (List.all_eq_true.mp (List.all_eq_true.mp (List.all_eq_true.mp h W (List.mem_range.mpr hW)) H (List.mem_range.mpr hH)) w (List.mem_range.mpr hw)) q (List.mem_range.mpr hq)
  rw [Bool.or_eq_true, Bool.or_eq_true, decide_eq_true_eq, decide_eq_true_eq] at h1
  rcases h1 with h1 | h1 | h1
  · omega
  · omega
  · exact h1
set_option maxRecDepth 100000 in
theorem on_far0 : onAll (fun W H w q => (List.range 5).all fun k => onF W H q w ((k : Int) + 1) 0 == nxk W H w (k + 1) q) = true := by decide +kernel
theorem on_far {W H w q k : Nat} (hW : W < 6) (hH : H < 6) (hW2 : 2 ≤ W) (hH2 : 2 ≤ H) (hw : w < 4) (hq : q < W * H) (hk : k < 5) : onF W H q w ((k : Int) + 1) 0 = nxk W H w (k + 1) q := eq_of_beq (List.all_eq_true.mp (onAll_at on_far0 hW hH hW2 hH2 hw hq) k (List.mem_range.mpr hk))
def hopR (W H w q e : Nat) : Option Nat := ((nxt W H q w).bind (fun a => nxt W H a w)).bind (fun a => nxt W H a ((w + e) % 4))
set_option maxRecDepth 100000 in
theorem on_hop0 : onAll (fun W H w q => (onF W H q w 2 (-1) == hopR W H w q 3 && onF W H q w 2 1 == hopR W H w q 1) || (onF W H q w 2 (-1) == hopR W H w q 1 && onF W H q w 2 1 == hopR W H w q 3)) = true := by decide +kernel
theorem on_hop {W H w q : Nat} (hW : W < 6) (hH : H < 6) (hW2 : 2 ≤ W) (hH2 : 2 ≤ H) (hw : w < 4) (hq : q < W * H) : (onF W H q w 2 (-1) = hopR W H w q 3 ∧ onF W H q w 2 1 = hopR W H w q 1) ∨ (onF W H q w 2 (-1) = hopR W H w q 1 ∧ onF W H q w 2 1 = hopR W H w q 3) := by
  have h := onAll_at on_hop0 hW hH hW2 hH2 hw hq
  rw [Bool.or_eq_true, Bool.and_eq_true, Bool.and_eq_true, beq_iff_eq, beq_iff_eq, beq_iff_eq, beq_iff_eq] at h
  exact h
set_option maxRecDepth 100000 in
theorem nxk_5a : onAll (fun W H w q => nxk W H w 5 q == none) = true := by decide +kernel
theorem nxk_5 {W H w q : Nat} (hW : W < 6) (hH : H < 6) (hW2 : 2 ≤ W) (hH2 : 2 ≤ H) (hw : w < 4) (hq : q < W * H) : nxk W H w 5 q = none := eq_of_beq (onAll_at nxk_5a hW hH hW2 hH2 hw hq)
theorem nxk_shift {W H w : Nat} : ∀ {k q : Nat}, nxk W H w (k + 1) q = (nxt W H q w).bind (fun a => nxk W H w k a)
  | 0, q => by
    show (some q).bind (fun a => nxt W H a w) = _
    cases e : nxt W H q w <;> simp [nxk, e]
  | k + 1, q => by
    rw [nxk, nxk_shift]
    cases e : nxt W H q w with
    | none => rfl
    | some a => rfl
theorem ray_more {F : RT} {b : BT} {w : Nat} : ∀ {k q : Nat}, nxk (rW F) (rH F) w (k + 1) q = none → rayL F b w (k + 1) q = rayL F b w k q
  | 0, q, h => by
    have e : nxtO F (some q) w = none := by
      rw [nxk_shift] at h
      show nxt (rW F) (rH F) q w = none
      cases e : nxt (rW F) (rH F) q w with
      | none => rfl
      | some a => rw [e] at h; cases h
    rw [rayL_none e]; rfl
  | k + 1, q, h => by
    rw [nxk_shift] at h
    cases e : nxtO F (some q) w with
    | none => rw [rayL_none e, rayL_none e]
    | some a =>
      have e2 : nxt (rW F) (rH F) q w = some a := e
      rw [e2] at h
      have ih := ray_more (F := F) (b := b) (w := w) (k := k) (q := a) h
      cases hs : stpB F b a with
      | true => rw [rayL_stop e hs, rayL_stop e hs]
      | false => rw [rayL_go e hs, rayL_go e hs, ih]
theorem i32_add {x y : Int32} (h1 : -1000 ≤ x.toInt) (h2 : x.toInt ≤ 1000) (h3 : -1000 ≤ y.toInt) (h4 : y.toInt ≤ 1000) : (x + y).toInt = x.toInt + y.toInt := by
  rw [Int32.toInt_add]
  exact Int.bmod_eq_of_le (by omega) (by omega)
theorem i32_neg {x : Int32} (h1 : -1000 ≤ x.toInt) (h2 : x.toInt ≤ 1000) : (-x).toInt = -x.toInt := by
  rw [Int32.toInt_neg]
  exact Int.bmod_eq_of_le (by omega) (by omega)
theorem i32_nat {x : Int32} {n : Nat} (h : x.toInt = (n : Int)) (hn : n < 2 ^ 31) : x = nI n := Int32.toInt_inj.mp (by rw [h, nI_toInt hn])
theorem bI_cg {c d : Prop} [Decidable c] [Decidable d] (h : c ↔ d) : bI c = bI d := by
  by_cases hc : c
  · rw [bI_t hc, bI_t (h.mp hc)]
  · rw [bI_f hc, bI_f (fun hd => hc (h.mpr hd))]
set_option maxHeartbeats 400000 in
theorem c_X12_in (n : Nat) (ρ : Rho) (I : Mem) (x y9 z : Int64) (hn9 : n ≤ 999)  : MI yX12_in cX12_in 6 (some .boolean) 0 [.long x, .long y9, .long z] n ρ I (fun v I1 => v = bI (y9 ≤ x ∧ x ≤ z) ∧ I = I1) := by
  refine MG.of (by decide +kernel) (Nat.le_of_ble_eq_true rfl) hn9 ?_
  intro κ C hR
  show G κ n ρ 0 [(0, .long x), (2, .long y9), (4, .long z)] [] I
  refine g_lload_n C (pc := 0) dX12_in_0 0 rfl ?_
  refine g_lload_n C (pc := 1) dX12_in_1 1 rfl ?_
  refine g_lcmp C (pc := 2) dX12_in_2 ?_
  refine g_if_lt C (pc := 3) 17 dX12_in_3 (by decide) (fun c3 => ?_) (fun c3 => ?_)
  · have h9 : ¬ (y9 ≤ x ∧ x ≤ z) := fun h => absurd (lcmp_lt.mp c3) (Int64.not_lt.mpr h.1)
    refine g_iconst C (pc := 17) 0 dX12_in_17 (by decide) ?_
    refine g_zret C hR (pc := 18) rfl rfl dX12_in_18 ?_
    refine ⟨rfl, _, rfl, ?_⟩
    first | exact ⟨(bI_t h9).symm, rfl⟩ | exact ⟨(bI_f h9).symm, rfl⟩
  · have h1 : y9 ≤ x := Int64.not_lt.mp (fun h => absurd (lcmp_lt.mpr h) (Int32.not_lt.mpr c3))
    refine g_lload_n C (pc := 6) dX12_in_6 0 rfl ?_
    refine g_lload C (pc := 7) dX12_in_7 2 rfl ?_
    refine g_lcmp C (pc := 9) dX12_in_9 ?_
    refine g_if_gt C (pc := 10) 17 dX12_in_10 (by decide) (fun c10 => ?_) (fun c10 => ?_)
    · have h9 : ¬ (y9 ≤ x ∧ x ≤ z) := fun h => absurd (lcmp_gt.mp c10) (Int64.not_lt.mpr h.2)
      refine g_iconst C (pc := 17) 0 dX12_in_17 (by decide) ?_
      refine g_zret C hR (pc := 18) rfl rfl dX12_in_18 ?_
      refine ⟨rfl, _, rfl, ?_⟩
      first | exact ⟨(bI_t h9).symm, rfl⟩ | exact ⟨(bI_f h9).symm, rfl⟩
    · have h9 : y9 ≤ x ∧ x ≤ z := ⟨h1, Int64.not_lt.mp (fun h => absurd (lcmp_gt.mpr h) (Int32.not_lt.mpr c10))⟩
      refine g_iconst C (pc := 13) 1 dX12_in_13 (by decide) ?_
      refine g_goto C (pc := 14) 18 dX12_in_14 (by decide) ?_
      refine g_zret C hR (pc := 18) rfl rfl dX12_in_18 ?_
      refine ⟨rfl, _, rfl, ?_⟩
      first | exact ⟨(bI_t h9).symm, rfl⟩ | exact ⟨(bI_f h9).symm, rfl⟩
set_option maxHeartbeats 400000 in
theorem c_X12_flag (n : Nat) (ρ : Rho) (I : Mem) (x : Int32) (hn9 : n ≤ 999)  : MI yX12_flag cX12_flag 1 (some .int) 0 [.int x] n ρ I (fun v I1 => v = bI (¬ x = 0) ∧ I = I1) := by
  refine MG.of (by decide +kernel) (Nat.le_of_ble_eq_true rfl) hn9 ?_
  intro κ C hR
  show G κ n ρ 0 [(0, .int x)] [] I
  refine g_iload_n C (pc := 0) dX12_flag_0 0 rfl ?_
  refine g_if_eq C (pc := 1) 8 dX12_flag_1 (by decide) (fun c1 => ?_) (fun c1 => ?_)
  · refine g_iconst C (pc := 8) 0 dX12_flag_8 (by decide) ?_
    refine g_iret C hR (pc := 9) rfl dX12_flag_9 ?_
    refine ⟨rfl, _, rfl, ?_⟩
    first | exact ⟨(bI_t c1).symm, rfl⟩ | exact ⟨(bI_f (fun h => h c1)).symm, rfl⟩
  · refine g_iconst C (pc := 4) 1 dX12_flag_4 (by decide) ?_
    refine g_goto C (pc := 5) 9 dX12_flag_5 (by decide) ?_
    refine g_iret C hR (pc := 9) rfl dX12_flag_9 ?_
    refine ⟨rfl, _, rfl, ?_⟩
    first | exact ⟨(bI_t c1).symm, rfl⟩ | exact ⟨(bI_f (fun h => h c1)).symm, rfl⟩
set_option maxHeartbeats 400000 in
theorem c_X12_isWind (n : Nat) (ρ : Rho) (I : Mem) (x : Int32) (hn9 : n ≤ 999)  : MI yX12_isWind cX12_isWind 1 (some .boolean) 1 [.int x] n ρ I (fun v I1 => v = bI (0 ≤ x ∧ x < 5) ∧ I = I1) := by
  refine MG.of (by decide +kernel) (Nat.le_of_ble_eq_true rfl) hn9 ?_
  intro κ C hR
  show G κ n ρ 0 [(0, .int x)] [] I
  refine g_iload_n C (pc := 0) dX12_isWind_0 0 rfl ?_
  refine g_i2l C (pc := 1) dX12_isWind_1 ?_
  refine g_lconst C (pc := 2) 0 dX12_isWind_2 (by decide) ?_
  refine g_ldc2 C (pc := 3) _ gk_RX12_202 dX12_isWind_3 ?_
  refine g_callSI C (pc := 6) mf_X12_in lk_RX12_113 (c_X12_in n ρ I _ _ _ hn9) (by decide) (Nat.le_refl _) rfl (Nat.le_of_ble_eq_true rfl) dX12_isWind_6 (fun v6 I6 h6 => ?_)
  obtain ⟨e6, rfl⟩ := h6
  refine g_zret C hR (pc := 9) rfl (by rw [e6]; exact bI_nar) dX12_isWind_9 ?_
  refine ⟨rfl, _, rfl, ?_⟩
  refine ⟨?_, rfl⟩
  rw [e6]
  exact bI_cg (in_iff (k := 4) (by decide))
set_option maxHeartbeats 400000 in
theorem c_X12_isSquare (n : Nat) (ρ : Rho) (I : Mem) (F : RT) (x : Int32) (hn9 : n ≤ 999) (hms : MS n ρ) (hqf : QF I F) (hrw : RW F) : MI yX12_isSquare cX12_isSquare 2 (some .boolean) 1 [.ref 97, .int x] n ρ I (fun v I1 => v = bI (0 ≤ x ∧ x < nI (rW F * rH F)) ∧ I = I1) := by
  refine MG.of (by decide +kernel) (Nat.le_of_ble_eq_true rfl) hn9 ?_
  intro κ C hR
  show G κ n ρ 0 [(0, .ref 97), (1, .int x)] [] I
  obtain ⟨mn, ⟨m0, m1, m5, m6, m7, m11, m12, m15⟩, ⟨m23, m24, m26, m27, m28, m30, m31, m32, m33⟩, ⟨m38, m39, m40, m42⟩⟩ := id hms
  obtain ⟨qw, qh, qn, qk⟩ := id hqf
  have hn6 : rN F ≤ 6 := hrw.2.2.2.2.1
  have hm25 := Nat.mul_le_mul hrw.2.1 hrw.2.2.2.1
  have hm4 := Nat.mul_le_mul hrw.1 hrw.2.2.1
  refine g_iload_n C (pc := 0) dX12_isSquare_0 1 rfl ?_
  refine g_i2l C (pc := 1) dX12_isSquare_1 ?_
  refine g_lconst C (pc := 2) 0 dX12_isSquare_2 (by decide) ?_
  refine g_aload_n C (pc := 3) dX12_isSquare_3 0 rfl ?_
  refine g_getI C (pc := 4) fl_RX12_99 (by decide) (by first | assumption | rfl | omega) (by first | assumption | rfl | omega) dX12_isSquare_4 ?_
  refine g_aload_n C (pc := 7) dX12_isSquare_7 0 rfl ?_
  refine g_getI C (pc := 8) fl_RX12_102 (by decide) (by first | assumption | rfl | omega) (by first | assumption | rfl | omega) dX12_isSquare_8 ?_
  refine g_imul C (pc := 11) dX12_isSquare_11 ?_
  refine g_iconst C (pc := 12) 1 dX12_isSquare_12 (by decide) ?_
  refine g_isub C (pc := 13) dX12_isSquare_13 ?_
  refine g_i2l C (pc := 14) dX12_isSquare_14 ?_
  refine g_callSI C (pc := 15) mf_X12_in lk_RX12_113 (c_X12_in n ρ I _ _ _ hn9) (by decide) (Nat.le_refl _) rfl (Nat.le_of_ble_eq_true rfl) dX12_isSquare_15 (fun v15 I15 h15 => ?_)
  obtain ⟨e15, rfl⟩ := h15
  refine g_zret C hR (pc := 18) rfl (by rw [e15]; exact bI_nar) dX12_isSquare_18 ?_
  refine ⟨rfl, _, rfl, ?_⟩
  refine ⟨?_, rfl⟩
  rw [e15, qw, qh, pk_mul, show nI (rW F * rH F) - 1 = nI (rW F * rH F - 1) from pk_sub (b := 1) (by omega), nI_l (by omega)]
  have := in_iff (x := x) (k := rW F * rH F - 1) (by omega)
  rw [show rW F * rH F - 1 + 1 = rW F * rH F by omega] at this
  exact bI_cg this
set_option maxHeartbeats 400000 in
theorem c_X12_isPiece (n : Nat) (ρ : Rho) (I : Mem) (F : RT) (x : Int32) (hn9 : n ≤ 999) (hms : MS n ρ) (hqf : QF I F) (hrw : RW F) (hN1 : 1 ≤ rN F) : MI yX12_isPiece cX12_isPiece 2 (some .boolean) 1 [.ref 97, .int x] n ρ I (fun v I1 => v = bI (0 ≤ x ∧ x < nI (rN F)) ∧ I = I1) := by
  refine MG.of (by decide +kernel) (Nat.le_of_ble_eq_true rfl) hn9 ?_
  intro κ C hR
  show G κ n ρ 0 [(0, .ref 97), (1, .int x)] [] I
  obtain ⟨mn, ⟨m0, m1, m5, m6, m7, m11, m12, m15⟩, ⟨m23, m24, m26, m27, m28, m30, m31, m32, m33⟩, ⟨m38, m39, m40, m42⟩⟩ := id hms
  obtain ⟨qw, qh, qn, qk⟩ := id hqf
  have hn6 : rN F ≤ 6 := hrw.2.2.2.2.1
  have hm25 := Nat.mul_le_mul hrw.2.1 hrw.2.2.2.1
  have hm4 := Nat.mul_le_mul hrw.1 hrw.2.2.1
  refine g_iload_n C (pc := 0) dX12_isPiece_0 1 rfl ?_
  refine g_i2l C (pc := 1) dX12_isPiece_1 ?_
  refine g_lconst C (pc := 2) 0 dX12_isPiece_2 (by decide) ?_
  refine g_aload_n C (pc := 3) dX12_isPiece_3 0 rfl ?_
  refine g_getI C (pc := 4) fl_RX12_105 (by decide) (by first | assumption | rfl | omega) (by first | assumption | rfl | omega) dX12_isPiece_4 ?_
  refine g_iconst C (pc := 7) 1 dX12_isPiece_7 (by decide) ?_
  refine g_isub C (pc := 8) dX12_isPiece_8 ?_
  refine g_i2l C (pc := 9) dX12_isPiece_9 ?_
  refine g_callSI C (pc := 10) mf_X12_in lk_RX12_113 (c_X12_in n ρ I _ _ _ hn9) (by decide) (Nat.le_refl _) rfl (Nat.le_of_ble_eq_true rfl) dX12_isPiece_10 (fun v10 I10 h10 => ?_)
  obtain ⟨e10, rfl⟩ := h10
  refine g_zret C hR (pc := 13) rfl (by rw [e10]; exact bI_nar) dX12_isPiece_13 ?_
  refine ⟨rfl, _, rfl, ?_⟩
  refine ⟨?_, rfl⟩
  rw [e10, qn, show nI (rN F) - 1 = nI (rN F - 1) from pk_sub (b := 1) hN1, nI_l (by omega)]
  have := in_iff (x := x) (k := rN F - 1) (by omega)
  rw [show rN F - 1 + 1 = rN F by omega] at this
  exact bI_cg this
set_option maxHeartbeats 400000 in
theorem c_X12_isSheet (n : Nat) (ρ : Rho) (I : Mem) (x z : Int32) (hn9 : n ≤ 999)  : MI yX12_isSheet cX12_isSheet 2 (some .boolean) 1 [.int x, .int z] n ρ I (fun v I1 => v = bI ((0 ≤ x ∧ x < 4) ∧ (0 ≤ z ∧ z < 3)) ∧ I = I1) := by
  refine MG.of (by decide +kernel) (Nat.le_of_ble_eq_true rfl) hn9 ?_
  intro κ C hR
  show G κ n ρ 0 [(0, .int x), (1, .int z)] [] I
  refine g_iload_n C (pc := 0) dX12_isSheet_0 0 rfl ?_
  refine g_i2l C (pc := 1) dX12_isSheet_1 ?_
  refine g_lconst C (pc := 2) 0 dX12_isSheet_2 (by decide) ?_
  refine g_ldc2 C (pc := 3) _ gk_RX12_291 dX12_isSheet_3 ?_
  refine g_callSI C (pc := 6) mf_X12_in lk_RX12_113 (c_X12_in n ρ I _ _ _ hn9) (by decide) (Nat.le_refl _) rfl (Nat.le_of_ble_eq_true rfl) dX12_isSheet_6 (fun v6 I6 h6 => ?_)
  obtain ⟨e6, rfl⟩ := h6
  refine g_if_eq C (pc := 9) 28 dX12_isSheet_9 (by decide) (fun c9 => ?_) (fun c9 => ?_)
  · have h9 : ¬ ((0 ≤ x ∧ x < 4) ∧ (0 ≤ z ∧ z < 3)) := fun h => (bI_0.mp (e6.symm.trans c9)) ((in_iff (k := 3) (by decide)).mpr h.1)
    refine g_iconst C (pc := 28) 0 dX12_isSheet_28 (by decide) ?_
    refine g_zret C hR (pc := 29) rfl rfl dX12_isSheet_29 ?_
    refine ⟨rfl, _, rfl, ?_⟩
    first | exact ⟨(bI_t h9).symm, rfl⟩ | exact ⟨(bI_f h9).symm, rfl⟩
  · have h1 := (in_iff (x := x) (k := 3) (by decide)).mp (bI_1.mp (fun h => c9 (e6.trans h)))
    refine g_iload_n C (pc := 12) dX12_isSheet_12 1 rfl ?_
    refine g_i2l C (pc := 13) dX12_isSheet_13 ?_
    refine g_lconst C (pc := 14) 0 dX12_isSheet_14 (by decide) ?_
    refine g_ldc2 C (pc := 15) _ gk_RX12_352 dX12_isSheet_15 ?_
    refine g_callSI C (pc := 18) mf_X12_in lk_RX12_113 (c_X12_in n ρ I _ _ _ hn9) (by decide) (Nat.le_refl _) rfl (Nat.le_of_ble_eq_true rfl) dX12_isSheet_18 (fun v18 I18 h18 => ?_)
    obtain ⟨e18, rfl⟩ := h18
    refine g_if_eq C (pc := 21) 28 dX12_isSheet_21 (by decide) (fun c21 => ?_) (fun c21 => ?_)
    · have h9 : ¬ ((0 ≤ x ∧ x < 4) ∧ (0 ≤ z ∧ z < 3)) := fun h => (bI_0.mp (e18.symm.trans c21)) ((in_iff (k := 2) (by decide)).mpr h.2)
      refine g_iconst C (pc := 28) 0 dX12_isSheet_28 (by decide) ?_
      refine g_zret C hR (pc := 29) rfl rfl dX12_isSheet_29 ?_
      refine ⟨rfl, _, rfl, ?_⟩
      first | exact ⟨(bI_t h9).symm, rfl⟩ | exact ⟨(bI_f h9).symm, rfl⟩
    · have h2 := (in_iff (x := z) (k := 2) (by decide)).mp (bI_1.mp (fun h => c21 (e18.trans h)))
      have h9 : (0 ≤ x ∧ x < 4) ∧ (0 ≤ z ∧ z < 3) := ⟨h1, h2⟩
      refine g_iconst C (pc := 24) 1 dX12_isSheet_24 (by decide) ?_
      refine g_goto C (pc := 25) 29 dX12_isSheet_25 (by decide) ?_
      refine g_zret C hR (pc := 29) rfl rfl dX12_isSheet_29 ?_
      refine ⟨rfl, _, rfl, ?_⟩
      first | exact ⟨(bI_t h9).symm, rfl⟩ | exact ⟨(bI_f h9).symm, rfl⟩
set_option maxHeartbeats 400000 in
theorem c_X12_starts (n : Nat) (ρ : Rho) (I : Mem)  (hn9 : n ≤ 999) (hms : MS n ρ) : MV yX12_starts cX12_starts 2 none 0 [.ref 97] n ρ I (fun I1 => (∀ k, k < 6 → I1 106 k = I 98 k ∧ I1 107 k = I 98 (6 + k)) ∧ I1 97 25 = I 98 18 ∧ (∀ z, z ≠ 25 → I1 97 z = I 97 z) ∧ ∀ i, i ≠ 97 → i ≠ 106 → i ≠ 107 → I1 i = I i) := by
  refine MG.of (by decide +kernel) (Nat.le_of_ble_eq_true rfl) hn9 ?_
  intro κ C hR
  show G κ n ρ 0 [(0, .ref 97)] [] I
  obtain ⟨mn, ⟨m0, m1, m5, m6, m7, m11, m12, m15⟩, ⟨m23, m24, m26, m27, m28, m30, m31, m32, m33⟩, ⟨m38, m39, m40, m42⟩⟩ := id hms
  refine g_iconst C (pc := 0) 0 dX12_starts_0 (by decide) ?_
  refine g_istore_n C (pc := 1) dX12_starts_1 (by decide) (fun v1 => [(1, .int v1), (0, .ref 97)]) (fun _ => rfl) (fun v1 ev1 => ?_)
  have L2 : ∀ (k9 : Nat) (j : Nat) (wz1 : Int32) (J : Mem) (hw1 : wz1 = nI j) (hj : j ≤ 6) (hA : ∀ k, k < j → J 106 k = I 98 k ∧ J 107 k = I 98 (6 + k)) (hF : ∀ i, i ≠ 106 → i ≠ 107 → J i = I i), 6 - j < k9 → G κ n ρ 2 [(1, .int wz1), (0, .ref 97)] [] J := by
    intro k9
    induction k9 with
    | zero => intro j wz1 J hw1 hj hA hF hm2; exact absurd hm2 (Nat.not_lt_zero _)
    | succ k9 ih2 =>
      intro j wz1 J hw1 hj hA hF hm2
      subst hw1
      refine g_iload_n C (pc := 2) dX12_starts_2 0 rfl ?_
      refine g_bipush C (pc := 3) 6 dX12_starts_3 (by decide) ?_
      refine g_icmp_ge C (pc := 5) 43 dX12_starts_5 (by decide) (fun c5 => ?_) (fun c5 => ?_)
      · replace c5 := (nI_leI (a := 6) (b := j) (by decide) (by omega)).mp c5
        refine g_aload_n C (pc := 43) dX12_starts_43 1 rfl ?_
        refine g_aload_n C (pc := 44) dX12_starts_44 1 rfl ?_
        refine g_getR C (pc := 45) fl_RX12_7 (by decide) (by first | assumption | rfl | omega) (by first | assumption | rfl | omega) (by first | assumption | rfl | omega) dX12_starts_45 ?_
        refine g_bipush C (pc := 48) 18 dX12_starts_48 (by decide) ?_
        refine g_iald C (pc := 50) (by first | assumption | rfl | omega) (by first | assumption | rfl | omega) (vp_in_nI (n := 18) (by decide) (by decide)) dX12_starts_50 ?_
        refine g_putI C (pc := 51) fl_RX12_204 (by decide) fp_11_25 (Or.inl rfl) ⟨rfl, rfl⟩ (by first | assumption | rfl | omega) (by first | assumption | rfl | omega) hn9 dX12_starts_51 ?_
        refine g_vret C hR (pc := 54) rfl dX12_starts_54 ?_
        refine ⟨rfl, rfl, ?_⟩
        refine ⟨fun k hk => ?_, ?_, fun z hz => ?_, fun i h1 h2 h3 => ?_⟩
        · rw [wr_n (by decide), wr_n (by decide)]; exact hA k (by omega)
        · rw [wr_ss, hF 98 (by decide) (by decide)]; rfl
        · rw [wr_sn hz, hF 97 (by decide) (by decide)]
        · rw [wr_n h1]; exact hF i h2 h3
      · replace c5 := (nI_ltI (a := j) (b := 6) (by omega) (by decide)).mp c5
        have ix1 : (0 + nI j).toNatClampNeg = j := by rw [Int32.zero_add]; exact nI_clamp (by omega)
        have ix2 : (6 + nI j).toNatClampNeg = 6 + j := by rw [show (6 : Int32) = nI 6 from rfl, nI_add]; exact nI_clamp (by omega)
        have ix3 : (nI j).toNatClampNeg = j := nI_clamp (by omega)
        refine g_aload_n C (pc := 8) dX12_starts_8 1 rfl ?_
        refine g_getR C (pc := 9) fl_RX12_35 (by decide) (by first | assumption | rfl | omega) (by first | assumption | rfl | omega) (by first | assumption | rfl | omega) dX12_starts_9 ?_
        refine g_iload_n C (pc := 12) dX12_starts_12 0 rfl ?_
        refine g_aload_n C (pc := 13) dX12_starts_13 1 rfl ?_
        refine g_getR C (pc := 14) fl_RX12_7 (by decide) (by first | assumption | rfl | omega) (by first | assumption | rfl | omega) (by first | assumption | rfl | omega) dX12_starts_14 ?_
        refine g_iconst C (pc := 17) 0 dX12_starts_17 (by decide) ?_
        refine g_iload_n C (pc := 18) dX12_starts_18 0 rfl ?_
        refine g_iadd C (pc := 19) dX12_starts_19 ?_
        refine g_iald C (pc := 20) (by first | assumption | rfl | omega) (by first | assumption | rfl | omega) (by rw [Int32.zero_add]; exact vp_in_nI (by omega) (by decide)) dX12_starts_20 ?_
        refine g_iast C (pc := 21) (by first | assumption | rfl | omega) (by first | assumption | rfl | omega) hn9 (vp_in_nI (by omega) (by decide)) dX12_starts_21 ?_
        refine g_aload_n C (pc := 22) dX12_starts_22 1 rfl ?_
        refine g_getR C (pc := 23) fl_RX12_38 (by decide) (by first | assumption | rfl | omega) (by first | assumption | rfl | omega) (by first | assumption | rfl | omega) dX12_starts_23 ?_
        refine g_iload_n C (pc := 26) dX12_starts_26 0 rfl ?_
        refine g_aload_n C (pc := 27) dX12_starts_27 1 rfl ?_
        refine g_getR C (pc := 28) fl_RX12_7 (by decide) (by first | assumption | rfl | omega) (by first | assumption | rfl | omega) (by first | assumption | rfl | omega) dX12_starts_28 ?_
        refine g_bipush C (pc := 31) 6 dX12_starts_31 (by decide) ?_
        refine g_iload_n C (pc := 33) dX12_starts_33 0 rfl ?_
        refine g_iadd C (pc := 34) dX12_starts_34 ?_
        refine g_iald C (pc := 35) (by first | assumption | rfl | omega) (by first | assumption | rfl | omega) (by rw [show (6 : Int32) = nI 6 from rfl, nI_add]; exact vp_in_nI (by omega) (by decide)) dX12_starts_35 ?_
        refine g_iast C (pc := 36) (by first | assumption | rfl | omega) (by first | assumption | rfl | omega) hn9 (vp_in_nI (by omega) (by decide)) dX12_starts_36 ?_
        refine g_iinc C (pc := 37) (1) dX12_starts_37 0 rfl (by decide) (by decide) (fun v37 => [(1, .int v37), (0, .ref 97)]) (fun _ => rfl) (fun v37 ev37 => ?_)
        refine g_goto C (pc := 40) 2 dX12_starts_40 (by decide) ?_
        refine g_lv C [0, 1] rfl (ih2 (j + 1) _ _ ?_ ?_ ?_ ?_ (by omega))
        · subst_vars; exact nI_1 _
        · omega
        · intro k hk
          rw [ix1, ix2, ix3]
          rw [wr_n (a := 106) (by decide), wr_s, wr_s]
          rcases Nat.lt_or_ge k j with h1 | h1
          · rw [upd_n (by omega), upd_n (by omega), wr_n (a := 107) (by decide)]; exact hA k h1
          · have : k = j := by omega
            subst this
            rw [upd_s, upd_s, wr_n (by decide), hF 98 (by decide) (by decide)]; exact ⟨rfl, rfl⟩
        · intro i h1 h2; rw [wr_n h2, wr_n h1]; exact hF i h1 h2
  refine g_lv C [0, 1] rfl (L2 (_ + 1) 0 _ _ ?_ ?_ ?_ ?_ (by first | omega | exact Nat.lt_succ_self _))
  · subst_vars; rfl
  · exact Nat.zero_le _
  · intro k hk; omega
  · intro i _ _; rfl
set_option maxHeartbeats 400000 in
theorem c_X12_pieceAt (n : Nat) (ρ : Rho) (I : Mem) (F : RT) (b : BT) (q : Nat) (x : Int32) (hn9 : n ≤ 999) (hms : MS n ρ) (hqf : QF I F) (hrw : RW F) (hqb : QB I F b) (hbw : BW F b) (hq : q < 2 ^ 31) (hx : x = nI q) : MI yX12_pieceAt cX12_pieceAt 4 (some .int) 0 [.ref 97, .int x] n ρ I (fun v I1 => v = oI (pon F b q) ∧ I = I1) := by
  refine MG.of (by decide +kernel) (Nat.le_of_ble_eq_true rfl) hn9 ?_
  intro κ C hR
  show G κ n ρ 0 [(0, .ref 97), (1, .int x)] [] I
  obtain ⟨mn, ⟨m0, m1, m5, m6, m7, m11, m12, m15⟩, ⟨m23, m24, m26, m27, m28, m30, m31, m32, m33⟩, ⟨m38, m39, m40, m42⟩⟩ := id hms
  obtain ⟨qw, qh, qn, qk⟩ := id hqf
  have hn6 : rN F ≤ 6 := hrw.2.2.2.2.1
  have hm25 := Nat.mul_le_mul hrw.2.1 hrw.2.2.2.1
  have hm4 := Nat.mul_le_mul hrw.1 hrw.2.2.1
  refine g_bipush C (pc := 0) (-4) dX12_pieceAt_0 (by decide) ?_
  refine g_istore_n C (pc := 2) dX12_pieceAt_2 (by decide) (fun v2 => [(2, .int v2), (0, .ref 97), (1, .int x)]) (fun _ => rfl) (fun v2 ev2 => ?_)
  refine g_iconst C (pc := 3) 0 dX12_pieceAt_3 (by decide) ?_
  refine g_istore_n C (pc := 4) dX12_pieceAt_4 (by decide) (fun v4 => [(3, .int v4), (2, .int v2), (0, .ref 97), (1, .int x)]) (fun _ => rfl) (fun v4 ev4 => ?_)
  have L5 : ∀ (k9 : Nat) (j : Nat)  (wz3 : Int32) (wz2 : Int32) (hw3 : wz3 = nI j) (hj : j ≤ rN F) (hc : wz2 = oI (findP (fun p => bP b p == some q) j)), rN F - j < k9 → G κ n ρ 5 [(3, .int wz3), (2, .int wz2), (0, .ref 97), (1, .int x)] [] I := by
    intro k9
    induction k9 with
    | zero => intro j wz3 wz2 hw3 hj hc hm5; exact absurd hm5 (Nat.not_lt_zero _)
    | succ k9 ih5 =>
      intro j wz3 wz2 hw3 hj hc hm5
      subst hw3
      refine g_iload_n C (pc := 5) dX12_pieceAt_5 0 rfl ?_
      refine g_aload_n C (pc := 6) dX12_pieceAt_6 2 rfl ?_
      refine g_getI C (pc := 7) fl_RX12_105 (by decide) (by first | assumption | rfl | omega) (by first | assumption | rfl | omega) dX12_pieceAt_7 ?_
      refine g_icmp_ge C (pc := 10) 35 dX12_pieceAt_10 (by decide) (fun c10 => ?_) (fun c10 => ?_)
      · rw [qn, nI_leI (by omega) (by omega)] at c10
        refine g_iload_n C (pc := 35) dX12_pieceAt_35 1 rfl ?_
        refine g_iret C hR (pc := 36) rfl dX12_pieceAt_36 ?_
        refine ⟨rfl, _, rfl, ?_⟩
        have : j = rN F := by omega
        subst this; exact ⟨hc, rfl⟩
      · rw [qn, nI_ltI (by omega) (by omega)] at c10
        refine g_aload_n C (pc := 13) dX12_pieceAt_13 2 rfl ?_
        refine g_getR C (pc := 14) fl_RX12_35 (by decide) (by first | assumption | rfl | omega) (by first | assumption | rfl | omega) (by first | assumption | rfl | omega) dX12_pieceAt_14 ?_
        refine g_iload_n C (pc := 17) dX12_pieceAt_17 0 rfl ?_
        refine g_iald C (pc := 18) (by first | assumption | rfl | omega) (by first | assumption | rfl | omega) (vp_in_nI (by omega) (by decide)) dX12_pieceAt_18 ?_
        rw [nI_clamp (by omega), (hqb.1 j (by omega)).1]
        refine g_iload_n C (pc := 19) dX12_pieceAt_19 3 rfl ?_
        refine g_icmp_ne C (pc := 20) 27 dX12_pieceAt_20 (by decide) (fun c20 => ?_) (fun c20 => ?_)
        · have hno : ¬ bP b j = some q := fun h9 => c20 (by rw [h9, hx]; rfl)
          refine g_iload_n C (pc := 27) dX12_pieceAt_27 1 rfl ?_
          refine g_istore_n C (pc := 28) dX12_pieceAt_28 (by decide) (fun v28 => [(2, .int v28), (3, .int (nI j)), (0, .ref 97), (1, .int x)]) (fun _ => rfl) (fun v28 ev28 => ?_)
          refine g_iinc C (pc := 29) (1) dX12_pieceAt_29 1 rfl (by decide) (by decide) (fun v29 => [(3, .int v29), (2, .int v28), (0, .ref 97), (1, .int x)]) (fun _ => rfl) (fun v29 ev29 => ?_)
          refine g_goto C (pc := 32) 5 dX12_pieceAt_32 (by decide) ?_
          refine g_lv C [0, 1, 2, 3] rfl (ih5 (j + 1)  _ _ ?_ ?_ ?_ (by omega))
          · subst_vars; exact nI_1 _
          · omega
          · rw [ev28, findP_succ]; first | (rw [hfn, if_pos (by simpa using hyes)]; rfl) | (rw [hc, if_neg (by simpa using hno)]; cases findP (fun p => bP b p == some q) j <;> rfl)
        · have hyes : bP b j = some q := (oI_nI (pl_lt hbw (by omega)) hq).mp (c20.trans hx)
          have hfn : findP (fun p => bP b p == some q) j = none := findP_none fun p hp => by
            cases h9 : (bP b p == some q) with
            | false => rfl
            | true => have := hbw.2.2 p j q (by omega) (by omega) (by simpa using h9) hyes; omega
          refine g_iload_n C (pc := 23) dX12_pieceAt_23 0 rfl ?_
          refine g_goto C (pc := 24) 28 dX12_pieceAt_24 (by decide) ?_
          refine g_istore_n C (pc := 28) dX12_pieceAt_28 (by decide) (fun v28 => [(2, .int v28), (3, .int (nI j)), (0, .ref 97), (1, .int x)]) (fun _ => rfl) (fun v28 ev28 => ?_)
          refine g_iinc C (pc := 29) (1) dX12_pieceAt_29 1 rfl (by decide) (by decide) (fun v29 => [(3, .int v29), (2, .int v28), (0, .ref 97), (1, .int x)]) (fun _ => rfl) (fun v29 ev29 => ?_)
          refine g_goto C (pc := 32) 5 dX12_pieceAt_32 (by decide) ?_
          refine g_lv C [0, 1, 2, 3] rfl (ih5 (j + 1)  _ _ ?_ ?_ ?_ (by omega))
          · subst_vars; exact nI_1 _
          · omega
          · rw [ev28, findP_succ]; first | (rw [hfn, if_pos (by simpa using hyes)]; rfl) | (rw [hc, if_neg (by simpa using hno)]; cases findP (fun p => bP b p == some q) j <;> rfl)
  refine g_lv C [0, 1, 2, 3] rfl (L5 (_ + 1) 0  _ _ ?_ ?_ ?_ (by first | omega | exact Nat.lt_succ_self _))
  · assumption
  · omega
  · subst ev2; rfl
set_option maxHeartbeats 400000 in
theorem c_X12_lost (n : Nat) (ρ : Rho) (I : Mem) (F : RT) (b : BT) (hn9 : n ≤ 999) (hms : MS n ρ) (hqf : QF I F) (hrw : RW F) (hqb : QB I F b) (hbw : BW F b) (hl1 : L1 F b) : MI yX12_lost cX12_lost 3 (some .int) 0 [.ref 97] n ρ I (fun v I1 => v = oI (lostB F b) ∧ I = I1) := by
  refine MG.of (by decide +kernel) (Nat.le_of_ble_eq_true rfl) hn9 ?_
  intro κ C hR
  show G κ n ρ 0 [(0, .ref 97)] [] I
  obtain ⟨mn, ⟨m0, m1, m5, m6, m7, m11, m12, m15⟩, ⟨m23, m24, m26, m27, m28, m30, m31, m32, m33⟩, ⟨m38, m39, m40, m42⟩⟩ := id hms
  obtain ⟨qw, qh, qn, qk⟩ := id hqf
  have hn6 : rN F ≤ 6 := hrw.2.2.2.2.1
  have hm25 := Nat.mul_le_mul hrw.2.1 hrw.2.2.2.1
  have hm4 := Nat.mul_le_mul hrw.1 hrw.2.2.1
  refine g_bipush C (pc := 0) (-4) dX12_lost_0 (by decide) ?_
  refine g_istore_n C (pc := 2) dX12_lost_2 (by decide) (fun v2 => [(1, .int v2), (0, .ref 97)]) (fun _ => rfl) (fun v2 ev2 => ?_)
  refine g_iconst C (pc := 3) 0 dX12_lost_3 (by decide) ?_
  refine g_istore_n C (pc := 4) dX12_lost_4 (by decide) (fun v4 => [(2, .int v4), (1, .int v2), (0, .ref 97)]) (fun _ => rfl) (fun v4 ev4 => ?_)
  have L5 : ∀ (k9 : Nat) (j : Nat)  (wz2 : Int32) (wz1 : Int32) (hw2 : wz2 = nI j) (hj : j ≤ rN F) (hc : wz1 = oI ((findP (fun p => bP b p == none && rKd F p == 0) j).map (rSd F))), rN F - j < k9 → G κ n ρ 5 [(2, .int wz2), (1, .int wz1), (0, .ref 97)] [] I := by
    intro k9
    induction k9 with
    | zero => intro j wz2 wz1 hw2 hj hc hm5; exact absurd hm5 (Nat.not_lt_zero _)
    | succ k9 ih5 =>
      intro j wz2 wz1 hw2 hj hc hm5
      subst hw2
      refine g_iload_n C (pc := 5) dX12_lost_5 0 rfl ?_
      refine g_aload_n C (pc := 6) dX12_lost_6 2 rfl ?_
      refine g_getI C (pc := 7) fl_RX12_105 (by decide) (by first | assumption | rfl | omega) (by first | assumption | rfl | omega) dX12_lost_7 ?_
      refine g_icmp_ge C (pc := 10) 50 dX12_lost_10 (by decide) (fun c10 => ?_) (fun c10 => ?_)
      · rw [qn, nI_leI (by omega) (by omega)] at c10
        refine g_iload_n C (pc := 50) dX12_lost_50 1 rfl ?_
        refine g_iret C hR (pc := 51) rfl dX12_lost_51 ?_
        refine ⟨rfl, _, rfl, ?_⟩
        have : j = rN F := by omega
        subst this; exact ⟨hc, rfl⟩
      · rw [qn, nI_ltI (by omega) (by omega)] at c10
        refine g_aload_n C (pc := 13) dX12_lost_13 2 rfl ?_
        refine g_getR C (pc := 14) fl_RX12_20 (by decide) (by first | assumption | rfl | omega) (by first | assumption | rfl | omega) (by first | assumption | rfl | omega) dX12_lost_14 ?_
        refine g_iload_n C (pc := 17) dX12_lost_17 0 rfl ?_
        refine g_iald C (pc := 18) (by first | assumption | rfl | omega) (by first | assumption | rfl | omega) (vp_in_nI (by omega) (by decide)) dX12_lost_18 ?_
        rw [nI_clamp (by omega), (qk j (by omega)).2]
        have hsk := hrw.2.2.2.2.2.1 j (by omega)
        refine g_if_ne C (pc := 19) 42 dX12_lost_19 (by decide) (fun c19 => ?_) (fun c19 => ?_)
        · have hno : ¬ (bP b j = none ∧ rKd F j = 0) := fun h9 => c19 (by rw [h9.2]; rfl)
          refine g_iload_n C (pc := 42) dX12_lost_42 1 rfl ?_
          refine g_istore_n C (pc := 43) dX12_lost_43 (by decide) (fun v43 => [(1, .int v43), (2, .int (nI j)), (0, .ref 97)]) (fun _ => rfl) (fun v43 ev43 => ?_)
          refine g_iinc C (pc := 44) (1) dX12_lost_44 1 rfl (by decide) (by decide) (fun v44 => [(2, .int v44), (1, .int v43), (0, .ref 97)]) (fun _ => rfl) (fun v44 ev44 => ?_)
          refine g_goto C (pc := 47) 5 dX12_lost_47 (by decide) ?_
          refine g_lv C [0, 1, 2] rfl (ih5 (j + 1)  _ _ ?_ ?_ ?_ (by omega))
          · subst_vars; exact nI_1 _
          · omega
          · rw [ev43, findP_succ]; first | (rw [hfn, if_pos (by simpa using hyes)]; rfl) | (rw [hc, if_neg (by simpa using hno)]; cases findP (fun p => bP b p == none && rKd F p == 0) j <;> rfl)
        · have hk0 : rKd F j = 0 := (nI_eq (b := 0) (by omega) (by decide)).mp c19
          refine g_aload_n C (pc := 22) dX12_lost_22 2 rfl ?_
          refine g_getR C (pc := 23) fl_RX12_35 (by decide) (by first | assumption | rfl | omega) (by first | assumption | rfl | omega) (by first | assumption | rfl | omega) dX12_lost_23 ?_
          refine g_iload_n C (pc := 26) dX12_lost_26 0 rfl ?_
          refine g_iald C (pc := 27) (by first | assumption | rfl | omega) (by first | assumption | rfl | omega) (vp_in_nI (by omega) (by decide)) dX12_lost_27 ?_
          rw [nI_clamp (by omega), (hqb.1 j (by omega)).1]
          refine g_bipush C (pc := 28) (-4) dX12_lost_28 (by decide) ?_
          refine g_icmp_ne C (pc := 30) 42 dX12_lost_30 (by decide) (fun c30 => ?_) (fun c30 => ?_)
          · have hno : ¬ (bP b j = none ∧ rKd F j = 0) := fun h9 => c30 (by rw [h9.1]; rfl)
            refine g_iload_n C (pc := 42) dX12_lost_42 1 rfl ?_
            refine g_istore_n C (pc := 43) dX12_lost_43 (by decide) (fun v43 => [(1, .int v43), (2, .int (nI j)), (0, .ref 97)]) (fun _ => rfl) (fun v43 ev43 => ?_)
            refine g_iinc C (pc := 44) (1) dX12_lost_44 1 rfl (by decide) (by decide) (fun v44 => [(2, .int v44), (1, .int v43), (0, .ref 97)]) (fun _ => rfl) (fun v44 ev44 => ?_)
            refine g_goto C (pc := 47) 5 dX12_lost_47 (by decide) ?_
            refine g_lv C [0, 1, 2] rfl (ih5 (j + 1)  _ _ ?_ ?_ ?_ (by omega))
            · subst_vars; exact nI_1 _
            · omega
            · rw [ev43, findP_succ]; first | (rw [hfn, if_pos (by simpa using hyes)]; rfl) | (rw [hc, if_neg (by simpa using hno)]; cases findP (fun p => bP b p == none && rKd F p == 0) j <;> rfl)
          · have hyes : bP b j = none ∧ rKd F j = 0 := ⟨(oI_none (pl_lt hbw (by omega))).mp c30, hk0⟩
            have hfn : findP (fun p => bP b p == none && rKd F p == 0) j = none := findP_none fun p hp => by
              cases h9 : (bP b p == none && rKd F p == 0) with
              | false => rfl
              | true =>
                rw [Bool.and_eq_true, beq_iff_eq, beq_iff_eq] at h9
                have := hl1 p j (by omega) (by omega) h9.2 hk0 h9.1 hyes.1; omega
            refine g_aload_n C (pc := 33) dX12_lost_33 2 rfl ?_
            refine g_getR C (pc := 34) fl_RX12_17 (by decide) (by first | assumption | rfl | omega) (by first | assumption | rfl | omega) (by first | assumption | rfl | omega) dX12_lost_34 ?_
            refine g_iload_n C (pc := 37) dX12_lost_37 0 rfl ?_
            refine g_iald C (pc := 38) (by first | assumption | rfl | omega) (by first | assumption | rfl | omega) (vp_in_nI (by omega) (by decide)) dX12_lost_38 ?_
            rw [nI_clamp (by omega), (qk j (by omega)).1]
            refine g_goto C (pc := 39) 43 dX12_lost_39 (by decide) ?_
            refine g_istore_n C (pc := 43) dX12_lost_43 (by decide) (fun v43 => [(1, .int v43), (2, .int (nI j)), (0, .ref 97)]) (fun _ => rfl) (fun v43 ev43 => ?_)
            refine g_iinc C (pc := 44) (1) dX12_lost_44 1 rfl (by decide) (by decide) (fun v44 => [(2, .int v44), (1, .int v43), (0, .ref 97)]) (fun _ => rfl) (fun v44 ev44 => ?_)
            refine g_goto C (pc := 47) 5 dX12_lost_47 (by decide) ?_
            refine g_lv C [0, 1, 2] rfl (ih5 (j + 1)  _ _ ?_ ?_ ?_ (by omega))
            · subst_vars; exact nI_1 _
            · omega
            · rw [ev43, findP_succ]; first | (rw [hfn, if_pos (by simpa using hyes)]; rfl) | (rw [hc, if_neg (by simpa using hno)]; cases findP (fun p => bP b p == none && rKd F p == 0) j <;> rfl)
  refine g_lv C [0, 1, 2] rfl (L5 (_ + 1) 0  _ _ ?_ ?_ ?_ (by first | omega | exact Nat.lt_succ_self _))
  · assumption
  · omega
  · subst ev2; rfl
set_option maxHeartbeats 400000 in
theorem c_X12_isOpen (n : Nat) (ρ : Rho) (I : Mem) (F : RT) (a : Option Nat) (x : Int32) (hn9 : n ≤ 999) (hms : MS n ρ) (hqe : QE I F) (ha : ∀ q, a = some q → q < 25) (hx : x = oI a) : MI yX12_isOpen cX12_isOpen 2 (some .boolean) 0 [.ref 97, .int x] n ρ I (fun v I1 => v = bI ((a.map (rS F)) = some false) ∧ I = I1) := by
  refine MG.of (by decide +kernel) (Nat.le_of_ble_eq_true rfl) hn9 ?_
  intro κ C hR
  show G κ n ρ 0 [(0, .ref 97), (1, .int x)] [] I
  obtain ⟨mn, ⟨m0, m1, m5, m6, m7, m11, m12, m15⟩, ⟨m23, m24, m26, m27, m28, m30, m31, m32, m33⟩, ⟨m38, m39, m40, m42⟩⟩ := id hms
  refine g_iload_n C (pc := 0) dX12_isOpen_0 1 rfl ?_
  refine g_bipush C (pc := 1) (-4) dX12_isOpen_1 (by decide) ?_
  refine g_icmp_eq C (pc := 3) 24 dX12_isOpen_3 (by decide) (fun c3 => ?_) (fun c3 => ?_)
  · have h9 : ¬ ((a.map (rS F)) = some false) := by
      intro h1
      obtain ⟨q, h1, -⟩ := Option.map_eq_some_iff.mp h1
      rw [hx, h1] at c3; exact absurd c3 (nI_ne4 (by have := ha q h1; omega))
    refine g_iconst C (pc := 24) 0 dX12_isOpen_24 (by decide) ?_
    refine g_zret C hR (pc := 25) rfl rfl dX12_isOpen_25 ?_
    refine ⟨rfl, _, rfl, ?_⟩
    first | exact ⟨(bI_t h9).symm, rfl⟩ | exact ⟨(bI_f h9).symm, rfl⟩
  · obtain ⟨q, hq⟩ : ∃ q, a = some q := by
      cases h9 : a with
      | none => exact absurd (by rw [hx, h9]; rfl) c3
      | some q => exact ⟨q, rfl⟩
    have hq25 := ha q hq
    have hb9 : bt (I 98 12 >>> (x &&& 31)) 0 = rS F q := by
      rw [hx, hq]
      refine (b_sshr q (by omega) _ (by decide)).trans ?_
      rw [if_pos (by omega)]; exact hqe.1 q (by omega)
    refine g_aload_n C (pc := 6) dX12_isOpen_6 0 rfl ?_
    refine g_getR C (pc := 7) fl_RX12_7 (by decide) (by first | assumption | rfl | omega) (by first | assumption | rfl | omega) (by first | assumption | rfl | omega) dX12_isOpen_7 ?_
    refine g_bipush C (pc := 10) 12 dX12_isOpen_10 (by decide) ?_
    refine g_iald C (pc := 12) (by first | assumption | rfl | omega) (by first | assumption | rfl | omega) (vp_in_nI (n := 12) (by decide) (by decide)) dX12_isOpen_12 ?_
    refine g_iload_n C (pc := 13) dX12_isOpen_13 1 rfl ?_
    refine g_ishr C (pc := 14) dX12_isOpen_14 ?_
    refine g_iconst C (pc := 15) 1 dX12_isOpen_15 (by decide) ?_
    refine g_iand C (pc := 16) dX12_isOpen_16 ?_
    refine g_if_ne C (pc := 17) 24 dX12_isOpen_17 (by decide) (fun c17 => ?_) (fun c17 => ?_)
    · have h9 : ¬ ((a.map (rS F)) = some false) := by
        intro h1
        obtain ⟨q9, h1, h2⟩ := Option.map_eq_some_iff.mp h1
        rw [hq] at h1; cases h1
        exact c17 (and_1.mpr (hb9.trans h2))
      refine g_iconst C (pc := 24) 0 dX12_isOpen_24 (by decide) ?_
      refine g_zret C hR (pc := 25) rfl rfl dX12_isOpen_25 ?_
      refine ⟨rfl, _, rfl, ?_⟩
      first | exact ⟨(bI_t h9).symm, rfl⟩ | exact ⟨(bI_f h9).symm, rfl⟩
    · have h9 : (a.map (rS F)) = some false := by rw [hq]; exact congrArg some (hb9.symm.trans (and_1.mp c17))
      refine g_iconst C (pc := 20) 1 dX12_isOpen_20 (by decide) ?_
      refine g_goto C (pc := 21) 25 dX12_isOpen_21 (by decide) ?_
      refine g_zret C hR (pc := 25) rfl rfl dX12_isOpen_25 ?_
      refine ⟨rfl, _, rfl, ?_⟩
      first | exact ⟨(bI_t h9).symm, rfl⟩ | exact ⟨(bI_f h9).symm, rfl⟩
set_option maxHeartbeats 400000 in
theorem c_X12_ownGone (n : Nat) (ρ : Rho) (I : Mem) (F : RT) (b : BT) (x : Int32) (hn9 : n ≤ 999) (hms : MS n ρ) (hqf : QF I F) (hrw : RW F) (hqb : QB I F b) (hbw : BW F b) : MI yX12_ownGone cX12_ownGone 4 (some .int) 0 [.ref 97, .int x] n ρ I (fun v I1 => (∀ i, i < 32 → bt v i = (bt x i && !helB F b (bM b) i)) ∧ I = I1) := by
  refine MG.of (by decide +kernel) (Nat.le_of_ble_eq_true rfl) hn9 ?_
  intro κ C hR
  show G κ n ρ 0 [(0, .ref 97), (1, .int x)] [] I
  obtain ⟨mn, ⟨m0, m1, m5, m6, m7, m11, m12, m15⟩, ⟨m23, m24, m26, m27, m28, m30, m31, m32, m33⟩, ⟨m38, m39, m40, m42⟩⟩ := id hms
  obtain ⟨qw, qh, qn, qk⟩ := id hqf
  have hn6 : rN F ≤ 6 := hrw.2.2.2.2.1
  have hm25 := Nat.mul_le_mul hrw.2.1 hrw.2.2.2.1
  have hm4 := Nat.mul_le_mul hrw.1 hrw.2.2.1
  refine g_iload_n C (pc := 0) dX12_ownGone_0 1 rfl ?_
  refine g_istore_n C (pc := 1) dX12_ownGone_1 (by decide) (fun v1 => [(2, .int v1), (0, .ref 97), (1, .int x)]) (fun _ => rfl) (fun v1 ev1 => ?_)
  refine g_iconst C (pc := 2) 0 dX12_ownGone_2 (by decide) ?_
  refine g_istore_n C (pc := 3) dX12_ownGone_3 (by decide) (fun v3 => [(3, .int v3), (2, .int v1), (0, .ref 97), (1, .int x)]) (fun _ => rfl) (fun v3 ev3 => ?_)
  have L4 : ∀ (k9 : Nat) (j : Nat)  (wz3 : Int32) (wz2 : Int32) (hw3 : wz3 = nI j) (hj : j ≤ rN F) (hc : ∀ i, i < 32 → bt wz2 i = (bt x i && !ownJ F b j i)), rN F - j < k9 → G κ n ρ 4 [(3, .int wz3), (2, .int wz2), (0, .ref 97), (1, .int x)] [] I := by
    intro k9
    induction k9 with
    | zero => intro j wz3 wz2 hw3 hj hc hm4; exact absurd hm4 (Nat.not_lt_zero _)
    | succ k9 ih4 =>
      intro j wz3 wz2 hw3 hj hc hm4
      subst hw3
      refine g_iload_n C (pc := 4) dX12_ownGone_4 0 rfl ?_
      refine g_aload_n C (pc := 5) dX12_ownGone_5 2 rfl ?_
      refine g_getI C (pc := 6) fl_RX12_105 (by decide) (by first | assumption | rfl | omega) (by first | assumption | rfl | omega) dX12_ownGone_6 ?_
      refine g_icmp_ge C (pc := 9) 59 dX12_ownGone_9 (by decide) (fun c9 => ?_) (fun c9 => ?_)
      · rw [qn, nI_leI (by omega) (by omega)] at c9
        refine g_iload_n C (pc := 59) dX12_ownGone_59 1 rfl ?_
        refine g_iret C hR (pc := 60) rfl dX12_ownGone_60 ?_
        refine ⟨rfl, _, rfl, ?_⟩
        have : j = rN F := by omega
        subst this; exact ⟨hc, rfl⟩
      · rw [qn, nI_ltI (by omega) (by omega)] at c9
        refine g_iload_n C (pc := 12) dX12_ownGone_12 1 rfl ?_
        refine g_aload_n C (pc := 13) dX12_ownGone_13 2 rfl ?_
        refine g_getR C (pc := 14) fl_RX12_35 (by decide) (by first | assumption | rfl | omega) (by first | assumption | rfl | omega) (by first | assumption | rfl | omega) dX12_ownGone_14 ?_
        refine g_iload_n C (pc := 17) dX12_ownGone_17 0 rfl ?_
        refine g_iald C (pc := 18) (by first | assumption | rfl | omega) (by first | assumption | rfl | omega) (vp_in_nI (by omega) (by decide)) dX12_ownGone_18 ?_
        rw [nI_clamp (by omega), (hqb.1 j (by omega)).1]
        refine g_bipush C (pc := 19) (-4) dX12_ownGone_19 (by decide) ?_
        refine g_icmp_eq C (pc := 21) 50 dX12_ownGone_21 (by decide) (fun c21 => ?_) (fun c21 => ?_)
        · have hpn : bP b j = none := (oI_none (pl_lt hbw (by omega))).mp c21
          have hno : ∀ i, ¬ (rSd F j = bM b ∧ bP b j = some i) := fun i h9 => by rw [hpn] at h9; cases h9.2
          refine g_iconst C (pc := 50) (-1) dX12_ownGone_50 (by decide) ?_
          refine g_iand C (pc := 51) dX12_ownGone_51 ?_
          refine g_istore_n C (pc := 52) dX12_ownGone_52 (by decide) (fun v52 => [(2, .int v52), (3, .int (nI j)), (0, .ref 97), (1, .int x)]) (fun _ => rfl) (fun v52 ev52 => ?_)
          refine g_iinc C (pc := 53) (1) dX12_ownGone_53 1 rfl (by decide) (by decide) (fun v53 => [(3, .int v53), (2, .int v52), (0, .ref 97), (1, .int x)]) (fun _ => rfl) (fun v53 ev53 => ?_)
          refine g_goto C (pc := 56) 4 dX12_ownGone_56 (by decide) ?_
          refine g_lv C [0, 1, 2, 3] rfl (ih4 (j + 1)  _ _ ?_ ?_ ?_ (by omega))
          · subst_vars; exact nI_1 _
          · omega
          · intro i hi
            rw [ev52, b_and, hc i hi, ownJ_succ]
            first
            | (rw [b_m1 i hi]; have : (rSd F j == bM b && bP b j == some i) = false := by simpa using hno i
               rw [this]; simp; done)
            | (rw [hbx i hi]; have e9 : (rSd F j == bM b) = true := by simpa using hyes
               rw [e9, hpa]; cases ownJ F b j i <;> cases bt x i <;> simp)
        · obtain ⟨a9, hpa⟩ : ∃ a, bP b j = some a := by
            cases h9 : bP b j with
            | none => exact absurd (by rw [h9]; rfl) c21
            | some a => exact ⟨a, rfl⟩
          refine g_aload_n C (pc := 24) dX12_ownGone_24 2 rfl ?_
          refine g_getR C (pc := 25) fl_RX12_17 (by decide) (by first | assumption | rfl | omega) (by first | assumption | rfl | omega) (by first | assumption | rfl | omega) dX12_ownGone_25 ?_
          refine g_iload_n C (pc := 28) dX12_ownGone_28 0 rfl ?_
          refine g_iald C (pc := 29) (by first | assumption | rfl | omega) (by first | assumption | rfl | omega) (vp_in_nI (by omega) (by decide)) dX12_ownGone_29 ?_
          rw [nI_clamp (by omega), (qk j (by omega)).1]
          have hsk := hrw.2.2.2.2.2.1 j (by omega)
          have hM2 := hbw.1
          refine g_aload_n C (pc := 30) dX12_ownGone_30 2 rfl ?_
          refine g_getI C (pc := 31) fl_RX12_204 (by decide) (by first | assumption | rfl | omega) (by first | assumption | rfl | omega) dX12_ownGone_31 ?_
          refine g_icmp_ne C (pc := 34) 50 dX12_ownGone_34 (by decide) (fun c34 => ?_) (fun c34 => ?_)
          · have hno : ∀ i, ¬ (rSd F j = bM b ∧ bP b j = some i) := fun i h9 => c34 (by rw [hqb.2, h9.1])
            refine g_iconst C (pc := 50) (-1) dX12_ownGone_50 (by decide) ?_
            refine g_iand C (pc := 51) dX12_ownGone_51 ?_
            refine g_istore_n C (pc := 52) dX12_ownGone_52 (by decide) (fun v52 => [(2, .int v52), (3, .int (nI j)), (0, .ref 97), (1, .int x)]) (fun _ => rfl) (fun v52 ev52 => ?_)
            refine g_iinc C (pc := 53) (1) dX12_ownGone_53 1 rfl (by decide) (by decide) (fun v53 => [(3, .int v53), (2, .int v52), (0, .ref 97), (1, .int x)]) (fun _ => rfl) (fun v53 ev53 => ?_)
            refine g_goto C (pc := 56) 4 dX12_ownGone_56 (by decide) ?_
            refine g_lv C [0, 1, 2, 3] rfl (ih4 (j + 1)  _ _ ?_ ?_ ?_ (by omega))
            · subst_vars; exact nI_1 _
            · omega
            · intro i hi
              rw [ev52, b_and, hc i hi, ownJ_succ]
              first
              | (rw [b_m1 i hi]; have : (rSd F j == bM b && bP b j == some i) = false := by simpa using hno i
                 rw [this]; simp; done)
              | (rw [hbx i hi]; have e9 : (rSd F j == bM b) = true := by simpa using hyes
                 rw [e9, hpa]; cases ownJ F b j i <;> cases bt x i <;> simp)
          · have hyes : rSd F j = bM b := by
              rw [hqb.2] at c34
              exact (nI_eq (by omega) (by omega)).mp c34
            have ha25 := (hbw.2.1 j (by omega)).1 a9 hpa
            have hbx : ∀ i, i < 32 → bt (1 <<< (oI (some a9) &&& 31) ^^^ (-1)) i = !(some a9 == some i) := fun i hi => by
              have := bitO_at (a := some a9) (by intro z hz; cases hz; exact ha25) hi
              unfold bitO at this
              rw [if_pos ⟨nI_pos' (n := a9) (by omega), nI_lt (a := a9) (b := 25) ha25 (by decide)⟩] at this
              rw [b_xor, this, b_m1 i hi]; simp
            refine g_iconst C (pc := 37) 1 dX12_ownGone_37 (by decide) ?_
            refine g_aload_n C (pc := 38) dX12_ownGone_38 2 rfl ?_
            refine g_getR C (pc := 39) fl_RX12_35 (by decide) (by first | assumption | rfl | omega) (by first | assumption | rfl | omega) (by first | assumption | rfl | omega) dX12_ownGone_39 ?_
            refine g_iload_n C (pc := 42) dX12_ownGone_42 0 rfl ?_
            refine g_iald C (pc := 43) (by first | assumption | rfl | omega) (by first | assumption | rfl | omega) (vp_in_nI (by omega) (by decide)) dX12_ownGone_43 ?_
            rw [nI_clamp (by omega), (hqb.1 j (by omega)).1, hpa]
            refine g_ishl C (pc := 44) dX12_ownGone_44 ?_
            refine g_iconst C (pc := 45) (-1) dX12_ownGone_45 (by decide) ?_
            refine g_ixor C (pc := 46) dX12_ownGone_46 ?_
            refine g_goto C (pc := 47) 51 dX12_ownGone_47 (by decide) ?_
            refine g_iand C (pc := 51) dX12_ownGone_51 ?_
            refine g_istore_n C (pc := 52) dX12_ownGone_52 (by decide) (fun v52 => [(2, .int v52), (3, .int (nI j)), (0, .ref 97), (1, .int x)]) (fun _ => rfl) (fun v52 ev52 => ?_)
            refine g_iinc C (pc := 53) (1) dX12_ownGone_53 1 rfl (by decide) (by decide) (fun v53 => [(3, .int v53), (2, .int v52), (0, .ref 97), (1, .int x)]) (fun _ => rfl) (fun v53 ev53 => ?_)
            refine g_goto C (pc := 56) 4 dX12_ownGone_56 (by decide) ?_
            refine g_lv C [0, 1, 2, 3] rfl (ih4 (j + 1)  _ _ ?_ ?_ ?_ (by omega))
            · subst_vars; exact nI_1 _
            · omega
            · intro i hi
              rw [ev52, b_and, hc i hi, ownJ_succ]
              first
              | (rw [b_m1 i hi]; have : (rSd F j == bM b && bP b j == some i) = false := by simpa using hno i
                 rw [this]; simp; done)
              | (rw [hbx i hi]; have e9 : (rSd F j == bM b) = true := by simpa using hyes
                 rw [e9, hpa]; cases ownJ F b j i <;> cases bt x i <;> simp)
  refine g_lv C [0, 1, 2, 3] rfl (L4 (_ + 1) 0  _ _ ?_ ?_ ?_ (by first | omega | exact Nat.lt_succ_self _))
  · assumption
  · omega
  · intro i hi; rw [ev1]; show bt x i = (bt x i && !false); simp
