/-! ===== rows found by the reference ===== -/
def preR (P : List Nat) (r : RowT) : RowT := (P ++ r.1, r.2)
theorem preR_cons {P : List Nat} {l : Nat} {L : List RowT} : (L.map (consR l)).map (preR P) = L.map (preR (P ++ [l])) := by
  rw [List.map_map]
  apply List.map_congr_left
  intro r _
  show (P ++ (l :: r.1), r.2) = (P ++ [l] ++ r.1, r.2)
  rw [List.append_assoc]; rfl
theorem fr_step {F : RT} {b : BT} {R : BT → List RowT} {w i : Nat} {P : List Nat} {A : List RowT} : (A ++ (fndW F b R w ++ fndI F b R w i).map (preR P)) ++ (R (playB F b w ((mvs F b w)[i]?))).map (preR (P ++ [lblN F b w i])) = A ++ (fndW F b R w ++ fndI F b R w (i + 1)).map (preR P) := by
  rw [fndI, ← preR_cons, List.append_assoc, ← List.map_append, List.append_assoc]
theorem fr_wind {F : RT} {b : BT} {R : BT → List RowT} {w : Nat} : fndW F b R w ++ fndI F b R w (cntM F b w) = fndW F b R (w + 1) ++ fndI F b R (w + 1) 0 := by
  rw [fndW, fndI, List.append_nil]
theorem fr_leaf {F : RT} {g : BT → Bool} {b : BT} {P : List Nat} : (fnd F g 0 b).map (preR P) = if g b = true then [(P, b)] else [] := by
  unfold fnd
  split
  · show [(P ++ [], b)] = _
    rw [List.append_nil]
  · rfl
theorem fr_len {F : RT} {g : BT → Bool} {b : BT} {w i e : Nat} {P : List Nat} {A : List RowT} (hn : rN F ≤ 6) (hw : w < 5) (hi : i < cntM F b w) (h : A.length + 120 ^ (e + 1) < 2 ^ 30) : (A ++ (fndW F b (fnd F g e) w ++ fndI F b (fnd F g e) w i).map (preR P)).length + 120 ^ e < 2 ^ 30 := by
  have h1 := fndW_cnt (F := F) (b := b) (R := fnd F g e) hn (fun b' => fnd_cnt hn e b') w
  have h2 := fndI_cnt (F := F) (b := b) (R := fnd F g e) (w := w) (fun b' => fnd_cnt hn e b') i
  have h3 := cntM_le (F := F) (b := b) (w := w) hn
  have h4 : w * (24 * 120 ^ e) ≤ 4 * (24 * 120 ^ e) := Nat.mul_le_mul_right _ (by omega)
  have h5 : i * 120 ^ e ≤ 23 * 120 ^ e := Nat.mul_le_mul_right _ (by omega)
  rw [Nat.pow_succ] at h
  rw [List.length_append, List.length_map, List.length_append]
  omega
/-- what a search below a depth keeps -/
def Ky (d : Nat) (I I1 : Mem) : Prop := Kp I I1 ∧ (∀ z, z < 64 * d → I1 108 z = I 108 z) ∧ (∀ z, z < d → I1 109 z = I 109 z ∧ I1 111 z = I 111 z ∧ I1 112 z = I 112 z) ∧ (∀ z, z < 13 * d → I1 110 z = I 110 z) ∧ I1 113 = I 113 ∧ I1 97 36 = I 97 36
theorem Ky.rfl' {d : Nat} {I : Mem} : Ky d I I := ⟨Kp.rfl', fun _ _ => rfl, fun _ _ => ⟨rfl, rfl, rfl⟩, fun _ _ => rfl, rfl, rfl⟩
theorem Ky.trans {d : Nat} {I I1 I2 : Mem} (h : Ky d I I1) (k : Ky d I1 I2) : Ky d I I2 := ⟨h.1.trans k.1, fun z hz => (k.2.1 z hz).trans (h.2.1 z hz), fun z hz => ⟨(k.2.2.1 z hz).1.trans (h.2.2.1 z hz).1, (k.2.2.1 z hz).2.1.trans (h.2.2.1 z hz).2.1, (k.2.2.1 z hz).2.2.trans (h.2.2.1 z hz).2.2⟩, fun z hz => (k.2.2.2.1 z hz).trans (h.2.2.2.1 z hz), k.2.2.2.2.1.trans h.2.2.2.2.1, k.2.2.2.2.2.trans h.2.2.2.2.2⟩
theorem Ky.down {d : Nat} {I I1 : Mem} (h : Ky (d + 1) I I1) : Ky d I I1 := ⟨h.1, fun z hz => h.2.1 z (by omega), fun z hz => h.2.2.1 z (by omega), fun z hz => h.2.2.2.1 z (by omega), h.2.2.2.2.1, h.2.2.2.2.2⟩
theorem Ky.qb {d : Nat} {I I1 : Mem} (a : ∀ z, z ≠ 25 → I1 97 z = I 97 z) (g : ∀ i, i ≠ 97 → i ≠ 106 → i ≠ 107 → I1 i = I i) : Ky d I I1 := ⟨Kp.qb a g, fun z _ => by rw [g 108 (by decide) (by decide) (by decide)], fun z _ => ⟨by rw [g 109 (by decide) (by decide) (by decide)], by rw [g 111 (by decide) (by decide) (by decide)], by rw [g 112 (by decide) (by decide) (by decide)]⟩, fun z _ => by rw [g 110 (by decide) (by decide) (by decide)], g 113 (by decide) (by decide) (by decide), a 36 (by decide)⟩
theorem Ky.w1 {d : Nat} {I : Mem} {x : Int32} : Ky d I (wr I 111 d x) := ⟨Kp.ar (by decide) (by decide), fun z _ => by rw [wr_n (by decide)], fun z hz => ⟨by rw [wr_n (by decide)], wr_sn (by omega), by rw [wr_n (by decide)]⟩, fun z _ => by rw [wr_n (by decide)], wr_n (by decide), by rw [wr_n (by decide)]⟩
theorem Ky.w2 {d : Nat} {I : Mem} {x : Int32} : Ky d I (wr I 112 d x) := ⟨Kp.ar (by decide) (by decide), fun z _ => by rw [wr_n (by decide)], fun z hz => ⟨by rw [wr_n (by decide)], by rw [wr_n (by decide)], wr_sn (by omega)⟩, fun z _ => by rw [wr_n (by decide)], wr_n (by decide), by rw [wr_n (by decide)]⟩
theorem Ky.fm {d : Nat} {I I1 : Mem} (a : ∀ z, z < 64 * d ∨ 64 * d + 24 ≤ z → I1 108 z = I 108 z) (b : ∀ z, z ≠ d → I1 109 z = I 109 z) (g : ∀ i, i ≠ 108 → i ≠ 109 → I1 i = I i) : Ky d I I1 := ⟨Kp.fm g, fun z hz => a z (Or.inl hz), fun z hz => ⟨b z (by omega), by rw [g 111 (by decide) (by decide)], by rw [g 112 (by decide) (by decide)]⟩, fun z _ => by rw [g 110 (by decide) (by decide)], g 113 (by decide) (by decide), by rw [g 97 (by decide) (by decide)]⟩
theorem Ky.en {d : Nat} {I I1 : Mem} (p : ∀ z, z ≠ d → I1 111 z = I 111 z) (q : ∀ z, z ≠ d → I1 112 z = I 112 z) (a : ∀ z, z < 64 * d ∨ 64 * d + 24 ≤ z → I1 108 z = I 108 z) (b : ∀ z, z ≠ d → I1 109 z = I 109 z) (c : ∀ z, z < 13 * d ∨ 13 * d + 13 ≤ z → I1 110 z = I 110 z) (g : ∀ i, i < 108 ∨ 112 < i → I1 i = I i) : Ky d I I1 := ⟨⟨fun z _ => by rw [g 97 (by decide)], fun i hi => g i (by omega)⟩, fun z hz => a z (Or.inl hz), fun z hz => ⟨b z (by omega), p z (by omega), q z (by omega)⟩, fun z hz => c z (Or.inl hz), g 113 (by decide), by rw [g 97 (by decide)]⟩
theorem Ky.sc {d k : Nat} {I : Mem} {x : Int32} (h : 25 ≤ k) (h2 : k ≤ 37) (h3 : k ≠ 36) : Ky d I (wr I 97 k x) := ⟨Kp.sc h h2, fun z _ => by rw [wr_n (by decide)], fun z _ => ⟨by rw [wr_n (by decide)], by rw [wr_n (by decide)], by rw [wr_n (by decide)]⟩, fun z _ => by rw [wr_n (by decide)], wr_n (by decide), wr_sn (Ne.symm h3)⟩
theorem Ky.lf {d : Nat} {I I1 : Mem} (a : ∀ z, z ≠ 34 → z ≠ 35 → I1 97 z = I 97 z) (g : ∀ i, i ≠ 97 → i ≠ 114 → I1 i = I i) : Ky d I I1 := ⟨⟨fun z hz => a z (by omega) (by omega), fun i hi => g i (by omega) (by omega)⟩, fun z _ => by rw [g 108 (by decide) (by decide)], fun z _ => ⟨by rw [g 109 (by decide) (by decide)], by rw [g 111 (by decide) (by decide)], by rw [g 112 (by decide) (by decide)]⟩, fun z _ => by rw [g 110 (by decide) (by decide)], g 113 (by decide) (by decide), a 36 (by decide) (by decide)⟩
theorem SvB.ky {I I1 : Mem} {F : RT} {d : Nat} {b : BT} (h : SvB I F d b) (k : Ky (d + 1) I I1) (hn : rN F ≤ 6) : SvB I1 F d b := h.cong (fun z h1 h2 => k.2.2.2.1 z (by omega)) hn
theorem FMv.ky {I I1 : Mem} {F : RT} {b : BT} {w d : Nat} (h : FMv I F b w d) (k : Ky (d + 1) I I1) (hn : rN F ≤ 6) : FMv I1 F b w d := h.cong (k.2.2.1 d (by omega)).1 (fun z h1 h2 => k.2.1 z (by omega)) hn
/-- a depth of the search: its board kept, its moves found, its wind, the move before the next *)-/
def LvR (I : Mem) (F : RT) (b : BT) (d w i : Nat) : Prop := SvB I F d b ∧ FMv I F b w d ∧ I 111 d = nI w ∧ I 112 d = nI i - 1
theorem LvR.ky {I I1 : Mem} {F : RT} {b : BT} {d w i : Nat} (h : LvR I F b d w i) (k : Ky (d + 1) I I1) (hn : rN F ≤ 6) : LvR I1 F b d w i := ⟨h.1.ky k hn, h.2.1.ky k hn, (k.2.2.1 d (by omega)).2.1.trans h.2.2.1, (k.2.2.1 d (by omega)).2.2.trans h.2.2.2⟩
/-- the labels of the depths above -/
def LB (I : Mem) (P : List Nat) : Prop := ∀ z l, P[z]? = some l → 100 * I 111 z + (if I 109 z = 0 then 99 else I 112 z) = nI l
theorem LB.ky {I I1 : Mem} {P : List Nat} {d : Nat} (h : LB I P) (hd : P.length = d) (k : Ky d I I1) : LB I1 P := fun z l hz => by
  have hz9 : z < d := by rw [← hd]; exact (List.getElem?_eq_some_iff.mp hz).1
  obtain ⟨e1, e2, e3⟩ := k.2.2.1 z hz9
  rw [e1, e2, e3]; exact h z l hz
theorem LB.push {I : Mem} {P : List Nat} {F : RT} {b : BT} {d w i : Nat} (h : LB I P) (hd : P.length = d) (hn : rN F ≤ 6) (e1 : I 111 d = nI w) (e2 : I 109 d = nI (mvs F b w).length) (e3 : I 112 d = nI i) : LB I (P ++ [lblN F b w i]) := fun z l hz => by
  rcases get_push hz with ⟨h1, h2⟩ | ⟨h1, h2⟩
  · exact h z l h2
  · have hml := mvs_len (F := F) (b := b) (w := w) hn
    rw [h1, hd, h2, e1, e2, e3, show (100 : Int32) = nI 100 from rfl, pk_mul]
    unfold lblN
    by_cases h0 : (mvs F b w).length = 0
    · rw [if_pos h0, if_pos (show nI (mvs F b w).length = 0 by rw [h0]; rfl), show (99 : Int32) = nI 99 from rfl, nI_add]
    · rw [if_neg h0, if_neg (show ¬ nI (mvs F b w).length = 0 from fun h9 => h0 ((nI_eq (b := 0) (by omega) (by decide)).mp h9)), nI_add]
/-- the counters of the rows found so far -/
def CtR (I : Mem) (wp N : Nat) (A : List RowT) : Prop := I 97 34 = nI A.length ∧ (∀ i, i < 32 → bt (I 97 35) i = A.any (fun r => plB (some wp) r.2 i)) ∧ ∀ r L, A = r :: L → r.1.length ≤ N ∧ ∀ z l, r.1[z]? = some l → I 114 z = nI l
theorem CtR.cong {I I1 : Mem} {wp N : Nat} {A : List RowT} (h : CtR I wp N A) (e1 : I1 97 34 = I 97 34) (e2 : I1 97 35 = I 97 35) (e3 : I1 114 = I 114) : CtR I1 wp N A := by
  unfold CtR
  rw [e1, e2, e3]; exact h
theorem CtR.leaf {I I1 : Mem} {g : BT → Bool} {b : BT} {wp N : Nat} {A : List RowT} {P : List Nat} {lab : Nat → Nat} (hA : CtR I wp N A) (hP : P.length = N) (hlab : ∀ z l, P[z]? = some l → lab z = l) (h : (g b = true ∧ I1 97 34 = nI (A.length + 1) ∧ (∀ d, d < N → I1 114 d = if A.length = 0 then nI (lab d) else I 114 d) ∧ (∀ i, i < 32 → bt (I1 97 35) i = (bt (I 97 35) i || plB (some wp) b i)) ∧ (∀ z, z ≠ 34 → z ≠ 35 → I1 97 z = I 97 z) ∧ ∀ i, i ≠ 97 → i ≠ 114 → I1 i = I i) ∨ (g b = false ∧ I = I1)) : CtR I1 wp N (A ++ (if g b = true then [(P, b)] else [])) ∧ ∀ d, Ky d I I1 := by
  rcases h with ⟨hg, h1, h2, h3, h4, h5⟩ | ⟨hg, rfl⟩
  · rw [if_pos hg]
    refine ⟨⟨?_, fun i hi => ?_, fun r L hr => ?_⟩, fun d => Ky.lf h4 h5⟩
    · rw [h1, List.length_append]; rfl
    · rw [h3 i hi, hA.2.1 i hi, List.any_append]; simp
    · cases A with
      | nil =>
        have hr2 : (P, b) = r := (List.cons.inj hr).1
        subst hr2
        refine ⟨Nat.le_of_eq hP, fun z l hz => ?_⟩
        have hz9 := (List.getElem?_eq_some_iff.mp hz).1
        rw [h2 z (by rw [← hP]; exact hz9), if_pos (show ([] : List RowT).length = 0 from rfl), hlab z l hz]
      | cons r0 A0 =>
        have hr2 : r0 = r := (List.cons.inj hr).1
        subst hr2
        obtain ⟨a1, a2⟩ := hA.2.2 r0 A0 rfl
        refine ⟨a1, fun z l hz => ?_⟩
        have hz9 := (List.getElem?_eq_some_iff.mp hz).1
        rw [h2 z (by omega), if_neg (by rw [List.length_cons]; omega)]
        exact a2 z l hz
  · rw [if_neg (by rw [hg]; decide), List.append_nil]
    exact ⟨hA, fun d => Ky.rfl'⟩
/-- what is at the end of a row, by its test -/
def LfC (n : Nat) (ρ : Rho) (I0 : Mem) (F : RT) (g : BT → Bool) (wp : Nat) (zm : Int32) : Prop := ∀ (I : Mem) (b : BT) (k m : Nat) (lab : Nat → Nat) (x : Int32), Kp I0 I → QB I F b → BW F b → x = nI k → k ≤ 3 → I 97 34 = nI m → m < 2 ^ 30 → I 97 36 = nI wp → (∀ d, d < k → 100 * I 111 d + (if I 109 d = 0 then 99 else I 112 d) = nI (lab d)) → MV yX12_leaf cX12_leaf 4 none 2 [.ref 97, .int x, .int zm] n ρ I (fun I1 => (g b = true ∧ I1 97 34 = nI (m + 1) ∧ (∀ d, d < k → I1 114 d = if m = 0 then nI (lab d) else I 114 d) ∧ (∀ i, i < 32 → bt (I1 97 35) i = (bt (I 97 35) i || plB (some wp) b i)) ∧ (∀ z, z ≠ 34 → z ≠ 35 → I1 97 z = I 97 z) ∧ ∀ i, i ≠ 97 → i ≠ 114 → I1 i = I i) ∨ (g b = false ∧ I = I1))
theorem SnM.kp {I I1 : Mem} {sn : Nat} {sq : Nat → Nat} {sd : Nat → Option Nat} (h : SnM I sn sq sd) (k : Kp I I1) : SnM I1 sn sq sd := by
  unfold SnM
  rw [k.2 98 (by decide)]; exact h
theorem lfc0 {n : Nat} {ρ : Rho} {I0 : Mem} {F : RT} {gl : BT} {wp : Nat} (hn9 : n ≤ 999) (hms : MS n ρ) (hqn : QN I0 F gl) (hrw : RW F) (hbg : BW F gl) (hwn : wp < rN F) : LfC n ρ I0 F (asB F gl) wp 0 := fun I b k m lab x hk hqb hbw hx hk3 hrm hm hwp hlab => c_X12_leaf0 n ρ I F b gl k m wp lab x 0 hn9 hms (hqn.1.kp hk) hrw hqb hbw (hqn.kp hk) hbg hx hk3 rfl hrm hm hwp hwn hlab
theorem lfc1 {n : Nat} {ρ : Rho} {I0 : Mem} {F : RT} {sn : Nat} {sq : Nat → Nat} {sd : Nat → Option Nat} {wp : Nat} (hn9 : n ≤ 999) (hms : MS n ρ) (hqf : QF I0 F) (hsm : SnM I0 sn sq sd) (hrw : RW F) (hwn : wp < rN F) : LfC n ρ I0 F (seeB F sn sq sd) wp 1 := fun I b k m lab x hk hqb hbw hx hk3 hrm hm hwp hlab => c_X12_leaf1 n ρ I F b sn sq sd k m wp lab x 1 hn9 hms (hqf.kp hk) hrw hqb hbw (hsm.kp hk) hx hk3 rfl hrm hm hwp hwn hlab
/-- winds from a depth on -/
def wdL (wd : Nat → Nat) : Nat → Nat → List Nat
  | _, 0 => []
  | d, e + 1 => wd d :: wdL wd (d + 1) e
theorem wdL_eq {wd : Nat → Nat} : ∀ {e d : Nat}, wdL wd d e = (List.range e).map (fun q => wd (d + q))
  | 0, d => rfl
  | e + 1, d => by
    rw [wdL, wdL_eq (e := e) (d := d + 1), List.range_succ_eq_map, List.map_cons, List.map_map]
    congr 1
    apply List.map_congr_left
    intro q _
    show wd (d + 1 + q) = wd (d + (q + 1))
    congr 1; omega
theorem canB_lost {F : RT} {sd : Nat} {ws : List Nat} {b : BT} (hf : RW F) (hsd : sd < 2) (h : ws = [] ∨ lostP F b ≠ none) : canB F sd ws b = decide (lostB F b = some (1 - sd)) := by
  cases e : lostB F b with
  | some l =>
    have := lostB_lt hf l e
    rw [canB_over e]
    by_cases h1 : l = sd
    · rw [decide_eq_false (fun h9 => h9 h1), decide_eq_false (fun h9 => by have := Option.some.inj h9; omega)]
    · rw [decide_eq_true h1, decide_eq_true (congrArg some (by omega))]
  | none =>
    rcases h with rfl | h
    · rw [canB_nil e]; simp
    · exact absurd (lostB_none.mp e) h
theorem canB_lv {F : RT} {sd w : Nat} {ws : List Nat} {b : BT} (h : lostP F b = none) : canB F sd (w :: ws) b = (List.range (cntM F b w)).any (fun i => canB F sd ws (playB F b w ((mvs F b w)[i]?))) := by
  rw [canB, lostB_none.mpr h]
theorem any_succ {P : Nat → Bool} {i : Nat} : (List.range (i + 1)).any P = ((List.range i).any P || P i) := by
  rw [List.range_succ, List.any_append]; simp
set_option maxHeartbeats 3200000 in
theorem fr_rows (n : Nat) (ρ : Rho) (I0 : Mem) (F : RT) (g : BT → Bool) (wp N : Nat) (z oth : Int32) (κ : Kap) (hn9 : n ≤ 999) (C : Cx κ yX12_findRows cX12_findRows 5 5 (n + 0)) (hms : MS n ρ) (hqf : QF I0 F) (hqe : QE I0 F) (hrw : RW F) (hN3 : N ≤ 3) (hz : ¬ z = 2) (hLf : LfC n ρ I0 F g wp z) : ∀ (e d : Nat) (b : BT) (P : List Nat) (A : List RowT) (J0 : Mem), d + e + 1 = N → BW F b → L1 F b → PW F b → P.length = d → LvR J0 F b d 0 0 → LB J0 P → CtR J0 wp N A → Kp I0 J0 → J0 97 36 = nI wp → A.length + 120 ^ (e + 1) < 2 ^ 30 → (∀ J1, Ky d J0 J1 → CtR J1 wp N (A ++ (fndW F b (fnd F g e) 5).map (preR P)) → G κ n ρ 52 [(4, .int (nI d - 1)), (3, .int oth), (0, .ref 97), (1, .int (nI N)), (2, .int z)] [] J1) → G κ n ρ 52 [(4, .int (nI d)), (3, .int oth), (0, .ref 97), (1, .int (nI N)), (2, .int z)] [] J0 := by
  obtain ⟨mn, ⟨m0, m1, m5, m6, m7, m11, m12, m15⟩, ⟨m23, m24, m26, m27, m28, m30, m31, m32, m33⟩, ⟨m38, m39, m40, m42⟩⟩ := id hms
  obtain ⟨qw, qh, qn, qk⟩ := id hqf
  have hn6 : rN F ≤ 6 := hrw.2.2.2.2.1
  have hm25 := Nat.mul_le_mul hrw.2.1 hrw.2.2.2.1
  have hm4 := Nat.mul_le_mul hrw.1 hrw.2.2.1
  intro e
  induction e using Nat.strongRecOn with
  | _ e ihE =>
  intro d b P A J0 hde hbw hl1 hpw hPl hlv0 hlb0 hct0 hkp0 h360 hAb K
  have hd3 : d < 3 := by omega
  have hcd : (nI d).toNatClampNeg = d := nI_clamp (by omega)
  have hN1 : nI N - 1 = nI (N - 1) := pk_sub (b := 1) (by omega)
  have inner : ∀ (k9 w i : Nat) (J : Mem), w < 5 → i ≤ cntM F b w → LvR J F b d w i → Ky d J0 J → CtR J wp N (A ++ (fndW F b (fnd F g e) w ++ fndI F b (fnd F g e) w i).map (preR P)) → (4 - w) * 32 + (25 - i) < k9 → G κ n ρ 52 [(4, .int (nI d)), (3, .int oth), (0, .ref 97), (1, .int (nI N)), (2, .int z)] [] J := by
    intro k9
    induction k9 with
    | zero => intro w i J hw _ _ _ _ hm; exact absurd hm (Nat.not_lt_zero _)
    | succ k9 ih =>
    intro w i J hw hi hlv hky hct hm
    obtain ⟨hsv, hfm, h111, h112⟩ := hlv
    have hcm := cntM_le (F := F) (b := b) (w := w) hn6
    have hml := mvs_len (F := F) (b := b) (w := w) hn6
    have hkp := hkp0.trans hky.1
    have hi9 : J 112 d + 1 = nI i := by rw [h112]; exact Int32.sub_add_cancel _ _
    refine g_iload C (pc := 52) dX12_findRows_52 0 rfl ?_
    refine g_if_lt C (pc := 54) 270 dX12_findRows_54 (by decide) (fun c54 => ?_) (fun c54 => ?_)
    · exact absurd c54 (nI_pos (by omega))
    · refine g_aload_n C (pc := 57) dX12_findRows_57 2 rfl ?_
      refine g_getR C (pc := 58) fl_RX12_53 (by decide) (by first | assumption | rfl | omega) (by first | assumption | rfl | omega) (by first | assumption | rfl | omega) dX12_findRows_58 ?_
      refine g_iload C (pc := 61) dX12_findRows_61 0 rfl ?_
      refine g_dup2 C (pc := 63) dX12_findRows_63 rfl rfl ?_
      refine g_iald C (pc := 64) (by first | assumption | rfl | omega) (by first | assumption | rfl | omega) (vp_in_nI (n := d) (by omega) (by decide)) dX12_findRows_64 ?_
      refine g_iconst C (pc := 65) 1 dX12_findRows_65 (by decide) ?_
      refine g_iadd C (pc := 66) dX12_findRows_66 ?_
      refine g_iast C (pc := 67) (by first | assumption | rfl | omega) (by first | assumption | rfl | omega) hn9 (vp_in_nI (n := d) (by omega) (by decide)) dX12_findRows_67 ?_
      rw [hcd, hi9]
      obtain ⟨JA, hJA⟩ : ∃ JA, JA = wr J 112 d (nI i) := ⟨_, rfl⟩
      rw [← hJA]
      have kA0 : Ky d J JA := by rw [hJA]; exact Ky.w2
      have kA := hky.trans kA0
      have svA : SvB JA F d b := hsv.cong (fun k _ _ => by rw [hJA, wr_n (by decide)]) hn6
      have fmA : FMv JA F b w d := hfm.cong (by rw [hJA, wr_n (by decide)]) (fun k _ _ => by rw [hJA, wr_n (by decide)]) hn6
      have a111 : JA 111 d = nI w := by rw [hJA, wr_n (by decide)]; exact h111
      have a112 : JA 112 d = nI i := by rw [hJA, wr_ss]
      have kpA := hkp0.trans kA.1
      have ctA := hct.cong (I1 := JA) (by rw [hJA, wr_n (by decide)]) (by rw [hJA, wr_n (by decide)]) (by rw [hJA, wr_n (by decide)])
      refine g_aload_n C (pc := 68) dX12_findRows_68 2 rfl ?_
      refine g_iload C (pc := 69) dX12_findRows_69 0 rfl ?_
      refine g_callVV C (pc := 71) mf_X12_returns lk_RX12_257 (c_X12_returnsD n ρ JA F b d _ hn9 hms (hqf.kp kpA) hrw svA (by omega) rfl) (by decide) (Nat.le_refl _) rfl (by first | assumption | rfl | omega) rfl (by first | assumption | rfl | omega) (Nat.le_of_ble_eq_true rfl) dX12_findRows_71 (fun I71 h71 => ?_)
      obtain ⟨f71, a71, g71⟩ := h71
      have k71 : Ky d J0 I71 := kA.trans (Ky.qb a71 g71)
      have kp71 := hkp0.trans k71.1
      have sv71 : SvB I71 F d b := svA.cong (fun k _ _ => by rw [g71 110 (by decide) (by decide) (by decide)]) hn6
      have fm71 : FMv I71 F b w d := fmA.cong (by rw [g71 109 (by decide) (by decide) (by decide)]) (fun k _ _ => by rw [g71 108 (by decide) (by decide) (by decide)]) hn6
      have b111 : I71 111 d = nI w := by rw [g71 111 (by decide) (by decide) (by decide)]; exact a111
      have b112 : I71 112 d = nI i := by rw [g71 112 (by decide) (by decide) (by decide)]; exact a112
      have b109 : I71 109 d = nI (mvs F b w).length := fm71.1
      have ct71 := ctA.cong (a71 34 (by decide)) (a71 35 (by decide)) (g71 114 (by decide) (by decide) (by decide))
      refine g_aload_n C (pc := 74) dX12_findRows_74 2 rfl ?_
      refine g_getR C (pc := 75) fl_RX12_53 (by decide) (by first | assumption | rfl | omega) (by first | assumption | rfl | omega) (by first | assumption | rfl | omega) dX12_findRows_75 ?_
      refine g_iload C (pc := 78) dX12_findRows_78 0 rfl ?_
      refine g_iald C (pc := 80) (by first | assumption | rfl | omega) (by first | assumption | rfl | omega) (vp_in_nI (n := d) (by omega) (by decide)) dX12_findRows_80 ?_
      rw [hcd, b112]
      refine g_aload_n C (pc := 81) dX12_findRows_81 2 rfl ?_
      refine g_getR C (pc := 82) fl_RX12_44 (by decide) (by first | assumption | rfl | omega) (by first | assumption | rfl | omega) (by first | assumption | rfl | omega) dX12_findRows_82 ?_
      refine g_iload C (pc := 85) dX12_findRows_85 0 rfl ?_
      refine g_iald C (pc := 87) (by first | assumption | rfl | omega) (by first | assumption | rfl | omega) (vp_in_nI (n := d) (by omega) (by decide)) dX12_findRows_87 ?_
      rw [hcd, b109]
      refine g_if_ne C (pc := 88) 95 dX12_findRows_88 (by decide) (fun c88 => ?_) (fun c88 => ?_)
      · have hl0 : (mvs F b w).length ≠ 0 := fun h => c88 (by rw [h]; rfl)
        refine g_aload_n C (pc := 95) dX12_findRows_95 2 rfl ?_
        refine g_getR C (pc := 96) fl_RX12_44 (by decide) (by first | assumption | rfl | omega) (by first | assumption | rfl | omega) (by first | assumption | rfl | omega) dX12_findRows_96 ?_
        refine g_iload C (pc := 99) dX12_findRows_99 0 rfl ?_
        refine g_iald C (pc := 101) (by first | assumption | rfl | omega) (by first | assumption | rfl | omega) (vp_in_nI (n := d) (by omega) (by decide)) dX12_findRows_101 ?_
        first
        | rw [hcd, b109]
        | skip
        refine g_icmp_ge C (pc := 102) 213 dX12_findRows_102 (by decide) (fun c102 => ?_) (fun c102 => ?_)
        · have hic : i = cntM F b w := by
            have h9 : cntM F b w ≤ i := by
              unfold cntM
              first
              | (rw [if_neg hl0]; exact (nI_leI (by omega) (by omega)).mp c102)
              | (rw [if_pos hl0]; exact (nI_leI (a := 1) (by omega) (by omega)).mp c102)
            omega
          refine g_iload_n C (pc := 213) dX12_findRows_213 4 rfl ?_
          refine g_iconst C (pc := 214) 2 dX12_findRows_214 (by decide) ?_
          refine g_icmp_eq C (pc := 215) 264 dX12_findRows_215 (by decide) (fun c215 => ?_) (fun c215 => ?_)
          · exact absurd c215 hz
          · refine g_aload_n C (pc := 218) dX12_findRows_218 2 rfl ?_
            refine g_getR C (pc := 219) fl_RX12_50 (by decide) (by first | assumption | rfl | omega) (by first | assumption | rfl | omega) (by first | assumption | rfl | omega) dX12_findRows_219 ?_
            refine g_iload C (pc := 222) dX12_findRows_222 0 rfl ?_
            refine g_iald C (pc := 224) (by first | assumption | rfl | omega) (by first | assumption | rfl | omega) (vp_in_nI (n := d) (by omega) (by decide)) dX12_findRows_224 ?_
            refine g_iconst C (pc := 225) 4 dX12_findRows_225 (by decide) ?_
            rw [hcd, b111]
            refine g_icmp_ge C (pc := 226) 264 dX12_findRows_226 (by decide) (fun c226 => ?_) (fun c226 => ?_)
            · have hw4 : w = 4 := by
                have := (nI_leI (a := 4) (by decide) (by omega)).mp c226
                omega
              refine g_iinc C (pc := 264) (-1) dX12_findRows_264 0 rfl (by decide) (by decide) (fun v264 => [(4, .int v264), (3, .int oth), (0, .ref 97), (1, .int (nI N)), (2, .int z)]) (fun _ => rfl) (fun v264 ev264 => ?_)
              refine g_goto C (pc := 267) 52 dX12_findRows_267 (by decide) ?_
              refine g_lv C [0, 1, 2, 3, 4] rfl ?_
              replace ev264 : v264 = nI d - 1 := by rw [ev264]; exact (Int32.sub_eq_add_neg _ _).symm
              subst ev264
              refine K I71 k71 ?_
              rw [hic] at ct71
              subst hw4
              exact ct71
            · have hw4 : w < 4 := (nI_ltI (b := 4) (by omega) (by decide)).mp c226
              refine g_aload_n C (pc := 229) dX12_findRows_229 2 rfl ?_
              refine g_getR C (pc := 230) fl_RX12_50 (by decide) (by first | assumption | rfl | omega) (by first | assumption | rfl | omega) (by first | assumption | rfl | omega) dX12_findRows_230 ?_
              refine g_iload C (pc := 233) dX12_findRows_233 0 rfl ?_
              refine g_dup2 C (pc := 235) dX12_findRows_235 rfl rfl ?_
              refine g_iald C (pc := 236) (by first | assumption | rfl | omega) (by first | assumption | rfl | omega) (vp_in_nI (n := d) (by omega) (by decide)) dX12_findRows_236 ?_
              refine g_iconst C (pc := 237) 1 dX12_findRows_237 (by decide) ?_
              refine g_iadd C (pc := 238) dX12_findRows_238 ?_
              refine g_iast C (pc := 239) (by first | assumption | rfl | omega) (by first | assumption | rfl | omega) hn9 (vp_in_nI (n := d) (by omega) (by decide)) dX12_findRows_239 ?_
              rw [hcd, b111, nI_1]
              refine g_aload_n C (pc := 240) dX12_findRows_240 2 rfl ?_
              refine g_getR C (pc := 241) fl_RX12_53 (by decide) (by first | assumption | rfl | omega) (by first | assumption | rfl | omega) (by first | assumption | rfl | omega) dX12_findRows_241 ?_
              refine g_iload C (pc := 244) dX12_findRows_244 0 rfl ?_
              refine g_iconst C (pc := 246) (-1) dX12_findRows_246 (by decide) ?_
              refine g_iast C (pc := 247) (by first | assumption | rfl | omega) (by first | assumption | rfl | omega) hn9 (vp_in_nI (n := d) (by omega) (by decide)) dX12_findRows_247 ?_
              rw [hcd]
              obtain ⟨IC, hIC⟩ : ∃ IC, IC = wr (wr I71 111 d (nI (w + 1))) 112 d (-1) := ⟨_, rfl⟩
              rw [← hIC]
              have kC0 : ∀ d9, d9 ≤ d → Ky d9 I71 IC := fun d9 h9 => by
                have h8 : Ky d I71 IC := by rw [hIC]; exact Ky.w1.trans Ky.w2
                exact ⟨h8.1, fun z hz => h8.2.1 z (by omega), fun z hz => h8.2.2.1 z (by omega), fun z hz => h8.2.2.2.1 z (by omega), h8.2.2.2.2⟩
              have kC := k71.trans (kC0 d (Nat.le_refl d))
              have kpC := hkp0.trans kC.1
              have qbC : QB IC F b := f71.cong (fun _ _ => by rw [hIC, wr_n (by decide), wr_n (by decide)]) (fun _ _ => by rw [hIC, wr_n (by decide), wr_n (by decide)]) (by rw [hIC, wr_n (by decide), wr_n (by decide)]) hn6
              have c111 : IC 111 d = nI (w + 1) := by rw [hIC, wr_n (by decide), wr_ss]
              have c112 : IC 112 d = nI 0 - 1 := by rw [hIC, wr_ss]; decide
              have svC : SvB IC F d b := sv71.cong (fun k _ _ => by rw [hIC, wr_n (by decide), wr_n (by decide)]) hn6
              refine g_aload_n C (pc := 248) dX12_findRows_248 2 rfl ?_
              refine g_aload_n C (pc := 249) dX12_findRows_249 2 rfl ?_
              refine g_getR C (pc := 250) fl_RX12_50 (by decide) (by first | assumption | rfl | omega) (by first | assumption | rfl | omega) (by first | assumption | rfl | omega) dX12_findRows_250 ?_
              refine g_iload C (pc := 253) dX12_findRows_253 0 rfl ?_
              refine g_iald C (pc := 255) (by first | assumption | rfl | omega) (by first | assumption | rfl | omega) (vp_in_nI (n := d) (by omega) (by decide)) dX12_findRows_255 ?_
              rw [hcd, c111]
              refine g_iload C (pc := 256) dX12_findRows_256 0 rfl ?_
              refine g_callVV C (pc := 258) mf_X12_findMoves lk_RX12_247 (c_X12_findMovesD n ρ IC F b (w + 1) d _ _ hn9 hms (hqf.kp kpC) hrw (hqe.kp kpC) qbC hbw hl1 hpw (by omega) (by omega) rfl rfl) (by decide) (Nat.le_refl _) rfl (by first | assumption | rfl | omega) rfl (by first | assumption | rfl | omega) (Nat.le_of_ble_eq_true rfl) dX12_findRows_258 (fun I258 h258 => ?_)
              obtain ⟨f258, a258, b258, g258⟩ := h258
              refine g_goto C (pc := 261) 52 dX12_findRows_261 (by decide) ?_
              refine g_lv C [0, 1, 2, 3, 4] rfl ?_
              have kF := Ky.fm a258 b258 g258
              refine ih (w + 1) 0 I258 (by omega) (Nat.zero_le _) ⟨svC.cong (fun k _ _ => by rw [g258 110 (by decide) (by decide)]) hn6, f258, by rw [g258 111 (by decide) (by decide)]; exact c111, by rw [g258 112 (by decide) (by decide)]; exact c112⟩ (kC.trans kF) ?_ (by omega)
              rw [← fr_wind, ← hic]
              exact ct71.cong (by rw [g258 97 (by decide) (by decide), hIC, wr_n (by decide), wr_n (by decide)]) (by rw [g258 97 (by decide) (by decide), hIC, wr_n (by decide), wr_n (by decide)]) (by rw [g258 114 (by decide) (by decide), hIC, wr_n (by decide), wr_n (by decide)])
        · have hic : i < cntM F b w := by
            unfold cntM
            first
            | (rw [if_neg hl0]; exact (nI_ltI (by omega) (by omega)).mp c102)
            | (rw [if_pos hl0]; exact (nI_ltI (b := 1) (by omega) (by omega)).mp c102)
          have hmlc : (mvs F b w).length ≠ 0 → i < (mvs F b w).length := fun h9 => by
            unfold cntM at hic; rw [if_neg h9] at hic; exact hic
          refine g_aload_n C (pc := 105) dX12_findRows_105 2 rfl ?_
          refine g_aload_n C (pc := 106) dX12_findRows_106 2 rfl ?_
          refine g_getR C (pc := 107) fl_RX12_50 (by decide) (by first | assumption | rfl | omega) (by first | assumption | rfl | omega) (by first | assumption | rfl | omega) dX12_findRows_107 ?_
          refine g_iload C (pc := 110) dX12_findRows_110 0 rfl ?_
          refine g_iald C (pc := 112) (by first | assumption | rfl | omega) (by first | assumption | rfl | omega) (vp_in_nI (n := d) (by omega) (by decide)) dX12_findRows_112 ?_
          rw [hcd, b111]
          refine g_aload_n C (pc := 113) dX12_findRows_113 2 rfl ?_
          refine g_getR C (pc := 114) fl_RX12_44 (by decide) (by first | assumption | rfl | omega) (by first | assumption | rfl | omega) (by first | assumption | rfl | omega) dX12_findRows_114 ?_
          refine g_iload C (pc := 117) dX12_findRows_117 0 rfl ?_
          refine g_iald C (pc := 119) (by first | assumption | rfl | omega) (by first | assumption | rfl | omega) (vp_in_nI (n := d) (by omega) (by decide)) dX12_findRows_119 ?_
          rw [hcd, b109]
          refine g_if_ne C (pc := 120) 128 dX12_findRows_120 (by decide) (fun c120 => ?_) (fun c120 => ?_)
          · have hmx9 : I71 108 (64 * d + i) = oI ((mvs F b w)[i]?) := by
              have hk9 := List.getElem?_eq_getElem (hmlc hl0)
              rw [hk9]; exact fm71.2 i _ hk9
            refine g_aload_n C (pc := 128) dX12_findRows_128 2 rfl ?_
            refine g_getR C (pc := 129) fl_RX12_41 (by decide) (by first | assumption | rfl | omega) (by first | assumption | rfl | omega) (by first | assumption | rfl | omega) dX12_findRows_129 ?_
            refine g_bipush C (pc := 132) 64 dX12_findRows_132 (by decide) ?_
            refine g_iload C (pc := 134) dX12_findRows_134 0 rfl ?_
            refine g_imul C (pc := 136) dX12_findRows_136 ?_
            refine g_aload_n C (pc := 137) dX12_findRows_137 2 rfl ?_
            refine g_getR C (pc := 138) fl_RX12_53 (by decide) (by first | assumption | rfl | omega) (by first | assumption | rfl | omega) (by first | assumption | rfl | omega) dX12_findRows_138 ?_
            refine g_iload C (pc := 141) dX12_findRows_141 0 rfl ?_
            refine g_iald C (pc := 143) (by first | assumption | rfl | omega) (by first | assumption | rfl | omega) (vp_in_nI (n := d) (by omega) (by decide)) dX12_findRows_143 ?_
            rw [hcd, b112]
            refine g_iadd C (pc := 144) dX12_findRows_144 ?_
            rw [show (64 : Int32) = nI 64 from rfl, pk_mul, nI_add]
            refine g_iald C (pc := 145) (by first | assumption | rfl | omega) (by first | assumption | rfl | omega) (vp_in_nI (n := 64 * d + i) (by omega) (by decide)) dX12_findRows_145 ?_
            first
            | rw [nI_clamp (show 64 * d + i < 2 ^ 31 by omega)]
            | skip
            refine g_callVI C (pc := 146) mf_X12_goes lk_RX12_251 (c_X12_goesE n ρ I71 F b w ((mvs F b w)[i]?) _ _ hn9 hms (hqf.kp kp71) hrw f71 hbw hw (mvs_K hrw) hmx9 rfl) (by decide) (Nat.le_refl _) rfl (by first | assumption | rfl | omega) rfl (by first | assumption | rfl | omega) (Nat.le_of_ble_eq_true rfl) dX12_findRows_146 (fun v146 I146 h146 => ?_)
            obtain ⟨e146, f146, a146, g146⟩ := h146
            have k146 : Ky d J0 I146 := k71.trans (Ky.qb a146 g146)
            have kp146 := hkp0.trans k146.1
            have hbw2 : BW F (playB F b w ((mvs F b w)[i]?)) := (mvs_K hrw).bw hrw hbw
            have hl12 : L1 F (playB F b w ((mvs F b w)[i]?)) := L1_play hl1
            have hpw2 : PW F (playB F b w ((mvs F b w)[i]?)) := PW_play (mvs_K hrw) hrw hpw
            refine g_pop C (pc := 149) dX12_findRows_149 rfl ?_
            refine g_aload_n C (pc := 150) dX12_findRows_150 2 rfl ?_
            refine g_aload_n C (pc := 151) dX12_findRows_151 2 rfl ?_
            refine g_getI C (pc := 152) fl_RX12_325 (by decide) (by first | assumption | rfl | omega) (by first | assumption | rfl | omega) dX12_findRows_152 ?_
            refine g_if_ne C (pc := 155) 166 dX12_findRows_155 (by decide) (fun c155 => ?_) (fun c155 => ?_)
            · refine g_iconst C (pc := 166) 1 dX12_findRows_166 (by decide) ?_
              refine g_goto C (pc := 167) 171 dX12_findRows_167 (by decide) ?_
              refine g_putI C (pc := 171) fl_RX12_325 (by decide) fp_11_37 (Or.inl rfl) ⟨rfl, rfl⟩ (by first | assumption | rfl | omega) (by first | assumption | rfl | omega) hn9 dX12_findRows_171 ?_
              first
              | (obtain ⟨IB, hIB⟩ : ∃ IB, IB = wr I146 97 37 1 := ⟨_, rfl⟩
                 rw [← hIB])
              | (obtain ⟨IB, hIB⟩ : ∃ IB, IB = wr I146 97 37 0 := ⟨_, rfl⟩
                 rw [← hIB])
              have kB0 : Ky d I71 IB := (Ky.qb a146 g146).trans (by rw [hIB]; exact Ky.sc (by decide) (by decide) (by decide))
              have kB1 : Ky (d + 1) I71 IB := (Ky.qb a146 g146).trans (by rw [hIB]; exact Ky.sc (by decide) (by decide) (by decide))
              have kB : Ky d J0 IB := k71.trans kB0
              have kpB := hkp0.trans kB.1
              have fB : QB IB F (playB F b w ((mvs F b w)[i]?)) := f146.cong (fun _ _ => by rw [hIB, wr_n (by decide)]) (fun _ _ => by rw [hIB, wr_n (by decide)]) (by rw [hIB, wr_sn (by decide)]) hn6
              have lvB : LvR IB F b d w (i + 1) := ⟨sv71.ky kB1 hn6, fm71.ky kB1 hn6, (kB1.2.2.1 d (by omega)).2.1.trans b111, (kB1.2.2.1 d (by omega)).2.2.trans (b112.trans (nI_pred i).symm)⟩
              have ctB := ct71.cong (I1 := IB) (by rw [hIB, wr_sn (by decide)]; exact a146 34 (by decide)) (by rw [hIB, wr_sn (by decide)]; exact a146 35 (by decide)) (by rw [hIB, wr_n (by decide)]; exact g146 114 (by decide) (by decide) (by decide))
              have hB36 : IB 97 36 = nI wp := kB.2.2.2.2.2.trans h360
              have lbB : LB IB (P ++ [lblN F b w i]) := (hlb0.ky hPl kB).push hPl hn6 lvB.2.2.1 lvB.2.1.1 (by rw [lvB.2.2.2]; exact nI_pred i)
              have hPl2 : (P ++ [lblN F b w i]).length = d + 1 := by rw [List.length_append, hPl]; rfl
              refine g_iload C (pc := 174) dX12_findRows_174 0 rfl ?_
              refine g_iload_n C (pc := 176) dX12_findRows_176 3 rfl ?_
              refine g_iconst C (pc := 177) 1 dX12_findRows_177 (by decide) ?_
              refine g_isub C (pc := 178) dX12_findRows_178 ?_
              refine g_icmp_ne C (pc := 179) 191 dX12_findRows_179 (by decide) (fun c179 => ?_) (fun c179 => ?_)
              · have he1 : e ≠ 0 := fun h9 => c179 (by rw [hN1, show N - 1 = d by omega])
                obtain ⟨e1, rfl⟩ : ∃ e1, e = e1 + 1 := ⟨e - 1, by omega⟩
                refine g_aload_n C (pc := 191) dX12_findRows_191 2 rfl ?_
                refine g_callVI C (pc := 192) mf_X12_lost lk_RX12_221 (c_X12_lost n ρ IB F (playB F b w ((mvs F b w)[i]?)) hn9 hms (hqf.kp kpB) hrw fB hbw2 hl12) (by decide) (Nat.le_refl _) rfl (by first | assumption | rfl | omega) rfl (by first | assumption | rfl | omega) (Nat.le_of_ble_eq_true rfl) dX12_findRows_192 (fun v192 I192 h192 => ?_)
                obtain ⟨e192, rfl⟩ := h192
                refine g_bipush C (pc := 195) (-4) dX12_findRows_195 (by decide) ?_
                refine g_icmp_ne C (pc := 197) 52 dX12_findRows_197 (by decide) (fun c197 => ?_) (fun c197 => ?_)
                · have hlo : lostP F (playB F b w ((mvs F b w)[i]?)) ≠ none := fun h9 => c197 (by rw [e192, lostB_none.mpr h9]; rfl)
                  refine g_lv C [0, 1, 2, 3, 4] rfl ?_
                  refine ih w (i + 1) IB hw hic lvB kB ?_ (by omega)
                  rw [← fr_step, show fnd F g (e1 + 1) (playB F b w ((mvs F b w)[i]?)) = [] from by rw [fnd, if_neg hlo], List.map_nil, List.append_nil]; exact ctB
                · have hnl : lostB F (playB F b w ((mvs F b w)[i]?)) = none := (oI_none (lostB_lt2 hrw)).mp (e192.symm.trans c197)
                  have hno : lostP F (playB F b w ((mvs F b w)[i]?)) = none := lostB_none.mp hnl
                  refine g_iinc C (pc := 200) (1) dX12_findRows_200 0 rfl (by decide) (by decide) (fun v200 => [(4, .int v200), (3, .int oth), (0, .ref 97), (1, .int (nI N)), (2, .int z)]) (fun _ => rfl) (fun v200 ev200 => ?_)
                  replace ev200 : v200 = nI (d + 1) := by rw [ev200]; exact nI_1 d
                  subst ev200
                  refine g_aload_n C (pc := 203) dX12_findRows_203 2 rfl ?_
                  refine g_iload C (pc := 204) dX12_findRows_204 0 rfl ?_
                  refine g_iload_n C (pc := 206) dX12_findRows_206 4 rfl ?_
                  refine g_callVV C (pc := 207) mf_X12_enters lk_RX12_332 (c_X12_enters n ρ IB F (playB F b w ((mvs F b w)[i]?)) 0 (d + 1) z hn9 hms (hqf.kp kpB) hrw (hqe.kp kpB) fB hbw2 hl12 hpw2 (by decide) (by omega) (Or.inr ⟨hz, rfl⟩)) (by decide) (Nat.le_refl _) rfl (by first | assumption | rfl | omega) rfl (by first | assumption | rfl | omega) (Nat.le_of_ble_eq_true rfl) dX12_findRows_207 (fun I207 h207 => ?_)
                  obtain ⟨s207, f207, u207, t207, p207, q207, ⟨x207, y207, z207⟩, g207⟩ := h207
                  refine g_goto C (pc := 210) 52 dX12_findRows_210 (by decide) ?_
                  refine g_lv C [0, 1, 2, 3, 4] rfl ?_
                  have kE := Ky.en p207 q207 x207 y207 z207 g207
                  refine ihE e1 (by omega) (d + 1) (playB F b w ((mvs F b w)[i]?)) (P ++ [lblN F b w i]) _ I207 (by omega) hbw2 hl12 hpw2 hPl2 ⟨s207, f207, u207, t207.trans (by decide)⟩ (lbB.ky hPl2 kE) (ctB.cong (by rw [g207 97 (by decide)]) (by rw [g207 97 (by decide)]) (g207 114 (by decide))) (kpB.trans kE.1) (kE.2.2.2.2.2.trans hB36) (fr_len hn6 hw hic hAb) ?_
                  intro J1 hk1 hc1
                  rw [nI_pred d]
                  have kJ := kE.trans hk1
                  refine ih w (i + 1) J1 hw hic (lvB.ky kJ hn6) (kB.trans kJ.down) ?_ (by omega)
                  rw [← fr_step, fnd, if_pos hno]; exact hc1
              · have he0 : e = 0 := by
                  rw [hN1] at c179
                  have := (nI_eq (by omega) (by omega)).mp c179
                  omega
                subst he0
                have hPl3 : (P ++ [lblN F b w i]).length = N := by omega
                refine g_aload_n C (pc := 182) dX12_findRows_182 2 rfl ?_
                refine g_iload_n C (pc := 183) dX12_findRows_183 3 rfl ?_
                refine g_iload_n C (pc := 184) dX12_findRows_184 4 rfl ?_
                refine g_callVV C (pc := 185) mf_X12_leaf lk_RX12_329 (hLf IB (playB F b w ((mvs F b w)[i]?)) N _ (fun q => ((P ++ [lblN F b w i])[q]?).getD 0) (nI N) kpB fB hbw2 rfl hN3 ctB.1 (by have h9 := fr_len (g := g) (P := P) hn6 hw hic hAb; rw [Nat.pow_zero] at h9; omega) hB36 (fun q hq => by have h9 := List.getElem?_eq_getElem (l := P ++ [lblN F b w i]) (i := q) (by omega); rw [lbB q _ h9, h9]; rfl)) (by decide) (Nat.le_refl _) rfl (by first | assumption | rfl | omega) rfl (by first | assumption | rfl | omega) (Nat.le_of_ble_eq_true rfl) dX12_findRows_185 (fun I185 h185 => ?_)
                obtain h185 := h185
                refine g_goto C (pc := 188) 52 dX12_findRows_188 (by decide) ?_
                refine g_lv C [0, 1, 2, 3, 4] rfl ?_
                obtain ⟨ct9, ky9⟩ := ctB.leaf hPl3 (fun q l hq => by show ((P ++ [lblN F b w i])[q]?).getD 0 = l; rw [hq]; rfl) h185
                rw [← fr_leaf (F := F), fr_step] at ct9
                exact ih w (i + 1) I185 hw hic (lvB.ky (ky9 (d + 1)) hn6) (kB.trans (ky9 d)) ct9 (by omega)
            · refine g_aload_n C (pc := 158) dX12_findRows_158 2 rfl ?_
              refine g_callVI C (pc := 159) mf_X12_lost lk_RX12_221 (c_X12_lost n ρ I146 F (playB F b w ((mvs F b w)[i]?)) hn9 hms (hqf.kp kp146) hrw f146 hbw2 hl12) (by decide) (Nat.le_refl _) rfl (by first | assumption | rfl | omega) rfl (by first | assumption | rfl | omega) (Nat.le_of_ble_eq_true rfl) dX12_findRows_159 (fun v159 I159 h159 => ?_)
              obtain ⟨e159, rfl⟩ := h159
              refine g_iload_n C (pc := 162) dX12_findRows_162 1 rfl ?_
              refine g_icmp_ne C (pc := 163) 170 dX12_findRows_163 (by decide) (fun c163 => ?_) (fun c163 => ?_)
              · skip
                refine g_iconst C (pc := 170) 0 dX12_findRows_170 (by decide) ?_
                refine g_putI C (pc := 171) fl_RX12_325 (by decide) fp_11_37 (Or.inl rfl) ⟨rfl, rfl⟩ (by first | assumption | rfl | omega) (by first | assumption | rfl | omega) hn9 dX12_findRows_171 ?_
                first
                | (obtain ⟨IB, hIB⟩ : ∃ IB, IB = wr I146 97 37 1 := ⟨_, rfl⟩
                   rw [← hIB])
                | (obtain ⟨IB, hIB⟩ : ∃ IB, IB = wr I146 97 37 0 := ⟨_, rfl⟩
                   rw [← hIB])
                have kB0 : Ky d I71 IB := (Ky.qb a146 g146).trans (by rw [hIB]; exact Ky.sc (by decide) (by decide) (by decide))
                have kB1 : Ky (d + 1) I71 IB := (Ky.qb a146 g146).trans (by rw [hIB]; exact Ky.sc (by decide) (by decide) (by decide))
                have kB : Ky d J0 IB := k71.trans kB0
                have kpB := hkp0.trans kB.1
                have fB : QB IB F (playB F b w ((mvs F b w)[i]?)) := f146.cong (fun _ _ => by rw [hIB, wr_n (by decide)]) (fun _ _ => by rw [hIB, wr_n (by decide)]) (by rw [hIB, wr_sn (by decide)]) hn6
                have lvB : LvR IB F b d w (i + 1) := ⟨sv71.ky kB1 hn6, fm71.ky kB1 hn6, (kB1.2.2.1 d (by omega)).2.1.trans b111, (kB1.2.2.1 d (by omega)).2.2.trans (b112.trans (nI_pred i).symm)⟩
                have ctB := ct71.cong (I1 := IB) (by rw [hIB, wr_sn (by decide)]; exact a146 34 (by decide)) (by rw [hIB, wr_sn (by decide)]; exact a146 35 (by decide)) (by rw [hIB, wr_n (by decide)]; exact g146 114 (by decide) (by decide) (by decide))
                have hB36 : IB 97 36 = nI wp := kB.2.2.2.2.2.trans h360
                have lbB : LB IB (P ++ [lblN F b w i]) := (hlb0.ky hPl kB).push hPl hn6 lvB.2.2.1 lvB.2.1.1 (by rw [lvB.2.2.2]; exact nI_pred i)
                have hPl2 : (P ++ [lblN F b w i]).length = d + 1 := by rw [List.length_append, hPl]; rfl
                refine g_iload C (pc := 174) dX12_findRows_174 0 rfl ?_
                refine g_iload_n C (pc := 176) dX12_findRows_176 3 rfl ?_
                refine g_iconst C (pc := 177) 1 dX12_findRows_177 (by decide) ?_
                refine g_isub C (pc := 178) dX12_findRows_178 ?_
                refine g_icmp_ne C (pc := 179) 191 dX12_findRows_179 (by decide) (fun c179 => ?_) (fun c179 => ?_)
                · have he1 : e ≠ 0 := fun h9 => c179 (by rw [hN1, show N - 1 = d by omega])
                  obtain ⟨e1, rfl⟩ : ∃ e1, e = e1 + 1 := ⟨e - 1, by omega⟩
                  refine g_aload_n C (pc := 191) dX12_findRows_191 2 rfl ?_
                  refine g_callVI C (pc := 192) mf_X12_lost lk_RX12_221 (c_X12_lost n ρ IB F (playB F b w ((mvs F b w)[i]?)) hn9 hms (hqf.kp kpB) hrw fB hbw2 hl12) (by decide) (Nat.le_refl _) rfl (by first | assumption | rfl | omega) rfl (by first | assumption | rfl | omega) (Nat.le_of_ble_eq_true rfl) dX12_findRows_192 (fun v192 I192 h192 => ?_)
                  obtain ⟨e192, rfl⟩ := h192
                  refine g_bipush C (pc := 195) (-4) dX12_findRows_195 (by decide) ?_
                  refine g_icmp_ne C (pc := 197) 52 dX12_findRows_197 (by decide) (fun c197 => ?_) (fun c197 => ?_)
                  · have hlo : lostP F (playB F b w ((mvs F b w)[i]?)) ≠ none := fun h9 => c197 (by rw [e192, lostB_none.mpr h9]; rfl)
                    refine g_lv C [0, 1, 2, 3, 4] rfl ?_
                    refine ih w (i + 1) IB hw hic lvB kB ?_ (by omega)
                    rw [← fr_step, show fnd F g (e1 + 1) (playB F b w ((mvs F b w)[i]?)) = [] from by rw [fnd, if_neg hlo], List.map_nil, List.append_nil]; exact ctB
                  · have hnl : lostB F (playB F b w ((mvs F b w)[i]?)) = none := (oI_none (lostB_lt2 hrw)).mp (e192.symm.trans c197)
                    have hno : lostP F (playB F b w ((mvs F b w)[i]?)) = none := lostB_none.mp hnl
                    refine g_iinc C (pc := 200) (1) dX12_findRows_200 0 rfl (by decide) (by decide) (fun v200 => [(4, .int v200), (3, .int oth), (0, .ref 97), (1, .int (nI N)), (2, .int z)]) (fun _ => rfl) (fun v200 ev200 => ?_)
                    replace ev200 : v200 = nI (d + 1) := by rw [ev200]; exact nI_1 d
                    subst ev200
                    refine g_aload_n C (pc := 203) dX12_findRows_203 2 rfl ?_
                    refine g_iload C (pc := 204) dX12_findRows_204 0 rfl ?_
                    refine g_iload_n C (pc := 206) dX12_findRows_206 4 rfl ?_
                    refine g_callVV C (pc := 207) mf_X12_enters lk_RX12_332 (c_X12_enters n ρ IB F (playB F b w ((mvs F b w)[i]?)) 0 (d + 1) z hn9 hms (hqf.kp kpB) hrw (hqe.kp kpB) fB hbw2 hl12 hpw2 (by decide) (by omega) (Or.inr ⟨hz, rfl⟩)) (by decide) (Nat.le_refl _) rfl (by first | assumption | rfl | omega) rfl (by first | assumption | rfl | omega) (Nat.le_of_ble_eq_true rfl) dX12_findRows_207 (fun I207 h207 => ?_)
                    obtain ⟨s207, f207, u207, t207, p207, q207, ⟨x207, y207, z207⟩, g207⟩ := h207
                    refine g_goto C (pc := 210) 52 dX12_findRows_210 (by decide) ?_
                    refine g_lv C [0, 1, 2, 3, 4] rfl ?_
                    have kE := Ky.en p207 q207 x207 y207 z207 g207
                    refine ihE e1 (by omega) (d + 1) (playB F b w ((mvs F b w)[i]?)) (P ++ [lblN F b w i]) _ I207 (by omega) hbw2 hl12 hpw2 hPl2 ⟨s207, f207, u207, t207.trans (by decide)⟩ (lbB.ky hPl2 kE) (ctB.cong (by rw [g207 97 (by decide)]) (by rw [g207 97 (by decide)]) (g207 114 (by decide))) (kpB.trans kE.1) (kE.2.2.2.2.2.trans hB36) (fr_len hn6 hw hic hAb) ?_
                    intro J1 hk1 hc1
                    rw [nI_pred d]
                    have kJ := kE.trans hk1
                    refine ih w (i + 1) J1 hw hic (lvB.ky kJ hn6) (kB.trans kJ.down) ?_ (by omega)
                    rw [← fr_step, fnd, if_pos hno]; exact hc1
                · have he0 : e = 0 := by
                    rw [hN1] at c179
                    have := (nI_eq (by omega) (by omega)).mp c179
                    omega
                  subst he0
                  have hPl3 : (P ++ [lblN F b w i]).length = N := by omega
                  refine g_aload_n C (pc := 182) dX12_findRows_182 2 rfl ?_
                  refine g_iload_n C (pc := 183) dX12_findRows_183 3 rfl ?_
                  refine g_iload_n C (pc := 184) dX12_findRows_184 4 rfl ?_
                  refine g_callVV C (pc := 185) mf_X12_leaf lk_RX12_329 (hLf IB (playB F b w ((mvs F b w)[i]?)) N _ (fun q => ((P ++ [lblN F b w i])[q]?).getD 0) (nI N) kpB fB hbw2 rfl hN3 ctB.1 (by have h9 := fr_len (g := g) (P := P) hn6 hw hic hAb; rw [Nat.pow_zero] at h9; omega) hB36 (fun q hq => by have h9 := List.getElem?_eq_getElem (l := P ++ [lblN F b w i]) (i := q) (by omega); rw [lbB q _ h9, h9]; rfl)) (by decide) (Nat.le_refl _) rfl (by first | assumption | rfl | omega) rfl (by first | assumption | rfl | omega) (Nat.le_of_ble_eq_true rfl) dX12_findRows_185 (fun I185 h185 => ?_)
                  obtain h185 := h185
                  refine g_goto C (pc := 188) 52 dX12_findRows_188 (by decide) ?_
                  refine g_lv C [0, 1, 2, 3, 4] rfl ?_
                  obtain ⟨ct9, ky9⟩ := ctB.leaf hPl3 (fun q l hq => by show ((P ++ [lblN F b w i])[q]?).getD 0 = l; rw [hq]; rfl) h185
                  rw [← fr_leaf (F := F), fr_step] at ct9
                  exact ih w (i + 1) I185 hw hic (lvB.ky (ky9 (d + 1)) hn6) (kB.trans (ky9 d)) ct9 (by omega)
              · skip
                refine g_iconst C (pc := 166) 1 dX12_findRows_166 (by decide) ?_
                refine g_goto C (pc := 167) 171 dX12_findRows_167 (by decide) ?_
                refine g_putI C (pc := 171) fl_RX12_325 (by decide) fp_11_37 (Or.inl rfl) ⟨rfl, rfl⟩ (by first | assumption | rfl | omega) (by first | assumption | rfl | omega) hn9 dX12_findRows_171 ?_
                first
                | (obtain ⟨IB, hIB⟩ : ∃ IB, IB = wr I146 97 37 1 := ⟨_, rfl⟩
                   rw [← hIB])
                | (obtain ⟨IB, hIB⟩ : ∃ IB, IB = wr I146 97 37 0 := ⟨_, rfl⟩
                   rw [← hIB])
                have kB0 : Ky d I71 IB := (Ky.qb a146 g146).trans (by rw [hIB]; exact Ky.sc (by decide) (by decide) (by decide))
                have kB1 : Ky (d + 1) I71 IB := (Ky.qb a146 g146).trans (by rw [hIB]; exact Ky.sc (by decide) (by decide) (by decide))
                have kB : Ky d J0 IB := k71.trans kB0
                have kpB := hkp0.trans kB.1
                have fB : QB IB F (playB F b w ((mvs F b w)[i]?)) := f146.cong (fun _ _ => by rw [hIB, wr_n (by decide)]) (fun _ _ => by rw [hIB, wr_n (by decide)]) (by rw [hIB, wr_sn (by decide)]) hn6
                have lvB : LvR IB F b d w (i + 1) := ⟨sv71.ky kB1 hn6, fm71.ky kB1 hn6, (kB1.2.2.1 d (by omega)).2.1.trans b111, (kB1.2.2.1 d (by omega)).2.2.trans (b112.trans (nI_pred i).symm)⟩
                have ctB := ct71.cong (I1 := IB) (by rw [hIB, wr_sn (by decide)]; exact a146 34 (by decide)) (by rw [hIB, wr_sn (by decide)]; exact a146 35 (by decide)) (by rw [hIB, wr_n (by decide)]; exact g146 114 (by decide) (by decide) (by decide))
                have hB36 : IB 97 36 = nI wp := kB.2.2.2.2.2.trans h360
                have lbB : LB IB (P ++ [lblN F b w i]) := (hlb0.ky hPl kB).push hPl hn6 lvB.2.2.1 lvB.2.1.1 (by rw [lvB.2.2.2]; exact nI_pred i)
                have hPl2 : (P ++ [lblN F b w i]).length = d + 1 := by rw [List.length_append, hPl]; rfl
                refine g_iload C (pc := 174) dX12_findRows_174 0 rfl ?_
                refine g_iload_n C (pc := 176) dX12_findRows_176 3 rfl ?_
                refine g_iconst C (pc := 177) 1 dX12_findRows_177 (by decide) ?_
                refine g_isub C (pc := 178) dX12_findRows_178 ?_
                refine g_icmp_ne C (pc := 179) 191 dX12_findRows_179 (by decide) (fun c179 => ?_) (fun c179 => ?_)
                · have he1 : e ≠ 0 := fun h9 => c179 (by rw [hN1, show N - 1 = d by omega])
                  obtain ⟨e1, rfl⟩ : ∃ e1, e = e1 + 1 := ⟨e - 1, by omega⟩
                  refine g_aload_n C (pc := 191) dX12_findRows_191 2 rfl ?_
                  refine g_callVI C (pc := 192) mf_X12_lost lk_RX12_221 (c_X12_lost n ρ IB F (playB F b w ((mvs F b w)[i]?)) hn9 hms (hqf.kp kpB) hrw fB hbw2 hl12) (by decide) (Nat.le_refl _) rfl (by first | assumption | rfl | omega) rfl (by first | assumption | rfl | omega) (Nat.le_of_ble_eq_true rfl) dX12_findRows_192 (fun v192 I192 h192 => ?_)
                  obtain ⟨e192, rfl⟩ := h192
                  refine g_bipush C (pc := 195) (-4) dX12_findRows_195 (by decide) ?_
                  refine g_icmp_ne C (pc := 197) 52 dX12_findRows_197 (by decide) (fun c197 => ?_) (fun c197 => ?_)
                  · have hlo : lostP F (playB F b w ((mvs F b w)[i]?)) ≠ none := fun h9 => c197 (by rw [e192, lostB_none.mpr h9]; rfl)
                    refine g_lv C [0, 1, 2, 3, 4] rfl ?_
                    refine ih w (i + 1) IB hw hic lvB kB ?_ (by omega)
                    rw [← fr_step, show fnd F g (e1 + 1) (playB F b w ((mvs F b w)[i]?)) = [] from by rw [fnd, if_neg hlo], List.map_nil, List.append_nil]; exact ctB
                  · have hnl : lostB F (playB F b w ((mvs F b w)[i]?)) = none := (oI_none (lostB_lt2 hrw)).mp (e192.symm.trans c197)
                    have hno : lostP F (playB F b w ((mvs F b w)[i]?)) = none := lostB_none.mp hnl
                    refine g_iinc C (pc := 200) (1) dX12_findRows_200 0 rfl (by decide) (by decide) (fun v200 => [(4, .int v200), (3, .int oth), (0, .ref 97), (1, .int (nI N)), (2, .int z)]) (fun _ => rfl) (fun v200 ev200 => ?_)
                    replace ev200 : v200 = nI (d + 1) := by rw [ev200]; exact nI_1 d
                    subst ev200
                    refine g_aload_n C (pc := 203) dX12_findRows_203 2 rfl ?_
                    refine g_iload C (pc := 204) dX12_findRows_204 0 rfl ?_
                    refine g_iload_n C (pc := 206) dX12_findRows_206 4 rfl ?_
                    refine g_callVV C (pc := 207) mf_X12_enters lk_RX12_332 (c_X12_enters n ρ IB F (playB F b w ((mvs F b w)[i]?)) 0 (d + 1) z hn9 hms (hqf.kp kpB) hrw (hqe.kp kpB) fB hbw2 hl12 hpw2 (by decide) (by omega) (Or.inr ⟨hz, rfl⟩)) (by decide) (Nat.le_refl _) rfl (by first | assumption | rfl | omega) rfl (by first | assumption | rfl | omega) (Nat.le_of_ble_eq_true rfl) dX12_findRows_207 (fun I207 h207 => ?_)
                    obtain ⟨s207, f207, u207, t207, p207, q207, ⟨x207, y207, z207⟩, g207⟩ := h207
                    refine g_goto C (pc := 210) 52 dX12_findRows_210 (by decide) ?_
                    refine g_lv C [0, 1, 2, 3, 4] rfl ?_
                    have kE := Ky.en p207 q207 x207 y207 z207 g207
                    refine ihE e1 (by omega) (d + 1) (playB F b w ((mvs F b w)[i]?)) (P ++ [lblN F b w i]) _ I207 (by omega) hbw2 hl12 hpw2 hPl2 ⟨s207, f207, u207, t207.trans (by decide)⟩ (lbB.ky hPl2 kE) (ctB.cong (by rw [g207 97 (by decide)]) (by rw [g207 97 (by decide)]) (g207 114 (by decide))) (kpB.trans kE.1) (kE.2.2.2.2.2.trans hB36) (fr_len hn6 hw hic hAb) ?_
                    intro J1 hk1 hc1
                    rw [nI_pred d]
                    have kJ := kE.trans hk1
                    refine ih w (i + 1) J1 hw hic (lvB.ky kJ hn6) (kB.trans kJ.down) ?_ (by omega)
                    rw [← fr_step, fnd, if_pos hno]; exact hc1
                · have he0 : e = 0 := by
                    rw [hN1] at c179
                    have := (nI_eq (by omega) (by omega)).mp c179
                    omega
                  subst he0
                  have hPl3 : (P ++ [lblN F b w i]).length = N := by omega
                  refine g_aload_n C (pc := 182) dX12_findRows_182 2 rfl ?_
                  refine g_iload_n C (pc := 183) dX12_findRows_183 3 rfl ?_
                  refine g_iload_n C (pc := 184) dX12_findRows_184 4 rfl ?_
                  refine g_callVV C (pc := 185) mf_X12_leaf lk_RX12_329 (hLf IB (playB F b w ((mvs F b w)[i]?)) N _ (fun q => ((P ++ [lblN F b w i])[q]?).getD 0) (nI N) kpB fB hbw2 rfl hN3 ctB.1 (by have h9 := fr_len (g := g) (P := P) hn6 hw hic hAb; rw [Nat.pow_zero] at h9; omega) hB36 (fun q hq => by have h9 := List.getElem?_eq_getElem (l := P ++ [lblN F b w i]) (i := q) (by omega); rw [lbB q _ h9, h9]; rfl)) (by decide) (Nat.le_refl _) rfl (by first | assumption | rfl | omega) rfl (by first | assumption | rfl | omega) (Nat.le_of_ble_eq_true rfl) dX12_findRows_185 (fun I185 h185 => ?_)
                  obtain h185 := h185
                  refine g_goto C (pc := 188) 52 dX12_findRows_188 (by decide) ?_
                  refine g_lv C [0, 1, 2, 3, 4] rfl ?_
                  obtain ⟨ct9, ky9⟩ := ctB.leaf hPl3 (fun q l hq => by show ((P ++ [lblN F b w i])[q]?).getD 0 = l; rw [hq]; rfl) h185
                  rw [← fr_leaf (F := F), fr_step] at ct9
                  exact ih w (i + 1) I185 hw hic (lvB.ky (ky9 (d + 1)) hn6) (kB.trans (ky9 d)) ct9 (by omega)
          · exact absurd c120 c88
      · have hl0 : (mvs F b w).length = 0 := (nI_eq (b := 0) (by omega) (by decide)).mp c88
        refine g_iconst C (pc := 91) 1 dX12_findRows_91 (by decide) ?_
        refine g_goto C (pc := 92) 102 dX12_findRows_92 (by decide) ?_
        first
        | rw [hcd, b109]
        | skip
        refine g_icmp_ge C (pc := 102) 213 dX12_findRows_102 (by decide) (fun c102 => ?_) (fun c102 => ?_)
        · have hic : i = cntM F b w := by
            have h9 : cntM F b w ≤ i := by
              unfold cntM
              first
              | (rw [if_neg hl0]; exact (nI_leI (by omega) (by omega)).mp c102)
              | (rw [if_pos hl0]; exact (nI_leI (a := 1) (by omega) (by omega)).mp c102)
            omega
          refine g_iload_n C (pc := 213) dX12_findRows_213 4 rfl ?_
          refine g_iconst C (pc := 214) 2 dX12_findRows_214 (by decide) ?_
          refine g_icmp_eq C (pc := 215) 264 dX12_findRows_215 (by decide) (fun c215 => ?_) (fun c215 => ?_)
          · exact absurd c215 hz
          · refine g_aload_n C (pc := 218) dX12_findRows_218 2 rfl ?_
            refine g_getR C (pc := 219) fl_RX12_50 (by decide) (by first | assumption | rfl | omega) (by first | assumption | rfl | omega) (by first | assumption | rfl | omega) dX12_findRows_219 ?_
            refine g_iload C (pc := 222) dX12_findRows_222 0 rfl ?_
            refine g_iald C (pc := 224) (by first | assumption | rfl | omega) (by first | assumption | rfl | omega) (vp_in_nI (n := d) (by omega) (by decide)) dX12_findRows_224 ?_
            refine g_iconst C (pc := 225) 4 dX12_findRows_225 (by decide) ?_
            rw [hcd, b111]
            refine g_icmp_ge C (pc := 226) 264 dX12_findRows_226 (by decide) (fun c226 => ?_) (fun c226 => ?_)
            · have hw4 : w = 4 := by
                have := (nI_leI (a := 4) (by decide) (by omega)).mp c226
                omega
              refine g_iinc C (pc := 264) (-1) dX12_findRows_264 0 rfl (by decide) (by decide) (fun v264 => [(4, .int v264), (3, .int oth), (0, .ref 97), (1, .int (nI N)), (2, .int z)]) (fun _ => rfl) (fun v264 ev264 => ?_)
              refine g_goto C (pc := 267) 52 dX12_findRows_267 (by decide) ?_
              refine g_lv C [0, 1, 2, 3, 4] rfl ?_
              replace ev264 : v264 = nI d - 1 := by rw [ev264]; exact (Int32.sub_eq_add_neg _ _).symm
              subst ev264
              refine K I71 k71 ?_
              rw [hic] at ct71
              subst hw4
              exact ct71
            · have hw4 : w < 4 := (nI_ltI (b := 4) (by omega) (by decide)).mp c226
              refine g_aload_n C (pc := 229) dX12_findRows_229 2 rfl ?_
              refine g_getR C (pc := 230) fl_RX12_50 (by decide) (by first | assumption | rfl | omega) (by first | assumption | rfl | omega) (by first | assumption | rfl | omega) dX12_findRows_230 ?_
              refine g_iload C (pc := 233) dX12_findRows_233 0 rfl ?_
              refine g_dup2 C (pc := 235) dX12_findRows_235 rfl rfl ?_
              refine g_iald C (pc := 236) (by first | assumption | rfl | omega) (by first | assumption | rfl | omega) (vp_in_nI (n := d) (by omega) (by decide)) dX12_findRows_236 ?_
              refine g_iconst C (pc := 237) 1 dX12_findRows_237 (by decide) ?_
              refine g_iadd C (pc := 238) dX12_findRows_238 ?_
              refine g_iast C (pc := 239) (by first | assumption | rfl | omega) (by first | assumption | rfl | omega) hn9 (vp_in_nI (n := d) (by omega) (by decide)) dX12_findRows_239 ?_
              rw [hcd, b111, nI_1]
              refine g_aload_n C (pc := 240) dX12_findRows_240 2 rfl ?_
              refine g_getR C (pc := 241) fl_RX12_53 (by decide) (by first | assumption | rfl | omega) (by first | assumption | rfl | omega) (by first | assumption | rfl | omega) dX12_findRows_241 ?_
              refine g_iload C (pc := 244) dX12_findRows_244 0 rfl ?_
              refine g_iconst C (pc := 246) (-1) dX12_findRows_246 (by decide) ?_
              refine g_iast C (pc := 247) (by first | assumption | rfl | omega) (by first | assumption | rfl | omega) hn9 (vp_in_nI (n := d) (by omega) (by decide)) dX12_findRows_247 ?_
              rw [hcd]
              obtain ⟨IC, hIC⟩ : ∃ IC, IC = wr (wr I71 111 d (nI (w + 1))) 112 d (-1) := ⟨_, rfl⟩
              rw [← hIC]
              have kC0 : ∀ d9, d9 ≤ d → Ky d9 I71 IC := fun d9 h9 => by
                have h8 : Ky d I71 IC := by rw [hIC]; exact Ky.w1.trans Ky.w2
                exact ⟨h8.1, fun z hz => h8.2.1 z (by omega), fun z hz => h8.2.2.1 z (by omega), fun z hz => h8.2.2.2.1 z (by omega), h8.2.2.2.2⟩
              have kC := k71.trans (kC0 d (Nat.le_refl d))
              have kpC := hkp0.trans kC.1
              have qbC : QB IC F b := f71.cong (fun _ _ => by rw [hIC, wr_n (by decide), wr_n (by decide)]) (fun _ _ => by rw [hIC, wr_n (by decide), wr_n (by decide)]) (by rw [hIC, wr_n (by decide), wr_n (by decide)]) hn6
              have c111 : IC 111 d = nI (w + 1) := by rw [hIC, wr_n (by decide), wr_ss]
              have c112 : IC 112 d = nI 0 - 1 := by rw [hIC, wr_ss]; decide
              have svC : SvB IC F d b := sv71.cong (fun k _ _ => by rw [hIC, wr_n (by decide), wr_n (by decide)]) hn6
              refine g_aload_n C (pc := 248) dX12_findRows_248 2 rfl ?_
              refine g_aload_n C (pc := 249) dX12_findRows_249 2 rfl ?_
              refine g_getR C (pc := 250) fl_RX12_50 (by decide) (by first | assumption | rfl | omega) (by first | assumption | rfl | omega) (by first | assumption | rfl | omega) dX12_findRows_250 ?_
              refine g_iload C (pc := 253) dX12_findRows_253 0 rfl ?_
              refine g_iald C (pc := 255) (by first | assumption | rfl | omega) (by first | assumption | rfl | omega) (vp_in_nI (n := d) (by omega) (by decide)) dX12_findRows_255 ?_
              rw [hcd, c111]
              refine g_iload C (pc := 256) dX12_findRows_256 0 rfl ?_
              refine g_callVV C (pc := 258) mf_X12_findMoves lk_RX12_247 (c_X12_findMovesD n ρ IC F b (w + 1) d _ _ hn9 hms (hqf.kp kpC) hrw (hqe.kp kpC) qbC hbw hl1 hpw (by omega) (by omega) rfl rfl) (by decide) (Nat.le_refl _) rfl (by first | assumption | rfl | omega) rfl (by first | assumption | rfl | omega) (Nat.le_of_ble_eq_true rfl) dX12_findRows_258 (fun I258 h258 => ?_)
              obtain ⟨f258, a258, b258, g258⟩ := h258
              refine g_goto C (pc := 261) 52 dX12_findRows_261 (by decide) ?_
              refine g_lv C [0, 1, 2, 3, 4] rfl ?_
              have kF := Ky.fm a258 b258 g258
              refine ih (w + 1) 0 I258 (by omega) (Nat.zero_le _) ⟨svC.cong (fun k _ _ => by rw [g258 110 (by decide) (by decide)]) hn6, f258, by rw [g258 111 (by decide) (by decide)]; exact c111, by rw [g258 112 (by decide) (by decide)]; exact c112⟩ (kC.trans kF) ?_ (by omega)
              rw [← fr_wind, ← hic]
              exact ct71.cong (by rw [g258 97 (by decide) (by decide), hIC, wr_n (by decide), wr_n (by decide)]) (by rw [g258 97 (by decide) (by decide), hIC, wr_n (by decide), wr_n (by decide)]) (by rw [g258 114 (by decide) (by decide), hIC, wr_n (by decide), wr_n (by decide)])
        · have hic : i < cntM F b w := by
            unfold cntM
            first
            | (rw [if_neg hl0]; exact (nI_ltI (by omega) (by omega)).mp c102)
            | (rw [if_pos hl0]; exact (nI_ltI (b := 1) (by omega) (by omega)).mp c102)
          have hmlc : (mvs F b w).length ≠ 0 → i < (mvs F b w).length := fun h9 => by
            unfold cntM at hic; rw [if_neg h9] at hic; exact hic
          refine g_aload_n C (pc := 105) dX12_findRows_105 2 rfl ?_
          refine g_aload_n C (pc := 106) dX12_findRows_106 2 rfl ?_
          refine g_getR C (pc := 107) fl_RX12_50 (by decide) (by first | assumption | rfl | omega) (by first | assumption | rfl | omega) (by first | assumption | rfl | omega) dX12_findRows_107 ?_
          refine g_iload C (pc := 110) dX12_findRows_110 0 rfl ?_
          refine g_iald C (pc := 112) (by first | assumption | rfl | omega) (by first | assumption | rfl | omega) (vp_in_nI (n := d) (by omega) (by decide)) dX12_findRows_112 ?_
          rw [hcd, b111]
          refine g_aload_n C (pc := 113) dX12_findRows_113 2 rfl ?_
          refine g_getR C (pc := 114) fl_RX12_44 (by decide) (by first | assumption | rfl | omega) (by first | assumption | rfl | omega) (by first | assumption | rfl | omega) dX12_findRows_114 ?_
          refine g_iload C (pc := 117) dX12_findRows_117 0 rfl ?_
          refine g_iald C (pc := 119) (by first | assumption | rfl | omega) (by first | assumption | rfl | omega) (vp_in_nI (n := d) (by omega) (by decide)) dX12_findRows_119 ?_
          rw [hcd, b109]
          refine g_if_ne C (pc := 120) 128 dX12_findRows_120 (by decide) (fun c120 => ?_) (fun c120 => ?_)
          · exact absurd c88 c120
          · have hmx9 : (-4 : Int32) = oI ((mvs F b w)[i]?) := by rw [List.getElem?_eq_none (by omega)]; rfl
            refine g_bipush C (pc := 123) (-4) dX12_findRows_123 (by decide) ?_
            refine g_goto C (pc := 125) 146 dX12_findRows_125 (by decide) ?_
            first
            | rw [nI_clamp (show 64 * d + i < 2 ^ 31 by omega)]
            | skip
            refine g_callVI C (pc := 146) mf_X12_goes lk_RX12_251 (c_X12_goesE n ρ I71 F b w ((mvs F b w)[i]?) _ _ hn9 hms (hqf.kp kp71) hrw f71 hbw hw (mvs_K hrw) hmx9 rfl) (by decide) (Nat.le_refl _) rfl (by first | assumption | rfl | omega) rfl (by first | assumption | rfl | omega) (Nat.le_of_ble_eq_true rfl) dX12_findRows_146 (fun v146 I146 h146 => ?_)
            obtain ⟨e146, f146, a146, g146⟩ := h146
            have k146 : Ky d J0 I146 := k71.trans (Ky.qb a146 g146)
            have kp146 := hkp0.trans k146.1
            have hbw2 : BW F (playB F b w ((mvs F b w)[i]?)) := (mvs_K hrw).bw hrw hbw
            have hl12 : L1 F (playB F b w ((mvs F b w)[i]?)) := L1_play hl1
            have hpw2 : PW F (playB F b w ((mvs F b w)[i]?)) := PW_play (mvs_K hrw) hrw hpw
            refine g_pop C (pc := 149) dX12_findRows_149 rfl ?_
            refine g_aload_n C (pc := 150) dX12_findRows_150 2 rfl ?_
            refine g_aload_n C (pc := 151) dX12_findRows_151 2 rfl ?_
            refine g_getI C (pc := 152) fl_RX12_325 (by decide) (by first | assumption | rfl | omega) (by first | assumption | rfl | omega) dX12_findRows_152 ?_
            refine g_if_ne C (pc := 155) 166 dX12_findRows_155 (by decide) (fun c155 => ?_) (fun c155 => ?_)
            · refine g_iconst C (pc := 166) 1 dX12_findRows_166 (by decide) ?_
              refine g_goto C (pc := 167) 171 dX12_findRows_167 (by decide) ?_
              refine g_putI C (pc := 171) fl_RX12_325 (by decide) fp_11_37 (Or.inl rfl) ⟨rfl, rfl⟩ (by first | assumption | rfl | omega) (by first | assumption | rfl | omega) hn9 dX12_findRows_171 ?_
              first
              | (obtain ⟨IB, hIB⟩ : ∃ IB, IB = wr I146 97 37 1 := ⟨_, rfl⟩
                 rw [← hIB])
              | (obtain ⟨IB, hIB⟩ : ∃ IB, IB = wr I146 97 37 0 := ⟨_, rfl⟩
                 rw [← hIB])
              have kB0 : Ky d I71 IB := (Ky.qb a146 g146).trans (by rw [hIB]; exact Ky.sc (by decide) (by decide) (by decide))
              have kB1 : Ky (d + 1) I71 IB := (Ky.qb a146 g146).trans (by rw [hIB]; exact Ky.sc (by decide) (by decide) (by decide))
              have kB : Ky d J0 IB := k71.trans kB0
              have kpB := hkp0.trans kB.1
              have fB : QB IB F (playB F b w ((mvs F b w)[i]?)) := f146.cong (fun _ _ => by rw [hIB, wr_n (by decide)]) (fun _ _ => by rw [hIB, wr_n (by decide)]) (by rw [hIB, wr_sn (by decide)]) hn6
              have lvB : LvR IB F b d w (i + 1) := ⟨sv71.ky kB1 hn6, fm71.ky kB1 hn6, (kB1.2.2.1 d (by omega)).2.1.trans b111, (kB1.2.2.1 d (by omega)).2.2.trans (b112.trans (nI_pred i).symm)⟩
              have ctB := ct71.cong (I1 := IB) (by rw [hIB, wr_sn (by decide)]; exact a146 34 (by decide)) (by rw [hIB, wr_sn (by decide)]; exact a146 35 (by decide)) (by rw [hIB, wr_n (by decide)]; exact g146 114 (by decide) (by decide) (by decide))
              have hB36 : IB 97 36 = nI wp := kB.2.2.2.2.2.trans h360
              have lbB : LB IB (P ++ [lblN F b w i]) := (hlb0.ky hPl kB).push hPl hn6 lvB.2.2.1 lvB.2.1.1 (by rw [lvB.2.2.2]; exact nI_pred i)
              have hPl2 : (P ++ [lblN F b w i]).length = d + 1 := by rw [List.length_append, hPl]; rfl
              refine g_iload C (pc := 174) dX12_findRows_174 0 rfl ?_
              refine g_iload_n C (pc := 176) dX12_findRows_176 3 rfl ?_
              refine g_iconst C (pc := 177) 1 dX12_findRows_177 (by decide) ?_
              refine g_isub C (pc := 178) dX12_findRows_178 ?_
              refine g_icmp_ne C (pc := 179) 191 dX12_findRows_179 (by decide) (fun c179 => ?_) (fun c179 => ?_)
              · have he1 : e ≠ 0 := fun h9 => c179 (by rw [hN1, show N - 1 = d by omega])
                obtain ⟨e1, rfl⟩ : ∃ e1, e = e1 + 1 := ⟨e - 1, by omega⟩
                refine g_aload_n C (pc := 191) dX12_findRows_191 2 rfl ?_
                refine g_callVI C (pc := 192) mf_X12_lost lk_RX12_221 (c_X12_lost n ρ IB F (playB F b w ((mvs F b w)[i]?)) hn9 hms (hqf.kp kpB) hrw fB hbw2 hl12) (by decide) (Nat.le_refl _) rfl (by first | assumption | rfl | omega) rfl (by first | assumption | rfl | omega) (Nat.le_of_ble_eq_true rfl) dX12_findRows_192 (fun v192 I192 h192 => ?_)
                obtain ⟨e192, rfl⟩ := h192
                refine g_bipush C (pc := 195) (-4) dX12_findRows_195 (by decide) ?_
                refine g_icmp_ne C (pc := 197) 52 dX12_findRows_197 (by decide) (fun c197 => ?_) (fun c197 => ?_)
                · have hlo : lostP F (playB F b w ((mvs F b w)[i]?)) ≠ none := fun h9 => c197 (by rw [e192, lostB_none.mpr h9]; rfl)
                  refine g_lv C [0, 1, 2, 3, 4] rfl ?_
                  refine ih w (i + 1) IB hw hic lvB kB ?_ (by omega)
                  rw [← fr_step, show fnd F g (e1 + 1) (playB F b w ((mvs F b w)[i]?)) = [] from by rw [fnd, if_neg hlo], List.map_nil, List.append_nil]; exact ctB
                · have hnl : lostB F (playB F b w ((mvs F b w)[i]?)) = none := (oI_none (lostB_lt2 hrw)).mp (e192.symm.trans c197)
                  have hno : lostP F (playB F b w ((mvs F b w)[i]?)) = none := lostB_none.mp hnl
                  refine g_iinc C (pc := 200) (1) dX12_findRows_200 0 rfl (by decide) (by decide) (fun v200 => [(4, .int v200), (3, .int oth), (0, .ref 97), (1, .int (nI N)), (2, .int z)]) (fun _ => rfl) (fun v200 ev200 => ?_)
                  replace ev200 : v200 = nI (d + 1) := by rw [ev200]; exact nI_1 d
                  subst ev200
                  refine g_aload_n C (pc := 203) dX12_findRows_203 2 rfl ?_
                  refine g_iload C (pc := 204) dX12_findRows_204 0 rfl ?_
                  refine g_iload_n C (pc := 206) dX12_findRows_206 4 rfl ?_
                  refine g_callVV C (pc := 207) mf_X12_enters lk_RX12_332 (c_X12_enters n ρ IB F (playB F b w ((mvs F b w)[i]?)) 0 (d + 1) z hn9 hms (hqf.kp kpB) hrw (hqe.kp kpB) fB hbw2 hl12 hpw2 (by decide) (by omega) (Or.inr ⟨hz, rfl⟩)) (by decide) (Nat.le_refl _) rfl (by first | assumption | rfl | omega) rfl (by first | assumption | rfl | omega) (Nat.le_of_ble_eq_true rfl) dX12_findRows_207 (fun I207 h207 => ?_)
                  obtain ⟨s207, f207, u207, t207, p207, q207, ⟨x207, y207, z207⟩, g207⟩ := h207
                  refine g_goto C (pc := 210) 52 dX12_findRows_210 (by decide) ?_
                  refine g_lv C [0, 1, 2, 3, 4] rfl ?_
                  have kE := Ky.en p207 q207 x207 y207 z207 g207
                  refine ihE e1 (by omega) (d + 1) (playB F b w ((mvs F b w)[i]?)) (P ++ [lblN F b w i]) _ I207 (by omega) hbw2 hl12 hpw2 hPl2 ⟨s207, f207, u207, t207.trans (by decide)⟩ (lbB.ky hPl2 kE) (ctB.cong (by rw [g207 97 (by decide)]) (by rw [g207 97 (by decide)]) (g207 114 (by decide))) (kpB.trans kE.1) (kE.2.2.2.2.2.trans hB36) (fr_len hn6 hw hic hAb) ?_
                  intro J1 hk1 hc1
                  rw [nI_pred d]
                  have kJ := kE.trans hk1
                  refine ih w (i + 1) J1 hw hic (lvB.ky kJ hn6) (kB.trans kJ.down) ?_ (by omega)
                  rw [← fr_step, fnd, if_pos hno]; exact hc1
              · have he0 : e = 0 := by
                  rw [hN1] at c179
                  have := (nI_eq (by omega) (by omega)).mp c179
                  omega
                subst he0
                have hPl3 : (P ++ [lblN F b w i]).length = N := by omega
                refine g_aload_n C (pc := 182) dX12_findRows_182 2 rfl ?_
                refine g_iload_n C (pc := 183) dX12_findRows_183 3 rfl ?_
                refine g_iload_n C (pc := 184) dX12_findRows_184 4 rfl ?_
                refine g_callVV C (pc := 185) mf_X12_leaf lk_RX12_329 (hLf IB (playB F b w ((mvs F b w)[i]?)) N _ (fun q => ((P ++ [lblN F b w i])[q]?).getD 0) (nI N) kpB fB hbw2 rfl hN3 ctB.1 (by have h9 := fr_len (g := g) (P := P) hn6 hw hic hAb; rw [Nat.pow_zero] at h9; omega) hB36 (fun q hq => by have h9 := List.getElem?_eq_getElem (l := P ++ [lblN F b w i]) (i := q) (by omega); rw [lbB q _ h9, h9]; rfl)) (by decide) (Nat.le_refl _) rfl (by first | assumption | rfl | omega) rfl (by first | assumption | rfl | omega) (Nat.le_of_ble_eq_true rfl) dX12_findRows_185 (fun I185 h185 => ?_)
                obtain h185 := h185
                refine g_goto C (pc := 188) 52 dX12_findRows_188 (by decide) ?_
                refine g_lv C [0, 1, 2, 3, 4] rfl ?_
                obtain ⟨ct9, ky9⟩ := ctB.leaf hPl3 (fun q l hq => by show ((P ++ [lblN F b w i])[q]?).getD 0 = l; rw [hq]; rfl) h185
                rw [← fr_leaf (F := F), fr_step] at ct9
                exact ih w (i + 1) I185 hw hic (lvB.ky (ky9 (d + 1)) hn6) (kB.trans (ky9 d)) ct9 (by omega)
            · refine g_aload_n C (pc := 158) dX12_findRows_158 2 rfl ?_
              refine g_callVI C (pc := 159) mf_X12_lost lk_RX12_221 (c_X12_lost n ρ I146 F (playB F b w ((mvs F b w)[i]?)) hn9 hms (hqf.kp kp146) hrw f146 hbw2 hl12) (by decide) (Nat.le_refl _) rfl (by first | assumption | rfl | omega) rfl (by first | assumption | rfl | omega) (Nat.le_of_ble_eq_true rfl) dX12_findRows_159 (fun v159 I159 h159 => ?_)
              obtain ⟨e159, rfl⟩ := h159
              refine g_iload_n C (pc := 162) dX12_findRows_162 1 rfl ?_
              refine g_icmp_ne C (pc := 163) 170 dX12_findRows_163 (by decide) (fun c163 => ?_) (fun c163 => ?_)
              · skip
                refine g_iconst C (pc := 170) 0 dX12_findRows_170 (by decide) ?_
                refine g_putI C (pc := 171) fl_RX12_325 (by decide) fp_11_37 (Or.inl rfl) ⟨rfl, rfl⟩ (by first | assumption | rfl | omega) (by first | assumption | rfl | omega) hn9 dX12_findRows_171 ?_
                first
                | (obtain ⟨IB, hIB⟩ : ∃ IB, IB = wr I146 97 37 1 := ⟨_, rfl⟩
                   rw [← hIB])
                | (obtain ⟨IB, hIB⟩ : ∃ IB, IB = wr I146 97 37 0 := ⟨_, rfl⟩
                   rw [← hIB])
                have kB0 : Ky d I71 IB := (Ky.qb a146 g146).trans (by rw [hIB]; exact Ky.sc (by decide) (by decide) (by decide))
                have kB1 : Ky (d + 1) I71 IB := (Ky.qb a146 g146).trans (by rw [hIB]; exact Ky.sc (by decide) (by decide) (by decide))
                have kB : Ky d J0 IB := k71.trans kB0
                have kpB := hkp0.trans kB.1
                have fB : QB IB F (playB F b w ((mvs F b w)[i]?)) := f146.cong (fun _ _ => by rw [hIB, wr_n (by decide)]) (fun _ _ => by rw [hIB, wr_n (by decide)]) (by rw [hIB, wr_sn (by decide)]) hn6
                have lvB : LvR IB F b d w (i + 1) := ⟨sv71.ky kB1 hn6, fm71.ky kB1 hn6, (kB1.2.2.1 d (by omega)).2.1.trans b111, (kB1.2.2.1 d (by omega)).2.2.trans (b112.trans (nI_pred i).symm)⟩
                have ctB := ct71.cong (I1 := IB) (by rw [hIB, wr_sn (by decide)]; exact a146 34 (by decide)) (by rw [hIB, wr_sn (by decide)]; exact a146 35 (by decide)) (by rw [hIB, wr_n (by decide)]; exact g146 114 (by decide) (by decide) (by decide))
                have hB36 : IB 97 36 = nI wp := kB.2.2.2.2.2.trans h360
                have lbB : LB IB (P ++ [lblN F b w i]) := (hlb0.ky hPl kB).push hPl hn6 lvB.2.2.1 lvB.2.1.1 (by rw [lvB.2.2.2]; exact nI_pred i)
                have hPl2 : (P ++ [lblN F b w i]).length = d + 1 := by rw [List.length_append, hPl]; rfl
                refine g_iload C (pc := 174) dX12_findRows_174 0 rfl ?_
                refine g_iload_n C (pc := 176) dX12_findRows_176 3 rfl ?_
                refine g_iconst C (pc := 177) 1 dX12_findRows_177 (by decide) ?_
                refine g_isub C (pc := 178) dX12_findRows_178 ?_
                refine g_icmp_ne C (pc := 179) 191 dX12_findRows_179 (by decide) (fun c179 => ?_) (fun c179 => ?_)
                · have he1 : e ≠ 0 := fun h9 => c179 (by rw [hN1, show N - 1 = d by omega])
                  obtain ⟨e1, rfl⟩ : ∃ e1, e = e1 + 1 := ⟨e - 1, by omega⟩
                  refine g_aload_n C (pc := 191) dX12_findRows_191 2 rfl ?_
                  refine g_callVI C (pc := 192) mf_X12_lost lk_RX12_221 (c_X12_lost n ρ IB F (playB F b w ((mvs F b w)[i]?)) hn9 hms (hqf.kp kpB) hrw fB hbw2 hl12) (by decide) (Nat.le_refl _) rfl (by first | assumption | rfl | omega) rfl (by first | assumption | rfl | omega) (Nat.le_of_ble_eq_true rfl) dX12_findRows_192 (fun v192 I192 h192 => ?_)
                  obtain ⟨e192, rfl⟩ := h192
                  refine g_bipush C (pc := 195) (-4) dX12_findRows_195 (by decide) ?_
                  refine g_icmp_ne C (pc := 197) 52 dX12_findRows_197 (by decide) (fun c197 => ?_) (fun c197 => ?_)
                  · have hlo : lostP F (playB F b w ((mvs F b w)[i]?)) ≠ none := fun h9 => c197 (by rw [e192, lostB_none.mpr h9]; rfl)
                    refine g_lv C [0, 1, 2, 3, 4] rfl ?_
                    refine ih w (i + 1) IB hw hic lvB kB ?_ (by omega)
                    rw [← fr_step, show fnd F g (e1 + 1) (playB F b w ((mvs F b w)[i]?)) = [] from by rw [fnd, if_neg hlo], List.map_nil, List.append_nil]; exact ctB
                  · have hnl : lostB F (playB F b w ((mvs F b w)[i]?)) = none := (oI_none (lostB_lt2 hrw)).mp (e192.symm.trans c197)
                    have hno : lostP F (playB F b w ((mvs F b w)[i]?)) = none := lostB_none.mp hnl
                    refine g_iinc C (pc := 200) (1) dX12_findRows_200 0 rfl (by decide) (by decide) (fun v200 => [(4, .int v200), (3, .int oth), (0, .ref 97), (1, .int (nI N)), (2, .int z)]) (fun _ => rfl) (fun v200 ev200 => ?_)
                    replace ev200 : v200 = nI (d + 1) := by rw [ev200]; exact nI_1 d
                    subst ev200
                    refine g_aload_n C (pc := 203) dX12_findRows_203 2 rfl ?_
                    refine g_iload C (pc := 204) dX12_findRows_204 0 rfl ?_
                    refine g_iload_n C (pc := 206) dX12_findRows_206 4 rfl ?_
                    refine g_callVV C (pc := 207) mf_X12_enters lk_RX12_332 (c_X12_enters n ρ IB F (playB F b w ((mvs F b w)[i]?)) 0 (d + 1) z hn9 hms (hqf.kp kpB) hrw (hqe.kp kpB) fB hbw2 hl12 hpw2 (by decide) (by omega) (Or.inr ⟨hz, rfl⟩)) (by decide) (Nat.le_refl _) rfl (by first | assumption | rfl | omega) rfl (by first | assumption | rfl | omega) (Nat.le_of_ble_eq_true rfl) dX12_findRows_207 (fun I207 h207 => ?_)
                    obtain ⟨s207, f207, u207, t207, p207, q207, ⟨x207, y207, z207⟩, g207⟩ := h207
                    refine g_goto C (pc := 210) 52 dX12_findRows_210 (by decide) ?_
                    refine g_lv C [0, 1, 2, 3, 4] rfl ?_
                    have kE := Ky.en p207 q207 x207 y207 z207 g207
                    refine ihE e1 (by omega) (d + 1) (playB F b w ((mvs F b w)[i]?)) (P ++ [lblN F b w i]) _ I207 (by omega) hbw2 hl12 hpw2 hPl2 ⟨s207, f207, u207, t207.trans (by decide)⟩ (lbB.ky hPl2 kE) (ctB.cong (by rw [g207 97 (by decide)]) (by rw [g207 97 (by decide)]) (g207 114 (by decide))) (kpB.trans kE.1) (kE.2.2.2.2.2.trans hB36) (fr_len hn6 hw hic hAb) ?_
                    intro J1 hk1 hc1
                    rw [nI_pred d]
                    have kJ := kE.trans hk1
                    refine ih w (i + 1) J1 hw hic (lvB.ky kJ hn6) (kB.trans kJ.down) ?_ (by omega)
                    rw [← fr_step, fnd, if_pos hno]; exact hc1
                · have he0 : e = 0 := by
                    rw [hN1] at c179
                    have := (nI_eq (by omega) (by omega)).mp c179
                    omega
                  subst he0
                  have hPl3 : (P ++ [lblN F b w i]).length = N := by omega
                  refine g_aload_n C (pc := 182) dX12_findRows_182 2 rfl ?_
                  refine g_iload_n C (pc := 183) dX12_findRows_183 3 rfl ?_
                  refine g_iload_n C (pc := 184) dX12_findRows_184 4 rfl ?_
                  refine g_callVV C (pc := 185) mf_X12_leaf lk_RX12_329 (hLf IB (playB F b w ((mvs F b w)[i]?)) N _ (fun q => ((P ++ [lblN F b w i])[q]?).getD 0) (nI N) kpB fB hbw2 rfl hN3 ctB.1 (by have h9 := fr_len (g := g) (P := P) hn6 hw hic hAb; rw [Nat.pow_zero] at h9; omega) hB36 (fun q hq => by have h9 := List.getElem?_eq_getElem (l := P ++ [lblN F b w i]) (i := q) (by omega); rw [lbB q _ h9, h9]; rfl)) (by decide) (Nat.le_refl _) rfl (by first | assumption | rfl | omega) rfl (by first | assumption | rfl | omega) (Nat.le_of_ble_eq_true rfl) dX12_findRows_185 (fun I185 h185 => ?_)
                  obtain h185 := h185
                  refine g_goto C (pc := 188) 52 dX12_findRows_188 (by decide) ?_
                  refine g_lv C [0, 1, 2, 3, 4] rfl ?_
                  obtain ⟨ct9, ky9⟩ := ctB.leaf hPl3 (fun q l hq => by show ((P ++ [lblN F b w i])[q]?).getD 0 = l; rw [hq]; rfl) h185
                  rw [← fr_leaf (F := F), fr_step] at ct9
                  exact ih w (i + 1) I185 hw hic (lvB.ky (ky9 (d + 1)) hn6) (kB.trans (ky9 d)) ct9 (by omega)
              · skip
                refine g_iconst C (pc := 166) 1 dX12_findRows_166 (by decide) ?_
                refine g_goto C (pc := 167) 171 dX12_findRows_167 (by decide) ?_
                refine g_putI C (pc := 171) fl_RX12_325 (by decide) fp_11_37 (Or.inl rfl) ⟨rfl, rfl⟩ (by first | assumption | rfl | omega) (by first | assumption | rfl | omega) hn9 dX12_findRows_171 ?_
                first
                | (obtain ⟨IB, hIB⟩ : ∃ IB, IB = wr I146 97 37 1 := ⟨_, rfl⟩
                   rw [← hIB])
                | (obtain ⟨IB, hIB⟩ : ∃ IB, IB = wr I146 97 37 0 := ⟨_, rfl⟩
                   rw [← hIB])
                have kB0 : Ky d I71 IB := (Ky.qb a146 g146).trans (by rw [hIB]; exact Ky.sc (by decide) (by decide) (by decide))
                have kB1 : Ky (d + 1) I71 IB := (Ky.qb a146 g146).trans (by rw [hIB]; exact Ky.sc (by decide) (by decide) (by decide))
                have kB : Ky d J0 IB := k71.trans kB0
                have kpB := hkp0.trans kB.1
                have fB : QB IB F (playB F b w ((mvs F b w)[i]?)) := f146.cong (fun _ _ => by rw [hIB, wr_n (by decide)]) (fun _ _ => by rw [hIB, wr_n (by decide)]) (by rw [hIB, wr_sn (by decide)]) hn6
                have lvB : LvR IB F b d w (i + 1) := ⟨sv71.ky kB1 hn6, fm71.ky kB1 hn6, (kB1.2.2.1 d (by omega)).2.1.trans b111, (kB1.2.2.1 d (by omega)).2.2.trans (b112.trans (nI_pred i).symm)⟩
                have ctB := ct71.cong (I1 := IB) (by rw [hIB, wr_sn (by decide)]; exact a146 34 (by decide)) (by rw [hIB, wr_sn (by decide)]; exact a146 35 (by decide)) (by rw [hIB, wr_n (by decide)]; exact g146 114 (by decide) (by decide) (by decide))
                have hB36 : IB 97 36 = nI wp := kB.2.2.2.2.2.trans h360
                have lbB : LB IB (P ++ [lblN F b w i]) := (hlb0.ky hPl kB).push hPl hn6 lvB.2.2.1 lvB.2.1.1 (by rw [lvB.2.2.2]; exact nI_pred i)
                have hPl2 : (P ++ [lblN F b w i]).length = d + 1 := by rw [List.length_append, hPl]; rfl
                refine g_iload C (pc := 174) dX12_findRows_174 0 rfl ?_
                refine g_iload_n C (pc := 176) dX12_findRows_176 3 rfl ?_
                refine g_iconst C (pc := 177) 1 dX12_findRows_177 (by decide) ?_
                refine g_isub C (pc := 178) dX12_findRows_178 ?_
                refine g_icmp_ne C (pc := 179) 191 dX12_findRows_179 (by decide) (fun c179 => ?_) (fun c179 => ?_)
                · have he1 : e ≠ 0 := fun h9 => c179 (by rw [hN1, show N - 1 = d by omega])
                  obtain ⟨e1, rfl⟩ : ∃ e1, e = e1 + 1 := ⟨e - 1, by omega⟩
                  refine g_aload_n C (pc := 191) dX12_findRows_191 2 rfl ?_
                  refine g_callVI C (pc := 192) mf_X12_lost lk_RX12_221 (c_X12_lost n ρ IB F (playB F b w ((mvs F b w)[i]?)) hn9 hms (hqf.kp kpB) hrw fB hbw2 hl12) (by decide) (Nat.le_refl _) rfl (by first | assumption | rfl | omega) rfl (by first | assumption | rfl | omega) (Nat.le_of_ble_eq_true rfl) dX12_findRows_192 (fun v192 I192 h192 => ?_)
                  obtain ⟨e192, rfl⟩ := h192
                  refine g_bipush C (pc := 195) (-4) dX12_findRows_195 (by decide) ?_
                  refine g_icmp_ne C (pc := 197) 52 dX12_findRows_197 (by decide) (fun c197 => ?_) (fun c197 => ?_)
                  · have hlo : lostP F (playB F b w ((mvs F b w)[i]?)) ≠ none := fun h9 => c197 (by rw [e192, lostB_none.mpr h9]; rfl)
                    refine g_lv C [0, 1, 2, 3, 4] rfl ?_
                    refine ih w (i + 1) IB hw hic lvB kB ?_ (by omega)
                    rw [← fr_step, show fnd F g (e1 + 1) (playB F b w ((mvs F b w)[i]?)) = [] from by rw [fnd, if_neg hlo], List.map_nil, List.append_nil]; exact ctB
                  · have hnl : lostB F (playB F b w ((mvs F b w)[i]?)) = none := (oI_none (lostB_lt2 hrw)).mp (e192.symm.trans c197)
                    have hno : lostP F (playB F b w ((mvs F b w)[i]?)) = none := lostB_none.mp hnl
                    refine g_iinc C (pc := 200) (1) dX12_findRows_200 0 rfl (by decide) (by decide) (fun v200 => [(4, .int v200), (3, .int oth), (0, .ref 97), (1, .int (nI N)), (2, .int z)]) (fun _ => rfl) (fun v200 ev200 => ?_)
                    replace ev200 : v200 = nI (d + 1) := by rw [ev200]; exact nI_1 d
                    subst ev200
                    refine g_aload_n C (pc := 203) dX12_findRows_203 2 rfl ?_
                    refine g_iload C (pc := 204) dX12_findRows_204 0 rfl ?_
                    refine g_iload_n C (pc := 206) dX12_findRows_206 4 rfl ?_
                    refine g_callVV C (pc := 207) mf_X12_enters lk_RX12_332 (c_X12_enters n ρ IB F (playB F b w ((mvs F b w)[i]?)) 0 (d + 1) z hn9 hms (hqf.kp kpB) hrw (hqe.kp kpB) fB hbw2 hl12 hpw2 (by decide) (by omega) (Or.inr ⟨hz, rfl⟩)) (by decide) (Nat.le_refl _) rfl (by first | assumption | rfl | omega) rfl (by first | assumption | rfl | omega) (Nat.le_of_ble_eq_true rfl) dX12_findRows_207 (fun I207 h207 => ?_)
                    obtain ⟨s207, f207, u207, t207, p207, q207, ⟨x207, y207, z207⟩, g207⟩ := h207
                    refine g_goto C (pc := 210) 52 dX12_findRows_210 (by decide) ?_
                    refine g_lv C [0, 1, 2, 3, 4] rfl ?_
                    have kE := Ky.en p207 q207 x207 y207 z207 g207
                    refine ihE e1 (by omega) (d + 1) (playB F b w ((mvs F b w)[i]?)) (P ++ [lblN F b w i]) _ I207 (by omega) hbw2 hl12 hpw2 hPl2 ⟨s207, f207, u207, t207.trans (by decide)⟩ (lbB.ky hPl2 kE) (ctB.cong (by rw [g207 97 (by decide)]) (by rw [g207 97 (by decide)]) (g207 114 (by decide))) (kpB.trans kE.1) (kE.2.2.2.2.2.trans hB36) (fr_len hn6 hw hic hAb) ?_
                    intro J1 hk1 hc1
                    rw [nI_pred d]
                    have kJ := kE.trans hk1
                    refine ih w (i + 1) J1 hw hic (lvB.ky kJ hn6) (kB.trans kJ.down) ?_ (by omega)
                    rw [← fr_step, fnd, if_pos hno]; exact hc1
                · have he0 : e = 0 := by
                    rw [hN1] at c179
                    have := (nI_eq (by omega) (by omega)).mp c179
                    omega
                  subst he0
                  have hPl3 : (P ++ [lblN F b w i]).length = N := by omega
                  refine g_aload_n C (pc := 182) dX12_findRows_182 2 rfl ?_
                  refine g_iload_n C (pc := 183) dX12_findRows_183 3 rfl ?_
                  refine g_iload_n C (pc := 184) dX12_findRows_184 4 rfl ?_
                  refine g_callVV C (pc := 185) mf_X12_leaf lk_RX12_329 (hLf IB (playB F b w ((mvs F b w)[i]?)) N _ (fun q => ((P ++ [lblN F b w i])[q]?).getD 0) (nI N) kpB fB hbw2 rfl hN3 ctB.1 (by have h9 := fr_len (g := g) (P := P) hn6 hw hic hAb; rw [Nat.pow_zero] at h9; omega) hB36 (fun q hq => by have h9 := List.getElem?_eq_getElem (l := P ++ [lblN F b w i]) (i := q) (by omega); rw [lbB q _ h9, h9]; rfl)) (by decide) (Nat.le_refl _) rfl (by first | assumption | rfl | omega) rfl (by first | assumption | rfl | omega) (Nat.le_of_ble_eq_true rfl) dX12_findRows_185 (fun I185 h185 => ?_)
                  obtain h185 := h185
                  refine g_goto C (pc := 188) 52 dX12_findRows_188 (by decide) ?_
                  refine g_lv C [0, 1, 2, 3, 4] rfl ?_
                  obtain ⟨ct9, ky9⟩ := ctB.leaf hPl3 (fun q l hq => by show ((P ++ [lblN F b w i])[q]?).getD 0 = l; rw [hq]; rfl) h185
                  rw [← fr_leaf (F := F), fr_step] at ct9
                  exact ih w (i + 1) I185 hw hic (lvB.ky (ky9 (d + 1)) hn6) (kB.trans (ky9 d)) ct9 (by omega)
  exact inner _ 0 0 J0 (by decide) (Nat.zero_le _) hlv0 Ky.rfl' (by rw [fndW, fndI, List.append_nil, List.map_nil, List.append_nil]; exact hct0) (Nat.lt_succ_self _)
