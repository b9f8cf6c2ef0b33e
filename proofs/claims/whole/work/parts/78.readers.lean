theorem MG.mono {y : MethodName} {cc : ByteArray} {nL : Nat} {ret : Option FieldType} {d k : Nat} {a : List Value} {n : Nat} {ρ : Rho} {I : Mem} {P Q : Option Value → Rho → Mem → Prop} (h : MG y cc nL ret d k a n ρ I P) (f : ∀ r ρ' I', P r ρ' I' → Q r ρ' I') : MG y cc nL ret d k a n ρ I Q := by
  intro l dC dI dA ad p e ha hc hk s m args below hf happ hP hT
  obtain ⟨t, o, h1, h2, h3, ⟨⟨r, ρ', I', e1, e2, e3⟩, hF⟩, hfr⟩ := h l dC dI dA ad p e ha hc hk s m args below hf happ hP hT
  exact ⟨t, o, h1, h2, h3, ⟨⟨r, ρ', I', e1, f _ _ _ e2, e3⟩, hF⟩, hfr⟩
theorem MV.mono {y : MethodName} {cc : ByteArray} {nL : Nat} {ret : Option FieldType} {d : Nat} {a : List Value} {n : Nat} {ρ : Rho} {I : Mem} {P Q : Mem → Prop} (h : MV y cc nL ret d a n ρ I P) (f : ∀ I1, P I1 → Q I1) : MV y cc nL ret d a n ρ I Q := MG.mono h (by rintro r ρ' I' ⟨h1, h2, h3⟩; exact ⟨h1, h2, f _ h3⟩)
theorem MI.mono {y : MethodName} {cc : ByteArray} {nL : Nat} {ret : Option FieldType} {d : Nat} {a : List Value} {n : Nat} {ρ : Rho} {I : Mem} {P Q : Int32 → Mem → Prop} (h : MI y cc nL ret d a n ρ I P) (f : ∀ v I1, P v I1 → Q v I1) : MI y cc nL ret d a n ρ I Q := MG.mono h (by rintro r ρ' I' ⟨h1, x, h2, h3⟩; exact ⟨h1, x, h2, f _ _ h3⟩)
theorem ML.mono {y : MethodName} {cc : ByteArray} {nL : Nat} {ret : Option FieldType} {d : Nat} {a : List Value} {n : Nat} {ρ : Rho} {I : Mem} {P Q : Int64 → Mem → Prop} (h : ML y cc nL ret d a n ρ I P) (f : ∀ v I1, P v I1 → Q v I1) : ML y cc nL ret d a n ρ I Q := MG.mono h (by rintro r ρ' I' ⟨h1, x, h2, h3⟩; exact ⟨h1, x, h2, f _ _ h3⟩)
theorem nxt_any {n : Nat} {ρ : Rho} {I : Mem} {L : Nat} {tb : Nat → Nat} {s : PRs Nat} (hn9 : n ≤ 999) (hms : MS n ρ) (htb : TbM I L tb) (hc : Cn I L s) : MV yX12_next cX12_next 2 none 1 [.ref 97] n ρ I (fun I1 => Sx I1 tb L s ∧ Lx I I1) := by
  cases s with
  | inl e => exact MV.mono (c_X12_next0 n ρ I hn9 hms (FT.gt hc)) (fun I1 h => by subst h; exact ⟨hc, Lx.rfl'⟩)
  | inr p => exact c_X12_next1 n ρ I L tb p hn9 hms htb hc.1 hc.2.1 hc.2.2
def nd (q : Nat × Nat × Nat) : PRs Nat := .inr q.2.2
theorem pb_as {α β γ : Type} {x : PRs α} {f : α → PRs β} {g : β → PRs γ} : pb (pb x f) g = pb x (fun a => pb (f a) g) := by cases x <;> rfl
/-- looking at a token changes its fault alone -/
def Lk (I I1 : Mem) : Prop := (∀ z, z ≠ 21 → z ≠ 22 → I1 97 z = I 97 z) ∧ ∀ i, i ≠ 97 → I1 i = I i
theorem Lk.x {I I1 : Mem} (h : Lk I I1) : Lx I I1 := ⟨fun z hz => h.1 z (by omega) (by omega), h.2⟩
theorem lkd_any {n : Nat} {ρ : Rho} {I : Mem} {L : Nat} {tb : Nat → Nat} {s : PRs Nat} {lo hi : Nat} {x z : Int32} (hn9 : n ≤ 999) (hms : MS n ρ) (ht : ∀ p, p < L → tb p < 256) (hs : Sx I tb L s) (hx : x = nI lo) (hz : z = nI hi) (hlo : lo < 1000) (hhi : hi < 1000) : MI yX12_looked cX12_looked 3 (some .int) 1 [.ref 97, .int x, .int z] n ρ I (fun v I1 => Cn I1 L (pb (pb s (rdNum tb L lo hi)) nd) ∧ (∀ q, pb s (rdNum tb L lo hi) = .inr q → v = nI q.1) ∧ Lk I I1) := by
  refine MI.mono (c_X12_looked n ρ I x z hn9 hms) ?_
  intro v I1 h
  subst hx hz
  have hk0 : Lk I I := ⟨fun _ _ _ => rfl, fun _ _ => rfl⟩
  have hk2 : ∀ w y, Lk I (wr (wr I 97 21 w) 97 22 y) := fun w y => ⟨fun z h1 h2 => by rw [wr_sn h2, wr_sn h1], fun i hi => by rw [wr_n hi, wr_n hi]⟩
  cases s with
  | inl e =>
    have hp := FT.pos hs
    rcases h with ⟨h1, h2, rfl⟩ | ⟨h1, -⟩ | ⟨h1, -⟩ | ⟨h1, -⟩
    · exact ⟨hs, fun q hq => (by cases hq), hk0⟩
    · exact absurd h1 hp
    · exact absurd h1 hp
    · exact absurd h1 hp
  | inr p =>
    obtain ⟨hpL, hN⟩ := hs
    show Cn I1 L (pb (rdNum tb L lo hi p) nd) ∧ (∀ q, rdNum tb L lo hi p = .inr q → v = nI q.1) ∧ Lk I I1
    rcases hN with ⟨h0, hF⟩ | ⟨h0, a21, a18, a17, a19, a20⟩
    · have hp := FT.pos hF
      have e1 : rdNum tb L lo hi p = .inl (1, tkF tb L p) := by unfold rdNum; rw [if_pos h0]
      rw [e1]
      rcases h with ⟨h1, h2, rfl⟩ | ⟨h1, -⟩ | ⟨h1, -⟩ | ⟨h1, -⟩
      · exact ⟨hF, fun q hq => (by cases hq), hk0⟩
      · exact absurd h1 hp
      · exact absurd h1 hp
      · exact absurd h1 hp
    · have hEL := (tkE_le (tb := tb) hpL).2
      have hs4 : sOf (tkK tb L p) < 1000 ∧ (sOf (tkK tb L p) = 2 ↔ tkK tb L p = 2) := by
        have hk : tkK tb L p ≤ 4 := by
          unfold tkK; split
          · exact Nat.le_refl _
          · split
            · decide
            · split
              · decide
              · split
                · split <;> decide
                · decide
        unfold sOf; split <;> omega
      have h19 : I 97 19 = 2 ↔ tkK tb L p = 2 := by
        rw [a19, show (2 : Int32) = nI 2 from rfl, nI_eq (by omega) (by decide)]; exact hs4.2
      by_cases h2 : tkK tb L p = 2
      · have hv := a20 h2
        have hlt := tkV_lt h2 ht hpL
        have hrg : (nI lo ≤ I 97 20 ∧ I 97 20 ≤ nI hi) ↔ (lo ≤ tkV tb L p ∧ tkV tb L p ≤ hi) := by
          rw [hv, nI_leI (by omega) (by omega), nI_leI (by omega) (by omega)]
        by_cases h3 : lo ≤ tkV tb L p ∧ tkV tb L p ≤ hi
        · have e1 : rdNum tb L lo hi p = .inr (tkV tb L p, tkF tb L p, tkE tb L p) := by unfold rdNum; rw [if_neg h0, if_neg (fun h => h h2), if_pos h3]
          rw [e1]
          rcases h with ⟨h1, -⟩ | ⟨-, h1, -⟩ | ⟨-, -, h1, -⟩ | ⟨-, -, -, h1, rfl⟩
          · exact absurd a21 h1
          · exact absurd (h19.mpr h2) h1
          · exact absurd (hrg.mpr h3) h1
          · exact ⟨⟨a21, a17, hEL⟩, fun q hq => (by cases hq; exact h1.trans hv), hk0⟩
        · have e1 : rdNum tb L lo hi p = .inl (3, tkF tb L p) := by unfold rdNum; rw [if_neg h0, if_neg (fun h => h h2), if_neg h3]
          rw [e1]
          rcases h with ⟨h1, -⟩ | ⟨-, h1, -⟩ | ⟨-, -, -, -, rfl⟩ | ⟨-, -, h1, -⟩
          · exact absurd a21 h1
          · exact absurd (h19.mpr h2) h1
          · exact ⟨⟨by rw [wr_sn (by decide), wr_ss]; rfl, by rw [wr_ss]; exact a18, (show 1 ≤ 3 by decide), (show 3 ≤ 8 by decide)⟩, fun q hq => (by cases hq), hk2 _ _⟩
          · exact absurd (hrg.mp h1) h3
      · have e1 : rdNum tb L lo hi p = .inl (2, tkF tb L p) := by unfold rdNum; rw [if_neg h0, if_pos h2]
        rw [e1]
        rcases h with ⟨h1, -⟩ | ⟨-, -, -, rfl⟩ | ⟨-, h1, -⟩ | ⟨-, h1, -⟩
        · exact absurd a21 h1
        · exact ⟨⟨by rw [wr_sn (by decide), wr_ss]; rfl, by rw [wr_ss]; exact a18, (show 1 ≤ 2 by decide), (show 2 ≤ 8 by decide)⟩, fun q hq => (by cases hq), hk2 _ _⟩
        · exact absurd (h19.mp h1) h2
        · exact absurd (h19.mp h1) h2
/-- the first fault, the first that is read -/
theorem cn_l {I : Mem} {L : Nat} {α : Type} {R : PRs α} {k : α → Nat} (h : Cn I L (pb R (fun a => .inr (k a)))) (hf : ¬ I 97 21 = 0) : ∃ e, R = .inl e := by
  cases R with
  | inl e => exact ⟨e, rfl⟩
  | inr q => exact absurd h.1 hf
theorem cn_r {I : Mem} {L : Nat} {α : Type} {R : PRs α} {k : α → Nat} (h : Cn I L (pb R (fun a => .inr (k a)))) (hf : I 97 21 = 0) : ∃ q, R = .inr q ∧ I 97 17 = nI (k q) ∧ k q ≤ L := by
  cases R with
  | inl e => exact absurd hf (FT.pos h)
  | inr q => exact ⟨q, rfl, h.2.1, h.2.2⟩
theorem sx_r {I : Mem} {tb : Nat → Nat} {L : Nat} {α : Type} {R : PRs α} {k : α → Nat} (h : Sx I tb L (pb R (fun a => .inr (k a)))) (hf : I 97 21 = 0) : ∃ q, R = .inr q ∧ k q ≤ L ∧ PT I tb L (k q) ∧ tkK tb L (k q) ≠ 0 := by
  cases R with
  | inl e => exact absurd hf (FT.pos h)
  | inr q =>
    obtain ⟨h1, h2⟩ := h
    rcases h2 with ⟨-, h3⟩ | ⟨h4, h3⟩
    · exact absurd hf (FT.pos h3)
    · exact ⟨q, rfl, h1, h3, h4⟩
/-- where a number that was read began *)-/
theorem num_at {I : Mem} {tb : Nat → Nat} {L lo hi : Nat} {s : PRs Nat} {q : Nat × Nat × Nat} (hs : Sx I tb L s) (h : pb s (rdNum tb L lo hi) = .inr q) : lo ≤ q.1 ∧ q.1 ≤ hi ∧ q.2.2 ≤ L ∧ I 97 18 = nI q.2.1 ∧ ∃ p, s = .inr p ∧ p ≤ L ∧ rdNum tb L lo hi p = .inr q := by
  cases s with
  | inl e => cases h
  | inr p =>
    obtain ⟨hpL, hN⟩ := hs
    replace h : rdNum tb L lo hi p = .inr q := h
    obtain ⟨h1, h2, h3, h4⟩ := rdNum_ok hpL h
    refine ⟨h1, h2, h4, ?_, p, rfl, hpL, h⟩
    unfold rdNum at h
    rcases hN with ⟨h0, -⟩ | ⟨h0, -, a18, -⟩
    · rw [if_pos h0] at h; cases h
    · rw [if_neg h0] at h
      split at h
      · cases h
      · split at h
        · cases h; exact a18
        · cases h
def Ly (I I1 : Mem) : Prop := (∀ z, z ≠ 14 → z < 17 ∨ 22 < z → I1 97 z = I 97 z) ∧ ∀ i, i ≠ 97 → I1 i = I i
theorem Lx.y {I I1 : Mem} (h : Lx I I1) : Ly I I1 := ⟨fun z _ hz => h.1 z hz, h.2⟩
theorem Ly.trans {I J K : Mem} (a : Ly I J) (b : Ly J K) : Ly I K := ⟨fun z h1 h2 => (b.1 z h1 h2).trans (a.1 z h1 h2), fun i hi => (b.2 i hi).trans (a.2 i hi)⟩
theorem TbM.ly {I I1 : Mem} {L : Nat} {tb : Nat → Nat} (h : TbM I L tb) (k : Ly I I1) : TbM I1 L tb := h.cg (k.1 16 (by decide) (by decide)) (k.2 105 (by decide))
def fre (D : DT) (q : Nat × Nat × Nat) : PRs (Nat × Nat × Nat) := if rS (dF D) q.1 = false ∧ pon (dF D) (dB D) q.1 = none then .inr q else .inl (4, q.2.1)
theorem rdFree_pb {tb : Nat → Nat} {L : Nat} {D : DT} {s : PRs Nat} : pb s (rdFree tb L D) = pb (pb s (rdNum tb L 0 24)) (fre D) := by rw [pb_as]; rfl
def freB (F : RT) (b : BT) (i j : Nat) : Bool := !rS F i && !((List.range j).any fun x => bP b x == some i)
theorem freB_s {F : RT} {b : BT} {i j : Nat} : freB F b i (j + 1) = (freB F b i j && !(bP b j == some i)) := by
  unfold freB
  rw [List.range_succ, List.any_append]
  cases rS F i <;> cases (List.range j).any (fun x => bP b x == some i) <;> simp
theorem freB_t {F : RT} {b : BT} {i : Nat} : freB F b i (rN F) = true ↔ (rS F i = false ∧ pon F b i = none) := by
  unfold freB
  rw [Bool.and_eq_true, Bool.not_eq_true', Bool.not_eq_true']
  refine and_congr Iff.rfl ?_
  constructor
  · intro h
    cases e : pon F b i with
    | none => rfl
    | some t =>
      obtain ⟨h1, h2⟩ := pon_some e
      rw [List.any_eq_false] at h
      exact absurd (by rw [h2]; exact beq_self_eq_true _) (h t (List.mem_range.mpr h1))
  · intro h
    rw [List.any_eq_false]
    intro x hx
    have := pon_none h x (List.mem_range.mp hx)
    simpa using this
abbrev ODT : Type := (Nat → Nat) × Nat × Nat
def no (q : ODT) : PRs Nat := .inr q.2.2
def odT (tb : Nat → Nat) (L : Nat) (g : Nat → Nat) (f p : Nat) : PRs ODT := pb (rdOds tb L 5 0 g f p) (fun q => if 0 < smP q.1 5 then .inr q else .inl (3, q.2.1))
def odE (r : PRs ODT) : PRs ODT := pb r (fun q => if 0 < smP q.1 5 then .inr q else .inl (3, q.2.1))
theorem smP_up {g : Nat → Nat} {j v : Nat} : smP (fun w => if w = j then v else g w) (j + 1) = smP g j + v := by
  rw [smP, if_pos rfl]
  congr 1
  have : ∀ k, k ≤ j → smP (fun w => if w = j then v else g w) k = smP g k := by
    intro k
    induction k with
    | zero => intro _; rfl
    | succ k ih =>
      intro hk
      rw [smP, smP, ih (by omega), if_neg (by omega)]
  exact this j (Nat.le_refl j)
theorem rdOds_s {tb : Nat → Nat} {L k j : Nat} {g : Nat → Nat} {f p : Nat} {q : Nat × Nat × Nat} (h : rdNum tb L 0 9 p = .inr q) : rdOds tb L (k + 1) j g f p = rdOds tb L k (j + 1) (fun w => if w = j then q.1 else g w) q.2.1 q.2.2 := by rw [rdOds, pb_r h]
theorem rdOds_l {tb : Nat → Nat} {L k j : Nat} {g : Nat → Nat} {f p : Nat} {e : Nat × Nat} (h : rdNum tb L 0 9 p = .inl e) : rdOds tb L (k + 1) j g f p = .inl e := by rw [rdOds, pb_l h]
/-- how far the odds are read: what is told by it -/
def OdI (tb : Nat → Nat) (L : Nat) (T : PRs ODT) (J : Mem) (sum : Int32) (j : Nat) (S : PRs ODT) : Prop := match S with
  | .inl e => T = .inl e
  | .inr q => (j < 5 → T = odE (rdOds tb L (5 - j) j q.1 q.2.1 q.2.2)) ∧ (j = 5 → T = .inr q) ∧ sum = nI (smP q.1 j) ∧ (∀ w, w < j → J 102 (13 + w) = nI (q.1 w) ∧ q.1 w ≤ 9)
theorem OdI.cong {tb : Nat → Nat} {L : Nat} {T : PRs ODT} {J J1 : Mem} {sum : Int32} {j : Nat} {S : PRs ODT} (h : OdI tb L T J sum j S) (e : ∀ w, w < j → J1 102 (13 + w) = J 102 (13 + w)) : OdI tb L T J1 sum j S := by
  cases S with
  | inl x => exact h
  | inr q => exact ⟨h.1, h.2.1, h.2.2.1, fun w hw => by rw [e w hw]; exact h.2.2.2 w hw⟩
set_option maxHeartbeats 400000 in
theorem c_X12_readNumber (n : Nat) (ρ : Rho) (I : Mem) (L : Nat) (tb : Nat → Nat) (s : PRs Nat) (lo hi : Nat) (x z : Int32) (hn9 : n ≤ 999) (hms : MS n ρ) (htb : TbM I L tb) (hsx : Sx I tb L s) (hx : x = nI lo) (hz : z = nI hi) (hlo : lo < 1000) (hhi : hi < 1000) : MI yX12_readNumber cX12_readNumber 4 (some .int) 2 [.ref 97, .int x, .int z] n ρ I (fun v I1 => Sx I1 tb L (pb (pb s (rdNum tb L lo hi)) nd) ∧ (∀ q, pb s (rdNum tb L lo hi) = .inr q → v = nI q.1) ∧ Lx I I1) := by
  refine MG.of (by decide +kernel) (Nat.le_of_ble_eq_true rfl) hn9 ?_
  intro κ C hR
  show G κ n ρ 0 [(0, .ref 97), (1, .int x), (2, .int z)] [] I
  obtain ⟨mn, ⟨m0, m1, m5, m6, m7, m11, m12, m15⟩, ⟨m23, m24, m26, m27, m28, m30, m31, m32, m33⟩, ⟨m38, m39, m40, m42⟩⟩ := id hms
  have htt : ∀ p, p < L → tb p < 256 := fun p hp => (htb.2.2 p hp).2
  have hL3 := htb.2.1
  refine g_aload_n C (pc := 0) dX12_readNumber_0 0 rfl ?_
  refine g_iload_n C (pc := 1) dX12_readNumber_1 1 rfl ?_
  refine g_iload_n C (pc := 2) dX12_readNumber_2 2 rfl ?_
  refine g_callVI C (pc := 3) mf_X12_looked lk_RX12_159 (lkd_any hn9 hms htt hsx hx hz hlo hhi) (by decide) (Nat.le_refl _) rfl (by first | assumption | rfl | omega) rfl (by first | assumption | rfl | omega) (Nat.le_of_ble_eq_true rfl) dX12_readNumber_3 (fun v3 I3 h3 => ?_)
  obtain ⟨s3, n3, l3⟩ := h3
  refine g_istore_n C (pc := 6) dX12_readNumber_6 (by decide) (fun v6 => [(3, .int v6), (0, .ref 97), (1, .int x), (2, .int z)]) (fun _ => rfl) (fun v6 ev6 => ?_)
  refine g_aload_n C (pc := 7) dX12_readNumber_7 1 rfl ?_
  refine g_callVV C (pc := 8) mf_X12_next lk_RX12_163 (nxt_any hn9 hms (htb.lx l3.x) s3) (by decide) (Nat.le_refl _) rfl (by first | assumption | rfl | omega) rfl (by first | assumption | rfl | omega) (Nat.le_of_ble_eq_true rfl) dX12_readNumber_8 (fun I8 h8 => ?_)
  obtain ⟨s8, l8⟩ := h8
  refine g_iload_n C (pc := 11) dX12_readNumber_11 0 rfl ?_
  refine g_iret C hR (pc := 12) rfl dX12_readNumber_12 ?_
  refine ⟨rfl, _, rfl, ?_⟩
  exact ⟨s8, fun q hq => by rw [ev6]; exact n3 q hq, l3.x.trans l8⟩
set_option maxHeartbeats 1600000 in
theorem c_X12_readFree (n : Nat) (ρ : Rho) (I : Mem) (L : Nat) (tb : Nat → Nat) (s : PRs Nat) (D : DT) (hn9 : n ≤ 999) (hms : MS n ρ) (htb : TbM I L tb) (hsx : Sx I tb L s) (hdr : DrN I (dF D) (dB D)) : MI yX12_readFree cX12_readFree 4 (some .int) 2 [.ref 97] n ρ I (fun v I1 => Sx I1 tb L (pb (pb s (rdFree tb L D)) nd) ∧ (∀ q, pb s (rdFree tb L D) = .inr q → v = nI q.1 ∧ I1 97 14 = (if I 97 14 < nI q.1 then nI q.1 else I 97 14)) ∧ Ly I I1) := by
  refine MG.of (by decide +kernel) (Nat.le_of_ble_eq_true rfl) hn9 ?_
  intro κ C hR
  show G κ n ρ 0 [(0, .ref 97)] [] I
  obtain ⟨mn, ⟨m0, m1, m5, m6, m7, m11, m12, m15⟩, ⟨m23, m24, m26, m27, m28, m30, m31, m32, m33⟩, ⟨m38, m39, m40, m42⟩⟩ := id hms
  have htt : ∀ p, p < L → tb p < 256 := fun p hp => (htb.2.2 p hp).2
  have hL3 := htb.2.1
  obtain ⟨hrw, hbw, ⟨hW8, hH9, hN10⟩, hpc, hst, hod, ht18⟩ := id hdr
  have hn6 : rN (dF D) ≤ 6 := hrw.2.2.2.2.1
  refine g_aload_n C (pc := 0) dX12_readFree_0 0 rfl ?_
  refine g_iconst C (pc := 1) 0 dX12_readFree_1 (by decide) ?_
  refine g_bipush C (pc := 2) 24 dX12_readFree_2 (by decide) ?_
  refine g_callVI C (pc := 4) mf_X12_looked lk_RX12_159 (lkd_any (lo := 0) (hi := 24) hn9 hms htt hsx rfl rfl (by decide) (by decide)) (by decide) (Nat.le_refl _) rfl (by first | assumption | rfl | omega) rfl (by first | assumption | rfl | omega) (Nat.le_of_ble_eq_true rfl) dX12_readFree_4 (fun v4 I4 h4 => ?_)
  obtain ⟨s4, n4, l4⟩ := h4
  refine g_istore_n C (pc := 7) dX12_readFree_7 (by decide) (fun v7 => [(1, .int v7), (0, .ref 97)]) (fun _ => rfl) (fun v7 ev7 => ?_)
  refine g_aload_n C (pc := 8) dX12_readFree_8 1 rfl ?_
  refine g_getI C (pc := 9) fl_RX12_117 (by decide) (by first | assumption | rfl | omega) (by first | assumption | rfl | omega) dX12_readFree_9 ?_
  refine g_if_ne C (pc := 12) 79 dX12_readFree_12 (by decide) (fun c12 => ?_) (fun c12 => ?_)
  · obtain ⟨e9, hR1⟩ := cn_l (R := pb s (rdNum tb L 0 24)) (k := fun q => q.2.2) s4 c12
    have hRF : pb s (rdFree tb L D) = .inl e9 := by rw [rdFree_pb, hR1]; rfl
    have hTB : TbM I4 L tb := htb.lx l4.x
    have hCn : Cn I4 L (pb (pb s (rdFree tb L D)) nd) := by rw [hRF]; rw [hR1] at s4; exact s4
    have hLy : Ly I I4 := l4.x.y
    refine g_aload_n C (pc := 79) dX12_readFree_79 1 rfl ?_
    refine g_getI C (pc := 80) fl_RX12_117 (by decide) (by first | assumption | rfl | omega) (by first | assumption | rfl | omega) dX12_readFree_80 ?_
    refine g_if_ne C (pc := 83) 106 dX12_readFree_83 (by decide) (fun c83 => ?_) (fun c83 => ?_)
    · skip
      first
      | (obtain ⟨K, hK⟩ : ∃ K, K = wr I4 97 14 v7 := ⟨_, rfl⟩
         rw [← hK]
         have hK14 : K 97 14 = (if I 97 14 < nI q.1 then nI q.1 else I 97 14) := by
           rw [hK, wr_ss, if_pos (by rw [← hv7, ← l4.1 14 (by decide) (by decide)]; exact c92)]; exact hv7)
      | (obtain ⟨K, hK⟩ : ∃ K, K = wr I4 97 14 (I4 97 14) := ⟨_, rfl⟩
         rw [← hK]
         have hK14 : K 97 14 = (if I 97 14 < nI q.1 then nI q.1 else I 97 14) := by
           rw [hK, wr_ss, if_neg (by rw [← hv7, ← l4.1 14 (by decide) (by decide)]; exact Int32.not_lt.mpr c92)]; exact l4.1 14 (by decide) (by decide))
      | skip
      first
      | (have hLy : Ly I K := l4.x.y.trans ⟨fun z h1 h2 => by rw [hK, wr_sn h1], fun i hi => by rw [hK, wr_n hi]⟩
         have hTB : TbM K L tb := htb.ly hLy
         have hCn : Cn K L (pb (pb s (rdFree tb L D)) nd) := by
           rw [hRF2]
           exact ⟨by rw [hK, wr_sn (by decide)]; exact c12, by rw [hK, wr_sn (by decide)]; exact h17, hqL⟩)
      | skip
      refine g_aload_n C (pc := 106) dX12_readFree_106 1 rfl ?_
      refine g_callVV C (pc := 107) mf_X12_next lk_RX12_163 (nxt_any (s := pb (pb s (rdFree tb L D)) nd) hn9 hms hTB hCn) (by decide) (Nat.le_refl _) rfl (by first | assumption | rfl | omega) rfl (by first | assumption | rfl | omega) (Nat.le_of_ble_eq_true rfl) dX12_readFree_107 (fun I107 h107 => ?_)
      obtain ⟨s107, l107⟩ := h107
      refine g_iload_n C (pc := 110) dX12_readFree_110 0 rfl ?_
      refine g_iret C hR (pc := 111) rfl dX12_readFree_111 ?_
      refine ⟨rfl, _, rfl, ?_⟩
      refine ⟨s107, fun q9 hq9 => ?_, hLy.trans l107.y⟩
      first
      | (rw [hRF] at hq9; cases hq9; done)
      | (rw [hRF2] at hq9; cases hq9; done)
      | (rw [hRF2] at hq9
         cases hq9
         exact ⟨hv7, (l107.1 14 (by decide)).trans hK14⟩)
    · exact absurd c83 c12
  · obtain ⟨q, hR1, h17, hqL⟩ := cn_r (R := pb s (rdNum tb L 0 24)) (k := fun q => q.2.2) s4 c12
    obtain ⟨hq0, hq24, -, hat, -⟩ := num_at hsx hR1
    have hv7 : v7 = nI q.1 := ev7.trans (n4 q hR1)
    have hRF : pb s (rdFree tb L D) = fre D q := by rw [rdFree_pb, hR1]; rfl
    have g102 : I4 102 = I 102 := l4.2 102 (by decide)
    have hN4 : I4 97 10 = nI (rN (dF D)) := (l4.1 10 (by decide) (by decide)).trans hN10
    have h18 : I4 97 18 = nI q.2.1 := (l4.1 18 (by decide) (by decide)).trans hat
    have hbs : bt (I4 102 12 >>> (v7 &&& 31)) 0 = rS (dF D) q.1 := by
      rw [hv7, g102]
      refine (b_sshr q.1 (by omega) _ (by decide)).trans ?_
      rw [if_pos (by omega)]; exact hst q.1 (by omega)
    refine g_aload_n C (pc := 15) dX12_readFree_15 1 rfl ?_
    refine g_getR C (pc := 16) fl_RX12_23 (by decide) (by first | assumption | rfl | omega) (by first | assumption | rfl | omega) (by first | assumption | rfl | omega) dX12_readFree_16 ?_
    refine g_bipush C (pc := 19) 12 dX12_readFree_19 (by decide) ?_
    refine g_iald C (pc := 21) (by first | assumption | rfl | omega) (by first | assumption | rfl | omega) (vp_in_nI (n := 12) (by decide) (by decide)) dX12_readFree_21 ?_
    refine g_iload_n C (pc := 22) dX12_readFree_22 0 rfl ?_
    refine g_ishr C (pc := 23) dX12_readFree_23 ?_
    refine g_iconst C (pc := 24) 1 dX12_readFree_24 (by decide) ?_
    refine g_iand C (pc := 25) dX12_readFree_25 ?_
    refine g_if_ne C (pc := 26) 33 dX12_readFree_26 (by decide) (fun c26 => ?_) (fun c26 => ?_)
    · have h34a : (0 : Int32) = bI (freB (dF D) (dB D) q.1 0 = true) := by
        have h9 : rS (dF D) q.1 = true := by
          cases h8 : rS (dF D) q.1 with
          | true => rfl
          | false => exact absurd (and_1.mpr (hbs.trans h8)) c26
        rw [bI_f (show ¬ freB (dF D) (dB D) q.1 0 = true by unfold freB; rw [h9]; simp)]
      refine g_iconst C (pc := 33) 0 dX12_readFree_33 (by decide) ?_
      refine g_istore_n C (pc := 34) dX12_readFree_34 (by decide) (fun v34 => [(2, .int v34), (1, .int v7), (0, .ref 97)]) (fun _ => rfl) (fun v34 ev34 => ?_)
      have h34 : v34 = bI (freB (dF D) (dB D) q.1 0 = true) := ev34.trans h34a
      refine g_iconst C (pc := 35) 0 dX12_readFree_35 (by decide) ?_
      refine g_istore_n C (pc := 36) dX12_readFree_36 (by decide) (fun v36 => [(3, .int v36), (2, .int v34), (1, .int v7), (0, .ref 97)]) (fun _ => rfl) (fun v36 ev36 => ?_)
      have L37 : ∀ (k9 : Nat) (j : Nat)  (wz3 : Int32) (wz2 : Int32) (hw3 : wz3 = nI j) (hj : j ≤ rN (dF D)) (hc : wz2 = bI (freB (dF D) (dB D) q.1 j = true)), rN (dF D) - j < k9 → G κ n ρ 37 [(3, .int wz3), (2, .int wz2), (0, .ref 97), (1, .int v7)] [] I4 := by
        intro k9
        induction k9 with
        | zero => intro j wz3 wz2 hw3 hj hc hm37; exact absurd hm37 (Nat.not_lt_zero _)
        | succ k9 ih37 =>
          intro j wz3 wz2 hw3 hj hc hm37
          subst hw3
          refine g_iload_n C (pc := 37) dX12_readFree_37 0 rfl ?_
          refine g_aload_n C (pc := 38) dX12_readFree_38 2 rfl ?_
          refine g_getI C (pc := 39) fl_RX12_90 (by decide) (by first | assumption | rfl | omega) (by first | assumption | rfl | omega) dX12_readFree_39 ?_
          refine g_icmp_ge C (pc := 42) 73 dX12_readFree_42 (by decide) (fun c42 => ?_) (fun c42 => ?_)
          · rw [hN4, nI_leI (by omega) (by omega)] at c42
            have hjN : j = rN (dF D) := by omega
            subst hjN
            refine g_aload_n C (pc := 73) dX12_readFree_73 2 rfl ?_
            refine g_iload_n C (pc := 74) dX12_readFree_74 1 rfl ?_
            refine g_iconst C (pc := 75) 4 dX12_readFree_75 (by decide) ?_
            refine g_callVV C (pc := 76) mf_X12_needs lk_RX12_155 (c_X12_needs n ρ I4 wz2 4 hn9 hms) (by decide) (Nat.le_refl _) rfl (by first | assumption | rfl | omega) rfl (by first | assumption | rfl | omega) (Nat.le_of_ble_eq_true rfl) dX12_readFree_76 (fun I76 h76 => ?_)
            obtain h76 := h76
            have hff : wz2 = 0 ∨ wz2 ≠ 0 := Decidable.em _
            have h4f : I4 97 21 = 0 := c12
            refine g_aload_n C (pc := 79) dX12_readFree_79 2 rfl ?_
            refine g_getI C (pc := 80) fl_RX12_117 (by decide) (by first | assumption | rfl | omega) (by first | assumption | rfl | omega) dX12_readFree_80 ?_
            refine g_if_ne C (pc := 83) 106 dX12_readFree_83 (by decide) (fun c83 => ?_) (fun c83 => ?_)
            · have hbad : freB (dF D) (dB D) q.1 (rN (dF D)) ≠ true := by
                intro h9
                rw [if_neg (fun h => bI_0.mp (hc.symm.trans h.1) h9)] at h76
                rw [← h76] at c83
                exact c83 h4f
              rw [if_pos ⟨by rw [hc, bI_f hbad], h4f⟩] at h76
              have hRF2 : pb s (rdFree tb L D) = .inl (4, q.2.1) := by
                rw [hRF]; unfold fre; rw [if_neg (fun h => hbad (freB_t.mpr h))]
              have hl76 : Lx I I76 := by rw [← h76]; exact l4.x.trans ((Lx.w (by decide) (by decide)).trans (Lx.w (by decide) (by decide)))
              have hTB : TbM I76 L tb := htb.lx hl76
              have hLy : Ly I I76 := hl76.y
              have hCn : Cn I76 L (pb (pb s (rdFree tb L D)) nd) := by
                rw [hRF2, ← h76]
                exact ⟨by rw [wr_sn (by decide), wr_ss]; rfl, by rw [wr_ss]; exact h18, (show 1 ≤ 4 by decide), (show 4 ≤ 8 by decide)⟩
              first
              | (obtain ⟨K, hK⟩ : ∃ K, K = wr I4 97 14 v7 := ⟨_, rfl⟩
                 rw [← hK]
                 have hK14 : K 97 14 = (if I 97 14 < nI q.1 then nI q.1 else I 97 14) := by
                   rw [hK, wr_ss, if_pos (by rw [← hv7, ← l4.1 14 (by decide) (by decide)]; exact c92)]; exact hv7)
              | (obtain ⟨K, hK⟩ : ∃ K, K = wr I4 97 14 (I4 97 14) := ⟨_, rfl⟩
                 rw [← hK]
                 have hK14 : K 97 14 = (if I 97 14 < nI q.1 then nI q.1 else I 97 14) := by
                   rw [hK, wr_ss, if_neg (by rw [← hv7, ← l4.1 14 (by decide) (by decide)]; exact Int32.not_lt.mpr c92)]; exact l4.1 14 (by decide) (by decide))
              | skip
              first
              | (have hLy : Ly I K := l4.x.y.trans ⟨fun z h1 h2 => by rw [hK, wr_sn h1], fun i hi => by rw [hK, wr_n hi]⟩
                 have hTB : TbM K L tb := htb.ly hLy
                 have hCn : Cn K L (pb (pb s (rdFree tb L D)) nd) := by
                   rw [hRF2]
                   exact ⟨by rw [hK, wr_sn (by decide)]; exact c12, by rw [hK, wr_sn (by decide)]; exact h17, hqL⟩)
              | skip
              refine g_aload_n C (pc := 106) dX12_readFree_106 2 rfl ?_
              refine g_callVV C (pc := 107) mf_X12_next lk_RX12_163 (nxt_any (s := pb (pb s (rdFree tb L D)) nd) hn9 hms hTB hCn) (by decide) (Nat.le_refl _) rfl (by first | assumption | rfl | omega) rfl (by first | assumption | rfl | omega) (Nat.le_of_ble_eq_true rfl) dX12_readFree_107 (fun I107 h107 => ?_)
              obtain ⟨s107, l107⟩ := h107
              refine g_iload_n C (pc := 110) dX12_readFree_110 3 rfl ?_
              refine g_iret C hR (pc := 111) rfl dX12_readFree_111 ?_
              refine ⟨rfl, _, rfl, ?_⟩
              refine ⟨s107, fun q9 hq9 => ?_, hLy.trans l107.y⟩
              first
              | (rw [hRF] at hq9; cases hq9; done)
              | (rw [hRF2] at hq9; cases hq9; done)
              | (rw [hRF2] at hq9
                 cases hq9
                 exact ⟨hv7, (l107.1 14 (by decide)).trans hK14⟩)
            · have hgd : freB (dF D) (dB D) q.1 (rN (dF D)) = true := by
                cases h9 : freB (dF D) (dB D) q.1 (rN (dF D)) with
                | true => rfl
                | false =>
                  rw [if_pos ⟨by rw [hc, h9]; rfl, h4f⟩] at h76
                  rw [← h76] at c83
                  exact absurd c83 (by rw [wr_sn (by decide), wr_ss]; decide)
              rw [if_neg (fun h => bI_0.mp (hc.symm.trans h.1) hgd)] at h76
              subst h76
              have hRF2 : pb s (rdFree tb L D) = .inr q := by
                rw [hRF]; unfold fre; rw [if_pos (freB_t.mp hgd)]
              refine g_aload_n C (pc := 86) dX12_readFree_86 2 rfl ?_
              refine g_iload_n C (pc := 87) dX12_readFree_87 3 rfl ?_
              refine g_aload_n C (pc := 88) dX12_readFree_88 2 rfl ?_
              refine g_getI C (pc := 89) fl_RX12_96 (by decide) (by first | assumption | rfl | omega) (by first | assumption | rfl | omega) dX12_readFree_89 ?_
              refine g_icmp_le C (pc := 92) 99 dX12_readFree_92 (by decide) (fun c92 => ?_) (fun c92 => ?_)
              · refine g_aload_n C (pc := 99) dX12_readFree_99 2 rfl ?_
                refine g_getI C (pc := 100) fl_RX12_96 (by decide) (by first | assumption | rfl | omega) (by first | assumption | rfl | omega) dX12_readFree_100 ?_
                refine g_putI C (pc := 103) fl_RX12_96 (by decide) fp_11_14 (Or.inl rfl) ⟨rfl, rfl⟩ (by first | assumption | rfl | omega) (by first | assumption | rfl | omega) hn9 dX12_readFree_103 ?_
                first
                | (obtain ⟨K, hK⟩ : ∃ K, K = wr I4 97 14 v7 := ⟨_, rfl⟩
                   rw [← hK]
                   have hK14 : K 97 14 = (if I 97 14 < nI q.1 then nI q.1 else I 97 14) := by
                     rw [hK, wr_ss, if_pos (by rw [← hv7, ← l4.1 14 (by decide) (by decide)]; exact c92)]; exact hv7)
                | (obtain ⟨K, hK⟩ : ∃ K, K = wr I4 97 14 (I4 97 14) := ⟨_, rfl⟩
                   rw [← hK]
                   have hK14 : K 97 14 = (if I 97 14 < nI q.1 then nI q.1 else I 97 14) := by
                     rw [hK, wr_ss, if_neg (by rw [← hv7, ← l4.1 14 (by decide) (by decide)]; exact Int32.not_lt.mpr c92)]; exact l4.1 14 (by decide) (by decide))
                | skip
                first
                | (have hLy : Ly I K := l4.x.y.trans ⟨fun z h1 h2 => by rw [hK, wr_sn h1], fun i hi => by rw [hK, wr_n hi]⟩
                   have hTB : TbM K L tb := htb.ly hLy
                   have hCn : Cn K L (pb (pb s (rdFree tb L D)) nd) := by
                     rw [hRF2]
                     exact ⟨by rw [hK, wr_sn (by decide)]; exact c12, by rw [hK, wr_sn (by decide)]; exact h17, hqL⟩)
                | skip
                refine g_aload_n C (pc := 106) dX12_readFree_106 2 rfl ?_
                refine g_callVV C (pc := 107) mf_X12_next lk_RX12_163 (nxt_any (s := pb (pb s (rdFree tb L D)) nd) hn9 hms hTB hCn) (by decide) (Nat.le_refl _) rfl (by first | assumption | rfl | omega) rfl (by first | assumption | rfl | omega) (Nat.le_of_ble_eq_true rfl) dX12_readFree_107 (fun I107 h107 => ?_)
                obtain ⟨s107, l107⟩ := h107
                refine g_iload_n C (pc := 110) dX12_readFree_110 3 rfl ?_
                refine g_iret C hR (pc := 111) rfl dX12_readFree_111 ?_
                refine ⟨rfl, _, rfl, ?_⟩
                refine ⟨s107, fun q9 hq9 => ?_, hLy.trans l107.y⟩
                first
                | (rw [hRF] at hq9; cases hq9; done)
                | (rw [hRF2] at hq9; cases hq9; done)
                | (rw [hRF2] at hq9
                   cases hq9
                   exact ⟨hv7, (l107.1 14 (by decide)).trans hK14⟩)
              · refine g_iload_n C (pc := 95) dX12_readFree_95 3 rfl ?_
                refine g_goto C (pc := 96) 103 dX12_readFree_96 (by decide) ?_
                refine g_putI C (pc := 103) fl_RX12_96 (by decide) fp_11_14 (Or.inl rfl) ⟨rfl, rfl⟩ (by first | assumption | rfl | omega) (by first | assumption | rfl | omega) hn9 dX12_readFree_103 ?_
                first
                | (obtain ⟨K, hK⟩ : ∃ K, K = wr I4 97 14 v7 := ⟨_, rfl⟩
                   rw [← hK]
                   have hK14 : K 97 14 = (if I 97 14 < nI q.1 then nI q.1 else I 97 14) := by
                     rw [hK, wr_ss, if_pos (by rw [← hv7, ← l4.1 14 (by decide) (by decide)]; exact c92)]; exact hv7)
                | (obtain ⟨K, hK⟩ : ∃ K, K = wr I4 97 14 (I4 97 14) := ⟨_, rfl⟩
                   rw [← hK]
                   have hK14 : K 97 14 = (if I 97 14 < nI q.1 then nI q.1 else I 97 14) := by
                     rw [hK, wr_ss, if_neg (by rw [← hv7, ← l4.1 14 (by decide) (by decide)]; exact Int32.not_lt.mpr c92)]; exact l4.1 14 (by decide) (by decide))
                | skip
                first
                | (have hLy : Ly I K := l4.x.y.trans ⟨fun z h1 h2 => by rw [hK, wr_sn h1], fun i hi => by rw [hK, wr_n hi]⟩
                   have hTB : TbM K L tb := htb.ly hLy
                   have hCn : Cn K L (pb (pb s (rdFree tb L D)) nd) := by
                     rw [hRF2]
                     exact ⟨by rw [hK, wr_sn (by decide)]; exact c12, by rw [hK, wr_sn (by decide)]; exact h17, hqL⟩)
                | skip
                refine g_aload_n C (pc := 106) dX12_readFree_106 2 rfl ?_
                refine g_callVV C (pc := 107) mf_X12_next lk_RX12_163 (nxt_any (s := pb (pb s (rdFree tb L D)) nd) hn9 hms hTB hCn) (by decide) (Nat.le_refl _) rfl (by first | assumption | rfl | omega) rfl (by first | assumption | rfl | omega) (Nat.le_of_ble_eq_true rfl) dX12_readFree_107 (fun I107 h107 => ?_)
                obtain ⟨s107, l107⟩ := h107
                refine g_iload_n C (pc := 110) dX12_readFree_110 3 rfl ?_
                refine g_iret C hR (pc := 111) rfl dX12_readFree_111 ?_
                refine ⟨rfl, _, rfl, ?_⟩
                refine ⟨s107, fun q9 hq9 => ?_, hLy.trans l107.y⟩
                first
                | (rw [hRF] at hq9; cases hq9; done)
                | (rw [hRF2] at hq9; cases hq9; done)
                | (rw [hRF2] at hq9
                   cases hq9
                   exact ⟨hv7, (l107.1 14 (by decide)).trans hK14⟩)
          · rw [hN4, nI_ltI (by omega) (by omega)] at c42
            refine g_iload_n C (pc := 45) dX12_readFree_45 1 rfl ?_
            refine g_if_eq C (pc := 46) 65 dX12_readFree_46 (by decide) (fun c46 => ?_) (fun c46 => ?_)
            · have hc0 : freB (dF D) (dB D) q.1 j = false := by
                cases h9 : freB (dF D) (dB D) q.1 j with
                | false => rfl
                | true => exact absurd h9 (bI_0.mp (hc.symm.trans c46))
              refine g_iconst C (pc := 65) 0 dX12_readFree_65 (by decide) ?_
              refine g_istore_n C (pc := 66) dX12_readFree_66 (by decide) (fun v66 => [(2, .int v66), (3, .int (nI j)), (0, .ref 97), (1, .int v7)]) (fun _ => rfl) (fun v66 ev66 => ?_)
              refine g_iinc C (pc := 67) (1) dX12_readFree_67 1 rfl (by decide) (by decide) (fun v67 => [(3, .int v67), (2, .int v66), (0, .ref 97), (1, .int v7)]) (fun _ => rfl) (fun v67 ev67 => ?_)
              refine g_goto C (pc := 70) 37 dX12_readFree_70 (by decide) ?_
              refine g_lv C [0, 1, 2, 3] rfl (ih37 (j + 1)  _ _ ?_ ?_ ?_ (by omega))
              · subst_vars; exact nI_1 _
              · omega
              · rw [ev66]
                first
                | (rw [bI_f (show ¬ freB (dF D) (dB D) q.1 (j + 1) = true by rw [freB_s, hc0]; simp)]; done)
                | (rw [bI_t (show freB (dF D) (dB D) q.1 (j + 1) = true by rw [freB_s, hc1, hne]; rfl)]; done)
                | (rw [bI_f (show ¬ freB (dF D) (dB D) q.1 (j + 1) = true by rw [freB_s, heq]; simp)]; done)
            · have hc1 : freB (dF D) (dB D) q.1 j = true := bI_1.mp (fun h => c46 (hc.trans h))
              refine g_aload_n C (pc := 49) dX12_readFree_49 2 rfl ?_
              refine g_getR C (pc := 50) fl_RX12_23 (by decide) (by first | assumption | rfl | omega) (by first | assumption | rfl | omega) (by first | assumption | rfl | omega) dX12_readFree_50 ?_
              refine g_iconst C (pc := 53) 0 dX12_readFree_53 (by decide) ?_
              refine g_iload_n C (pc := 54) dX12_readFree_54 0 rfl ?_
              refine g_iadd C (pc := 55) dX12_readFree_55 ?_
              refine g_iald C (pc := 56) (by first | assumption | rfl | omega) (by first | assumption | rfl | omega) (by rw [Int32.zero_add]; exact vp_in_nI (by omega) (by decide)) dX12_readFree_56 ?_
              rw [Int32.zero_add, nI_clamp (show j < 2 ^ 31 by omega), g102, (hpc j (by omega)).2.1]
              refine g_iload_n C (pc := 57) dX12_readFree_57 3 rfl ?_
              refine g_icmp_eq C (pc := 58) 65 dX12_readFree_58 (by decide) (fun c58 => ?_) (fun c58 => ?_)
              · have heq : (bP (dB D) j == some q.1) = true := by
                  rw [(oI_nI (pl_lt hbw (by omega)) (by omega)).mp (c58.trans hv7)]; exact beq_self_eq_true _
                refine g_iconst C (pc := 65) 0 dX12_readFree_65 (by decide) ?_
                refine g_istore_n C (pc := 66) dX12_readFree_66 (by decide) (fun v66 => [(2, .int v66), (3, .int (nI j)), (0, .ref 97), (1, .int v7)]) (fun _ => rfl) (fun v66 ev66 => ?_)
                refine g_iinc C (pc := 67) (1) dX12_readFree_67 1 rfl (by decide) (by decide) (fun v67 => [(3, .int v67), (2, .int v66), (0, .ref 97), (1, .int v7)]) (fun _ => rfl) (fun v67 ev67 => ?_)
                refine g_goto C (pc := 70) 37 dX12_readFree_70 (by decide) ?_
                refine g_lv C [0, 1, 2, 3] rfl (ih37 (j + 1)  _ _ ?_ ?_ ?_ (by omega))
                · subst_vars; exact nI_1 _
                · omega
                · rw [ev66]
                  first
                  | (rw [bI_f (show ¬ freB (dF D) (dB D) q.1 (j + 1) = true by rw [freB_s, hc0]; simp)]; done)
                  | (rw [bI_t (show freB (dF D) (dB D) q.1 (j + 1) = true by rw [freB_s, hc1, hne]; rfl)]; done)
                  | (rw [bI_f (show ¬ freB (dF D) (dB D) q.1 (j + 1) = true by rw [freB_s, heq]; simp)]; done)
              · have hne : (bP (dB D) j == some q.1) = false := by
                  cases h9 : (bP (dB D) j == some q.1) with
                  | false => rfl
                  | true => exact absurd (((oI_nI (pl_lt hbw (by omega)) (by omega)).mpr (by simpa using h9)).trans hv7.symm) c58
                refine g_iconst C (pc := 61) 1 dX12_readFree_61 (by decide) ?_
                refine g_goto C (pc := 62) 66 dX12_readFree_62 (by decide) ?_
                refine g_istore_n C (pc := 66) dX12_readFree_66 (by decide) (fun v66 => [(2, .int v66), (3, .int (nI j)), (0, .ref 97), (1, .int v7)]) (fun _ => rfl) (fun v66 ev66 => ?_)
                refine g_iinc C (pc := 67) (1) dX12_readFree_67 1 rfl (by decide) (by decide) (fun v67 => [(3, .int v67), (2, .int v66), (0, .ref 97), (1, .int v7)]) (fun _ => rfl) (fun v67 ev67 => ?_)
                refine g_goto C (pc := 70) 37 dX12_readFree_70 (by decide) ?_
                refine g_lv C [0, 1, 2, 3] rfl (ih37 (j + 1)  _ _ ?_ ?_ ?_ (by omega))
                · subst_vars; exact nI_1 _
                · omega
                · rw [ev66]
                  first
                  | (rw [bI_f (show ¬ freB (dF D) (dB D) q.1 (j + 1) = true by rw [freB_s, hc0]; simp)]; done)
                  | (rw [bI_t (show freB (dF D) (dB D) q.1 (j + 1) = true by rw [freB_s, hc1, hne]; rfl)]; done)
                  | (rw [bI_f (show ¬ freB (dF D) (dB D) q.1 (j + 1) = true by rw [freB_s, heq]; simp)]; done)
      refine g_lv C [0, 1, 3, 2] rfl (L37 (_ + 1) 0  _ _ ?_ ?_ ?_ (by first | omega | exact Nat.lt_succ_self _))
      · assumption
      · omega
      · exact h34
    · have h34a : (1 : Int32) = bI (freB (dF D) (dB D) q.1 0 = true) := by
        have h9 : rS (dF D) q.1 = false := hbs.symm.trans (and_1.mp c26)
        rw [bI_t (show freB (dF D) (dB D) q.1 0 = true by unfold freB; rw [h9]; rfl)]
      refine g_iconst C (pc := 29) 1 dX12_readFree_29 (by decide) ?_
      refine g_goto C (pc := 30) 34 dX12_readFree_30 (by decide) ?_
      refine g_istore_n C (pc := 34) dX12_readFree_34 (by decide) (fun v34 => [(2, .int v34), (1, .int v7), (0, .ref 97)]) (fun _ => rfl) (fun v34 ev34 => ?_)
      have h34 : v34 = bI (freB (dF D) (dB D) q.1 0 = true) := ev34.trans h34a
      refine g_iconst C (pc := 35) 0 dX12_readFree_35 (by decide) ?_
      refine g_istore_n C (pc := 36) dX12_readFree_36 (by decide) (fun v36 => [(3, .int v36), (2, .int v34), (1, .int v7), (0, .ref 97)]) (fun _ => rfl) (fun v36 ev36 => ?_)
      have L37 : ∀ (k9 : Nat) (j : Nat)  (wz3 : Int32) (wz2 : Int32) (hw3 : wz3 = nI j) (hj : j ≤ rN (dF D)) (hc : wz2 = bI (freB (dF D) (dB D) q.1 j = true)), rN (dF D) - j < k9 → G κ n ρ 37 [(3, .int wz3), (2, .int wz2), (0, .ref 97), (1, .int v7)] [] I4 := by
        intro k9
        induction k9 with
        | zero => intro j wz3 wz2 hw3 hj hc hm37; exact absurd hm37 (Nat.not_lt_zero _)
        | succ k9 ih37 =>
          intro j wz3 wz2 hw3 hj hc hm37
          subst hw3
          refine g_iload_n C (pc := 37) dX12_readFree_37 0 rfl ?_
          refine g_aload_n C (pc := 38) dX12_readFree_38 2 rfl ?_
          refine g_getI C (pc := 39) fl_RX12_90 (by decide) (by first | assumption | rfl | omega) (by first | assumption | rfl | omega) dX12_readFree_39 ?_
          refine g_icmp_ge C (pc := 42) 73 dX12_readFree_42 (by decide) (fun c42 => ?_) (fun c42 => ?_)
          · rw [hN4, nI_leI (by omega) (by omega)] at c42
            have hjN : j = rN (dF D) := by omega
            subst hjN
            refine g_aload_n C (pc := 73) dX12_readFree_73 2 rfl ?_
            refine g_iload_n C (pc := 74) dX12_readFree_74 1 rfl ?_
            refine g_iconst C (pc := 75) 4 dX12_readFree_75 (by decide) ?_
            refine g_callVV C (pc := 76) mf_X12_needs lk_RX12_155 (c_X12_needs n ρ I4 wz2 4 hn9 hms) (by decide) (Nat.le_refl _) rfl (by first | assumption | rfl | omega) rfl (by first | assumption | rfl | omega) (Nat.le_of_ble_eq_true rfl) dX12_readFree_76 (fun I76 h76 => ?_)
            obtain h76 := h76
            have hff : wz2 = 0 ∨ wz2 ≠ 0 := Decidable.em _
            have h4f : I4 97 21 = 0 := c12
            refine g_aload_n C (pc := 79) dX12_readFree_79 2 rfl ?_
            refine g_getI C (pc := 80) fl_RX12_117 (by decide) (by first | assumption | rfl | omega) (by first | assumption | rfl | omega) dX12_readFree_80 ?_
            refine g_if_ne C (pc := 83) 106 dX12_readFree_83 (by decide) (fun c83 => ?_) (fun c83 => ?_)
            · have hbad : freB (dF D) (dB D) q.1 (rN (dF D)) ≠ true := by
                intro h9
                rw [if_neg (fun h => bI_0.mp (hc.symm.trans h.1) h9)] at h76
                rw [← h76] at c83
                exact c83 h4f
              rw [if_pos ⟨by rw [hc, bI_f hbad], h4f⟩] at h76
              have hRF2 : pb s (rdFree tb L D) = .inl (4, q.2.1) := by
                rw [hRF]; unfold fre; rw [if_neg (fun h => hbad (freB_t.mpr h))]
              have hl76 : Lx I I76 := by rw [← h76]; exact l4.x.trans ((Lx.w (by decide) (by decide)).trans (Lx.w (by decide) (by decide)))
              have hTB : TbM I76 L tb := htb.lx hl76
              have hLy : Ly I I76 := hl76.y
              have hCn : Cn I76 L (pb (pb s (rdFree tb L D)) nd) := by
                rw [hRF2, ← h76]
                exact ⟨by rw [wr_sn (by decide), wr_ss]; rfl, by rw [wr_ss]; exact h18, (show 1 ≤ 4 by decide), (show 4 ≤ 8 by decide)⟩
              first
              | (obtain ⟨K, hK⟩ : ∃ K, K = wr I4 97 14 v7 := ⟨_, rfl⟩
                 rw [← hK]
                 have hK14 : K 97 14 = (if I 97 14 < nI q.1 then nI q.1 else I 97 14) := by
                   rw [hK, wr_ss, if_pos (by rw [← hv7, ← l4.1 14 (by decide) (by decide)]; exact c92)]; exact hv7)
              | (obtain ⟨K, hK⟩ : ∃ K, K = wr I4 97 14 (I4 97 14) := ⟨_, rfl⟩
                 rw [← hK]
                 have hK14 : K 97 14 = (if I 97 14 < nI q.1 then nI q.1 else I 97 14) := by
                   rw [hK, wr_ss, if_neg (by rw [← hv7, ← l4.1 14 (by decide) (by decide)]; exact Int32.not_lt.mpr c92)]; exact l4.1 14 (by decide) (by decide))
              | skip
              first
              | (have hLy : Ly I K := l4.x.y.trans ⟨fun z h1 h2 => by rw [hK, wr_sn h1], fun i hi => by rw [hK, wr_n hi]⟩
                 have hTB : TbM K L tb := htb.ly hLy
                 have hCn : Cn K L (pb (pb s (rdFree tb L D)) nd) := by
                   rw [hRF2]
                   exact ⟨by rw [hK, wr_sn (by decide)]; exact c12, by rw [hK, wr_sn (by decide)]; exact h17, hqL⟩)
              | skip
              refine g_aload_n C (pc := 106) dX12_readFree_106 2 rfl ?_
              refine g_callVV C (pc := 107) mf_X12_next lk_RX12_163 (nxt_any (s := pb (pb s (rdFree tb L D)) nd) hn9 hms hTB hCn) (by decide) (Nat.le_refl _) rfl (by first | assumption | rfl | omega) rfl (by first | assumption | rfl | omega) (Nat.le_of_ble_eq_true rfl) dX12_readFree_107 (fun I107 h107 => ?_)
              obtain ⟨s107, l107⟩ := h107
              refine g_iload_n C (pc := 110) dX12_readFree_110 3 rfl ?_
              refine g_iret C hR (pc := 111) rfl dX12_readFree_111 ?_
              refine ⟨rfl, _, rfl, ?_⟩
              refine ⟨s107, fun q9 hq9 => ?_, hLy.trans l107.y⟩
              first
              | (rw [hRF] at hq9; cases hq9; done)
              | (rw [hRF2] at hq9; cases hq9; done)
              | (rw [hRF2] at hq9
                 cases hq9
                 exact ⟨hv7, (l107.1 14 (by decide)).trans hK14⟩)
            · have hgd : freB (dF D) (dB D) q.1 (rN (dF D)) = true := by
                cases h9 : freB (dF D) (dB D) q.1 (rN (dF D)) with
                | true => rfl
                | false =>
                  rw [if_pos ⟨by rw [hc, h9]; rfl, h4f⟩] at h76
                  rw [← h76] at c83
                  exact absurd c83 (by rw [wr_sn (by decide), wr_ss]; decide)
              rw [if_neg (fun h => bI_0.mp (hc.symm.trans h.1) hgd)] at h76
              subst h76
              have hRF2 : pb s (rdFree tb L D) = .inr q := by
                rw [hRF]; unfold fre; rw [if_pos (freB_t.mp hgd)]
              refine g_aload_n C (pc := 86) dX12_readFree_86 2 rfl ?_
              refine g_iload_n C (pc := 87) dX12_readFree_87 3 rfl ?_
              refine g_aload_n C (pc := 88) dX12_readFree_88 2 rfl ?_
              refine g_getI C (pc := 89) fl_RX12_96 (by decide) (by first | assumption | rfl | omega) (by first | assumption | rfl | omega) dX12_readFree_89 ?_
              refine g_icmp_le C (pc := 92) 99 dX12_readFree_92 (by decide) (fun c92 => ?_) (fun c92 => ?_)
              · refine g_aload_n C (pc := 99) dX12_readFree_99 2 rfl ?_
                refine g_getI C (pc := 100) fl_RX12_96 (by decide) (by first | assumption | rfl | omega) (by first | assumption | rfl | omega) dX12_readFree_100 ?_
                refine g_putI C (pc := 103) fl_RX12_96 (by decide) fp_11_14 (Or.inl rfl) ⟨rfl, rfl⟩ (by first | assumption | rfl | omega) (by first | assumption | rfl | omega) hn9 dX12_readFree_103 ?_
                first
                | (obtain ⟨K, hK⟩ : ∃ K, K = wr I4 97 14 v7 := ⟨_, rfl⟩
                   rw [← hK]
                   have hK14 : K 97 14 = (if I 97 14 < nI q.1 then nI q.1 else I 97 14) := by
                     rw [hK, wr_ss, if_pos (by rw [← hv7, ← l4.1 14 (by decide) (by decide)]; exact c92)]; exact hv7)
                | (obtain ⟨K, hK⟩ : ∃ K, K = wr I4 97 14 (I4 97 14) := ⟨_, rfl⟩
                   rw [← hK]
                   have hK14 : K 97 14 = (if I 97 14 < nI q.1 then nI q.1 else I 97 14) := by
                     rw [hK, wr_ss, if_neg (by rw [← hv7, ← l4.1 14 (by decide) (by decide)]; exact Int32.not_lt.mpr c92)]; exact l4.1 14 (by decide) (by decide))
                | skip
                first
                | (have hLy : Ly I K := l4.x.y.trans ⟨fun z h1 h2 => by rw [hK, wr_sn h1], fun i hi => by rw [hK, wr_n hi]⟩
                   have hTB : TbM K L tb := htb.ly hLy
                   have hCn : Cn K L (pb (pb s (rdFree tb L D)) nd) := by
                     rw [hRF2]
                     exact ⟨by rw [hK, wr_sn (by decide)]; exact c12, by rw [hK, wr_sn (by decide)]; exact h17, hqL⟩)
                | skip
                refine g_aload_n C (pc := 106) dX12_readFree_106 2 rfl ?_
                refine g_callVV C (pc := 107) mf_X12_next lk_RX12_163 (nxt_any (s := pb (pb s (rdFree tb L D)) nd) hn9 hms hTB hCn) (by decide) (Nat.le_refl _) rfl (by first | assumption | rfl | omega) rfl (by first | assumption | rfl | omega) (Nat.le_of_ble_eq_true rfl) dX12_readFree_107 (fun I107 h107 => ?_)
                obtain ⟨s107, l107⟩ := h107
                refine g_iload_n C (pc := 110) dX12_readFree_110 3 rfl ?_
                refine g_iret C hR (pc := 111) rfl dX12_readFree_111 ?_
                refine ⟨rfl, _, rfl, ?_⟩
                refine ⟨s107, fun q9 hq9 => ?_, hLy.trans l107.y⟩
                first
                | (rw [hRF] at hq9; cases hq9; done)
                | (rw [hRF2] at hq9; cases hq9; done)
                | (rw [hRF2] at hq9
                   cases hq9
                   exact ⟨hv7, (l107.1 14 (by decide)).trans hK14⟩)
              · refine g_iload_n C (pc := 95) dX12_readFree_95 3 rfl ?_
                refine g_goto C (pc := 96) 103 dX12_readFree_96 (by decide) ?_
                refine g_putI C (pc := 103) fl_RX12_96 (by decide) fp_11_14 (Or.inl rfl) ⟨rfl, rfl⟩ (by first | assumption | rfl | omega) (by first | assumption | rfl | omega) hn9 dX12_readFree_103 ?_
                first
                | (obtain ⟨K, hK⟩ : ∃ K, K = wr I4 97 14 v7 := ⟨_, rfl⟩
                   rw [← hK]
                   have hK14 : K 97 14 = (if I 97 14 < nI q.1 then nI q.1 else I 97 14) := by
                     rw [hK, wr_ss, if_pos (by rw [← hv7, ← l4.1 14 (by decide) (by decide)]; exact c92)]; exact hv7)
                | (obtain ⟨K, hK⟩ : ∃ K, K = wr I4 97 14 (I4 97 14) := ⟨_, rfl⟩
                   rw [← hK]
                   have hK14 : K 97 14 = (if I 97 14 < nI q.1 then nI q.1 else I 97 14) := by
                     rw [hK, wr_ss, if_neg (by rw [← hv7, ← l4.1 14 (by decide) (by decide)]; exact Int32.not_lt.mpr c92)]; exact l4.1 14 (by decide) (by decide))
                | skip
                first
                | (have hLy : Ly I K := l4.x.y.trans ⟨fun z h1 h2 => by rw [hK, wr_sn h1], fun i hi => by rw [hK, wr_n hi]⟩
                   have hTB : TbM K L tb := htb.ly hLy
                   have hCn : Cn K L (pb (pb s (rdFree tb L D)) nd) := by
                     rw [hRF2]
                     exact ⟨by rw [hK, wr_sn (by decide)]; exact c12, by rw [hK, wr_sn (by decide)]; exact h17, hqL⟩)
                | skip
                refine g_aload_n C (pc := 106) dX12_readFree_106 2 rfl ?_
                refine g_callVV C (pc := 107) mf_X12_next lk_RX12_163 (nxt_any (s := pb (pb s (rdFree tb L D)) nd) hn9 hms hTB hCn) (by decide) (Nat.le_refl _) rfl (by first | assumption | rfl | omega) rfl (by first | assumption | rfl | omega) (Nat.le_of_ble_eq_true rfl) dX12_readFree_107 (fun I107 h107 => ?_)
                obtain ⟨s107, l107⟩ := h107
                refine g_iload_n C (pc := 110) dX12_readFree_110 3 rfl ?_
                refine g_iret C hR (pc := 111) rfl dX12_readFree_111 ?_
                refine ⟨rfl, _, rfl, ?_⟩
                refine ⟨s107, fun q9 hq9 => ?_, hLy.trans l107.y⟩
                first
                | (rw [hRF] at hq9; cases hq9; done)
                | (rw [hRF2] at hq9; cases hq9; done)
                | (rw [hRF2] at hq9
                   cases hq9
                   exact ⟨hv7, (l107.1 14 (by decide)).trans hK14⟩)
          · rw [hN4, nI_ltI (by omega) (by omega)] at c42
            refine g_iload_n C (pc := 45) dX12_readFree_45 1 rfl ?_
            refine g_if_eq C (pc := 46) 65 dX12_readFree_46 (by decide) (fun c46 => ?_) (fun c46 => ?_)
            · have hc0 : freB (dF D) (dB D) q.1 j = false := by
                cases h9 : freB (dF D) (dB D) q.1 j with
                | false => rfl
                | true => exact absurd h9 (bI_0.mp (hc.symm.trans c46))
              refine g_iconst C (pc := 65) 0 dX12_readFree_65 (by decide) ?_
              refine g_istore_n C (pc := 66) dX12_readFree_66 (by decide) (fun v66 => [(2, .int v66), (3, .int (nI j)), (0, .ref 97), (1, .int v7)]) (fun _ => rfl) (fun v66 ev66 => ?_)
              refine g_iinc C (pc := 67) (1) dX12_readFree_67 1 rfl (by decide) (by decide) (fun v67 => [(3, .int v67), (2, .int v66), (0, .ref 97), (1, .int v7)]) (fun _ => rfl) (fun v67 ev67 => ?_)
              refine g_goto C (pc := 70) 37 dX12_readFree_70 (by decide) ?_
              refine g_lv C [0, 1, 2, 3] rfl (ih37 (j + 1)  _ _ ?_ ?_ ?_ (by omega))
              · subst_vars; exact nI_1 _
              · omega
              · rw [ev66]
                first
                | (rw [bI_f (show ¬ freB (dF D) (dB D) q.1 (j + 1) = true by rw [freB_s, hc0]; simp)]; done)
                | (rw [bI_t (show freB (dF D) (dB D) q.1 (j + 1) = true by rw [freB_s, hc1, hne]; rfl)]; done)
                | (rw [bI_f (show ¬ freB (dF D) (dB D) q.1 (j + 1) = true by rw [freB_s, heq]; simp)]; done)
            · have hc1 : freB (dF D) (dB D) q.1 j = true := bI_1.mp (fun h => c46 (hc.trans h))
              refine g_aload_n C (pc := 49) dX12_readFree_49 2 rfl ?_
              refine g_getR C (pc := 50) fl_RX12_23 (by decide) (by first | assumption | rfl | omega) (by first | assumption | rfl | omega) (by first | assumption | rfl | omega) dX12_readFree_50 ?_
              refine g_iconst C (pc := 53) 0 dX12_readFree_53 (by decide) ?_
              refine g_iload_n C (pc := 54) dX12_readFree_54 0 rfl ?_
              refine g_iadd C (pc := 55) dX12_readFree_55 ?_
              refine g_iald C (pc := 56) (by first | assumption | rfl | omega) (by first | assumption | rfl | omega) (by rw [Int32.zero_add]; exact vp_in_nI (by omega) (by decide)) dX12_readFree_56 ?_
              rw [Int32.zero_add, nI_clamp (show j < 2 ^ 31 by omega), g102, (hpc j (by omega)).2.1]
              refine g_iload_n C (pc := 57) dX12_readFree_57 3 rfl ?_
              refine g_icmp_eq C (pc := 58) 65 dX12_readFree_58 (by decide) (fun c58 => ?_) (fun c58 => ?_)
              · have heq : (bP (dB D) j == some q.1) = true := by
                  rw [(oI_nI (pl_lt hbw (by omega)) (by omega)).mp (c58.trans hv7)]; exact beq_self_eq_true _
                refine g_iconst C (pc := 65) 0 dX12_readFree_65 (by decide) ?_
                refine g_istore_n C (pc := 66) dX12_readFree_66 (by decide) (fun v66 => [(2, .int v66), (3, .int (nI j)), (0, .ref 97), (1, .int v7)]) (fun _ => rfl) (fun v66 ev66 => ?_)
                refine g_iinc C (pc := 67) (1) dX12_readFree_67 1 rfl (by decide) (by decide) (fun v67 => [(3, .int v67), (2, .int v66), (0, .ref 97), (1, .int v7)]) (fun _ => rfl) (fun v67 ev67 => ?_)
                refine g_goto C (pc := 70) 37 dX12_readFree_70 (by decide) ?_
                refine g_lv C [0, 1, 2, 3] rfl (ih37 (j + 1)  _ _ ?_ ?_ ?_ (by omega))
                · subst_vars; exact nI_1 _
                · omega
                · rw [ev66]
                  first
                  | (rw [bI_f (show ¬ freB (dF D) (dB D) q.1 (j + 1) = true by rw [freB_s, hc0]; simp)]; done)
                  | (rw [bI_t (show freB (dF D) (dB D) q.1 (j + 1) = true by rw [freB_s, hc1, hne]; rfl)]; done)
                  | (rw [bI_f (show ¬ freB (dF D) (dB D) q.1 (j + 1) = true by rw [freB_s, heq]; simp)]; done)
              · have hne : (bP (dB D) j == some q.1) = false := by
                  cases h9 : (bP (dB D) j == some q.1) with
                  | false => rfl
                  | true => exact absurd (((oI_nI (pl_lt hbw (by omega)) (by omega)).mpr (by simpa using h9)).trans hv7.symm) c58
                refine g_iconst C (pc := 61) 1 dX12_readFree_61 (by decide) ?_
                refine g_goto C (pc := 62) 66 dX12_readFree_62 (by decide) ?_
                refine g_istore_n C (pc := 66) dX12_readFree_66 (by decide) (fun v66 => [(2, .int v66), (3, .int (nI j)), (0, .ref 97), (1, .int v7)]) (fun _ => rfl) (fun v66 ev66 => ?_)
                refine g_iinc C (pc := 67) (1) dX12_readFree_67 1 rfl (by decide) (by decide) (fun v67 => [(3, .int v67), (2, .int v66), (0, .ref 97), (1, .int v7)]) (fun _ => rfl) (fun v67 ev67 => ?_)
                refine g_goto C (pc := 70) 37 dX12_readFree_70 (by decide) ?_
                refine g_lv C [0, 1, 2, 3] rfl (ih37 (j + 1)  _ _ ?_ ?_ ?_ (by omega))
                · subst_vars; exact nI_1 _
                · omega
                · rw [ev66]
                  first
                  | (rw [bI_f (show ¬ freB (dF D) (dB D) q.1 (j + 1) = true by rw [freB_s, hc0]; simp)]; done)
                  | (rw [bI_t (show freB (dF D) (dB D) q.1 (j + 1) = true by rw [freB_s, hc1, hne]; rfl)]; done)
                  | (rw [bI_f (show ¬ freB (dF D) (dB D) q.1 (j + 1) = true by rw [freB_s, heq]; simp)]; done)
      refine g_lv C [0, 1, 3, 2] rfl (L37 (_ + 1) 0  _ _ ?_ ?_ ?_ (by first | omega | exact Nat.lt_succ_self _))
      · assumption
      · omega
      · exact h34
set_option maxHeartbeats 1600000 in
theorem c_X12_readOdds (n : Nat) (ρ : Rho) (I : Mem) (L : Nat) (tb : Nat → Nat) (g : Nat → Nat) (f p : Nat) (hn9 : n ≤ 999) (hms : MS n ρ) (htb : TbM I L tb) (hsx : Sx I tb L (.inr p)) : MV yX12_readOdds cX12_readOdds 4 none 2 [.ref 97] n ρ I (fun I1 => Sx I1 tb L (pb (odT tb L g f p) no) ∧ (∀ q, odT tb L g f p = .inr q → ∀ w, w < 5 → I1 102 (13 + w) = nI (q.1 w) ∧ q.1 w ≤ 9) ∧ (∀ z, z < 17 ∨ 22 < z → I1 97 z = I 97 z) ∧ (∀ i, i ≠ 97 → i ≠ 102 → I1 i = I i) ∧ ∀ z, z < 13 ∨ 18 ≤ z → I1 102 z = I 102 z) := by
  refine MG.of (by decide +kernel) (Nat.le_of_ble_eq_true rfl) hn9 ?_
  intro κ C hR
  show G κ n ρ 0 [(0, .ref 97)] [] I
  obtain ⟨mn, ⟨m0, m1, m5, m6, m7, m11, m12, m15⟩, ⟨m23, m24, m26, m27, m28, m30, m31, m32, m33⟩, ⟨m38, m39, m40, m42⟩⟩ := id hms
  have htt : ∀ p, p < L → tb p < 256 := fun p hp => (htb.2.2 p hp).2
  have hL3 := htb.2.1
  refine g_iconst C (pc := 0) 0 dX12_readOdds_0 (by decide) ?_
  refine g_istore_n C (pc := 1) dX12_readOdds_1 (by decide) (fun v1 => [(1, .int v1), (0, .ref 97)]) (fun _ => rfl) (fun v1 ev1 => ?_)
  refine g_iconst C (pc := 2) 0 dX12_readOdds_2 (by decide) ?_
  refine g_istore_n C (pc := 3) dX12_readOdds_3 (by decide) (fun v3 => [(2, .int v3), (1, .int v1), (0, .ref 97)]) (fun _ => rfl) (fun v3 ev3 => ?_)
  have L4 : ∀ (k9 : Nat) (j : Nat) (S : PRs ODT) (wz2 : Int32) (wz1 : Int32) (J : Mem) (hw2 : wz2 = nI j) (hj : j ≤ 5) (hS : Sx J tb L (pb S no)) (hI : OdI tb L (odT tb L g f p) J wz1 j S) (hZ : ∀ z, z < 17 ∨ 22 < z → J 97 z = I 97 z) (hF : ∀ i, i ≠ 97 → i ≠ 102 → J i = I i) (hO : ∀ z, z < 13 ∨ 18 ≤ z → J 102 z = I 102 z), 5 - j < k9 → G κ n ρ 4 [(2, .int wz2), (1, .int wz1), (0, .ref 97)] [] J := by
    intro k9
    induction k9 with
    | zero => intro j S wz2 wz1 J hw2 hj hS hI hZ hF hO hm4; exact absurd hm4 (Nat.not_lt_zero _)
    | succ k9 ih4 =>
      intro j S wz2 wz1 J hw2 hj hS hI hZ hF hO hm4
      subst hw2
      have htbJ : TbM J L tb := htb.cg (hZ 16 (by decide)) (hF 105 (by decide) (by decide))
      refine g_iload_n C (pc := 4) dX12_readOdds_4 0 rfl ?_
      refine g_iconst C (pc := 5) 5 dX12_readOdds_5 (by decide) ?_
      refine g_icmp_ge C (pc := 6) 67 dX12_readOdds_6 (by decide) (fun c6 => ?_) (fun c6 => ?_)
      · replace c6 := (nI_leI (a := 5) (b := j) (by decide) (by omega)).mp c6
        have hj5 : j = 5 := by omega
        subst hj5
        refine g_vret C hR (pc := 67) rfl dX12_readOdds_67 ?_
        refine ⟨rfl, rfl, ?_⟩
        refine ⟨?_, fun q hq w hw => ?_, hZ, hF, hO⟩
        · cases S with
          | inl e => rw [show odT tb L g f p = .inl e from hI]; exact hS
          | inr q => rw [hI.2.1 rfl]; exact hS
        · cases S with
          | inl e => rw [show odT tb L g f p = .inl e from hI] at hq; cases hq
          | inr q9 =>
            rw [hI.2.1 rfl] at hq; cases hq
            exact hI.2.2.2 w hw
      · replace c6 := (nI_ltI (a := j) (b := 5) (by omega) (by decide)).mp c6
        have hcj : (13 + nI j).toNatClampNeg = 13 + j := by rw [show (13 : Int32) = nI 13 from rfl, nI_add]; exact nI_clamp (by omega)
        refine g_aload_n C (pc := 9) dX12_readOdds_9 2 rfl ?_
        refine g_iconst C (pc := 10) 0 dX12_readOdds_10 (by decide) ?_
        refine g_bipush C (pc := 11) 9 dX12_readOdds_11 (by decide) ?_
        refine g_callVI C (pc := 13) mf_X12_looked lk_RX12_159 (lkd_any (lo := 0) (hi := 9) hn9 hms htt hS rfl rfl (by decide) (by decide)) (by decide) (Nat.le_refl _) rfl (by first | assumption | rfl | omega) rfl (by first | assumption | rfl | omega) (Nat.le_of_ble_eq_true rfl) dX12_readOdds_13 (fun v13 I13 h13 => ?_)
        obtain ⟨s13, n13, l13⟩ := h13
        refine g_istore_n C (pc := 16) dX12_readOdds_16 (by decide) (fun v16 => [(3, .int v16), (2, .int (nI j)), (1, .int wz1), (0, .ref 97)]) (fun _ => rfl) (fun v16 ev16 => ?_)
        refine g_iload_n C (pc := 17) dX12_readOdds_17 2 rfl ?_
        refine g_iload_n C (pc := 18) dX12_readOdds_18 0 rfl ?_
        refine g_iadd C (pc := 19) dX12_readOdds_19 ?_
        refine g_istore_n C (pc := 20) dX12_readOdds_20 (by decide) (fun v20 => [(1, .int v20), (3, .int v16), (2, .int (nI j)), (0, .ref 97)]) (fun _ => rfl) (fun v20 ev20 => ?_)
        refine g_aload_n C (pc := 21) dX12_readOdds_21 3 rfl ?_
        refine g_getI C (pc := 22) fl_RX12_117 (by decide) (by first | assumption | rfl | omega) (by first | assumption | rfl | omega) dX12_readOdds_22 ?_
        refine g_if_ne C (pc := 25) 47 dX12_readOdds_25 (by decide) (fun c25 => ?_) (fun c25 => ?_)
        · obtain ⟨e9, hR1⟩ := cn_l (R := pb (pb S no) (rdNum tb L 0 9)) (k := fun q => q.2.2) s13 c25
          obtain ⟨S9, hS9⟩ : ∃ S9 : PRs ODT, S9 = .inl e9 := ⟨_, rfl⟩
          have hT9 : odT tb L g f p = .inl e9 := by
            cases S with
            | inl e => cases hR1; exact hI
            | inr q =>
              replace hR1 : rdNum tb L 0 9 q.2.2 = .inl e9 := hR1
              rw [hI.1 c6, show 5 - j = (4 - j) + 1 by omega, rdOds_l hR1]; rfl
          have hl44 : Lx J I13 := l13.x
          have hCn44 : Cn I13 L (pb S9 no) := by rw [hS9]; rw [hR1] at s13; exact s13
          have hI44 : ∀ M : Mem, (∀ w, w < j → M 102 (13 + w) = J 102 (13 + w)) → True → OdI tb L (odT tb L g f p) M v20 (j + 1) S9 := fun M _ _ => by rw [hS9]; exact hT9
          refine g_aload_n C (pc := 47) dX12_readOdds_47 3 rfl ?_
          refine g_getR C (pc := 48) fl_RX12_23 (by decide) (by first | assumption | rfl | omega) (by first | assumption | rfl | omega) (by first | assumption | rfl | omega) dX12_readOdds_48 ?_
          refine g_bipush C (pc := 51) 13 dX12_readOdds_51 (by decide) ?_
          refine g_iload_n C (pc := 53) dX12_readOdds_53 2 rfl ?_
          refine g_iadd C (pc := 54) dX12_readOdds_54 ?_
          refine g_iload_n C (pc := 55) dX12_readOdds_55 1 rfl ?_
          refine g_iast C (pc := 56) (by first | assumption | rfl | omega) (by first | assumption | rfl | omega) hn9 (by rw [show (13 : Int32) = nI 13 from rfl, nI_add]; exact vp_in_nI (by omega) (by decide)) dX12_readOdds_56 ?_
          first
          | (obtain ⟨M9, hM⟩ : ∃ M9, M9 = wr I13 102 (13 + nI j).toNatClampNeg v16 := ⟨_, rfl⟩
             rw [← hM])
          | (obtain ⟨M9, hM⟩ : ∃ M9, M9 = wr I44 102 (13 + nI j).toNatClampNeg v16 := ⟨_, rfl⟩
             rw [← hM])
          rw [hcj] at hM
          have hMl : ∀ i, i ≠ 102 → M9 i = _ := fun i hi => (congrFun hM i).trans (wr_n hi)
          have hM2 : ∀ z, z ≠ 13 + j → M9 102 z = J 102 z := fun z hz => by rw [hM, wr_sn hz, hl44.2 102 (by decide)]
          have hMj : M9 102 (13 + j) = v16 := by rw [hM, wr_ss]
          have hCn : Cn M9 L (pb S9 no) := by
            unfold Cn FT at hCn44 ⊢
            rw [hMl 97 (by decide)]; exact hCn44
          have hZm : ∀ z, z < 17 ∨ 22 < z → M9 97 z = I 97 z := fun z hz => by rw [hMl 97 (by decide), hl44.1 z hz]; exact hZ z hz
          have hFm : ∀ i, i ≠ 97 → i ≠ 102 → M9 i = I i := fun i h1 h2 => by rw [hMl i h2, hl44.2 i h1]; exact hF i h1 h2
          have hOm : ∀ z, z < 13 ∨ 18 ≤ z → M9 102 z = I 102 z := fun z hz => by rw [hM2 z (by omega)]; exact hO z hz
          have hTB : TbM M9 L tb := htb.cg (hZm 16 (by decide)) (hFm 105 (by decide) (by decide))
          have hI9 : OdI tb L (odT tb L g f p) M9 v20 (j + 1) S9 := hI44 M9 (fun w hw => hM2 _ (by omega)) (by first | trivial | exact hMj.trans hv16)
          refine g_aload_n C (pc := 57) dX12_readOdds_57 3 rfl ?_
          refine g_callVV C (pc := 58) mf_X12_next lk_RX12_163 (nxt_any (s := pb S9 no) hn9 hms hTB hCn) (by decide) (Nat.le_refl _) rfl (by first | assumption | rfl | omega) rfl (by first | assumption | rfl | omega) (Nat.le_of_ble_eq_true rfl) dX12_readOdds_58 (fun I58 h58 => ?_)
          obtain ⟨s58, l58⟩ := h58
          refine g_iinc C (pc := 61) (1) dX12_readOdds_61 2 rfl (by decide) (by decide) (fun v61 => [(2, .int v61), (1, .int v20), (3, .int v16), (0, .ref 97)]) (fun _ => rfl) (fun v61 ev61 => ?_)
          refine g_goto C (pc := 64) 4 dX12_readOdds_64 (by decide) ?_
          refine g_lv C [0, 1, 3] rfl (ih4 (j + 1) S9 _ _ _ ?_ ?_ ?_ ?_ ?_ ?_ ?_ (by omega))
          · subst ev61; exact nI_1 _
          · omega
          · exact s58
          · exact hI9.cong (fun w hw => by rw [l58.2 102 (by decide)])
          · intro z hz; rw [l58.1 z hz]; exact hZm z hz
          · intro i h1 h2; rw [l58.2 i h1]; exact hFm i h1 h2
          · intro z hz; rw [l58.2 102 (by decide)]; exact hOm z hz
        · obtain ⟨u, hR1, h17, huL⟩ := cn_r (R := pb (pb S no) (rdNum tb L 0 9)) (k := fun q => q.2.2) s13 c25
          obtain ⟨-, hu9, -, hat, px, hpx, hpL, hpn⟩ := num_at hS hR1
          obtain ⟨q, rfl⟩ : ∃ q, S = .inr q := by
            cases S with
            | inl e => cases hR1
            | inr q => exact ⟨q, rfl⟩
          replace hR1 : rdNum tb L 0 9 q.2.2 = .inr u := hR1
          obtain ⟨i1, i2, i3, i4⟩ := hI
          have hv16 : v16 = nI u.1 := ev16.trans (n13 u hR1)
          obtain ⟨g9, hg9⟩ : ∃ g9 : Nat → Nat, g9 = fun w => if w = j then u.1 else q.1 w := ⟨_, rfl⟩
          have hsm9 : smP g9 (j + 1) = smP q.1 j + u.1 := by rw [hg9]; exact smP_up
          have hv20 : v20 = nI (smP g9 (j + 1)) := by rw [ev20, i3, hv16, nI_add, hsm9]
          have hT9 : odT tb L g f p = odE (rdOds tb L (4 - j) (j + 1) g9 u.2.1 u.2.2) := by
            rw [i1 c6, show 5 - j = (4 - j) + 1 by omega, rdOds_s hR1, hg9]
          have h18 : I13 97 18 = nI u.2.1 := (l13.1 18 (by decide) (by decide)).trans hat
          have hb9 : smP g9 (j + 1) ≤ (j + 1) * 9 := smP_le (fun w hw => by
            rw [hg9]
            show (if w = j then u.1 else q.1 w) ≤ 9
            split
            · exact hu9
            · exact (i4 w (by omega)).2)
          refine g_aload_n C (pc := 28) dX12_readOdds_28 3 rfl ?_
          refine g_iload_n C (pc := 29) dX12_readOdds_29 2 rfl ?_
          refine g_iconst C (pc := 30) 4 dX12_readOdds_30 (by decide) ?_
          refine g_icmp_lt C (pc := 31) 38 dX12_readOdds_31 (by decide) (fun c31 => ?_) (fun c31 => ?_)
          · have hj4 : j < 4 := (nI_ltI (b := 4) (by omega) (by decide)).mp c31
            refine g_iconst C (pc := 38) 1 dX12_readOdds_38 (by decide) ?_
            refine g_goto C (pc := 39) 43 dX12_readOdds_39 (by decide) ?_
            refine g_iconst C (pc := 43) 3 dX12_readOdds_43 (by decide) ?_
            refine g_callVV C (pc := 44) mf_X12_needs lk_RX12_155 (c_X12_needs n ρ I13 _ 3 hn9 hms) (by decide) (Nat.le_refl _) rfl (by first | assumption | rfl | omega) rfl (by first | assumption | rfl | omega) (Nat.le_of_ble_eq_true rfl) dX12_readOdds_44 (fun I44 h44 => ?_)
            obtain h44 := h44
            have h4f : I13 97 21 = 0 := c25
            first
            | (rw [if_neg (fun h => absurd h.1 (by decide))] at h44
               subst h44
               obtain ⟨S9, hS9⟩ : ∃ S9 : PRs ODT, S9 = .inr (g9, u.2.1, u.2.2) := ⟨_, rfl⟩
               have hCn44 : Cn I13 L (pb S9 no) := by rw [hS9]; exact ⟨c25, h17, huL⟩
               have hl44 : Lx J I13 := l13.x
               have hI44 : ∀ M : Mem, (∀ w, w < j → M 102 (13 + w) = J 102 (13 + w)) → M 102 (13 + j) = nI u.1 → OdI tb L (odT tb L g f p) M v20 (j + 1) S9 := fun M hMo hMj => by
                 rw [hS9]
                 refine ⟨fun h => by rw [hT9, show 5 - (j + 1) = 4 - j by omega], fun h => ?_, hv20, fun w hw => ?_⟩
                 · have h4 : j = 4 := by omega
                   subst h4
                   rw [hT9]
                   show (if 0 < smP g9 5 then (.inr (g9, u.2.1, u.2.2) : PRs ODT) else .inl (3, u.2.1)) = _
                   rw [if_pos (by first | exact hs0 | (exfalso; omega))]
                 · rcases Nat.lt_or_ge w j with h1 | h1
                   · rw [hMo w h1, hg9]; show _ = nI (if w = j then u.1 else q.1 w) ∧ (if w = j then u.1 else q.1 w) ≤ 9
                     rw [if_neg (by omega)]; exact i4 w h1
                   · have : w = j := by omega
                     subst this
                     rw [hMj, hg9]; show _ = nI (if w = w then u.1 else q.1 w) ∧ (if w = w then u.1 else q.1 w) ≤ 9
                     rw [if_pos rfl]; exact ⟨rfl, hu9⟩)
            | (rw [if_pos ⟨rfl, h4f⟩] at h44
               obtain ⟨S9, hS9⟩ : ∃ S9 : PRs ODT, S9 = .inl (3, u.2.1) := ⟨_, rfl⟩
               have hCn44 : Cn I44 L (pb S9 no) := by
                 rw [hS9, ← h44]
                 exact ⟨by rw [wr_sn (by decide), wr_ss]; rfl, by rw [wr_ss]; exact h18, (show 1 ≤ 3 by decide), (show 3 ≤ 8 by decide)⟩
               have hl44 : Lx J I44 := by rw [← h44]; exact l13.x.trans ((Lx.w (by decide) (by decide)).trans (Lx.w (by decide) (by decide)))
               have hI44 : ∀ M : Mem, (∀ w, w < j → M 102 (13 + w) = J 102 (13 + w)) → M 102 (13 + j) = nI u.1 → OdI tb L (odT tb L g f p) M v20 (j + 1) S9 := fun M _ _ => by
                 rw [hS9]
                 show odT tb L g f p = .inl (3, u.2.1)
                 subst hj4
                 rw [hT9]
                 show (if 0 < smP g9 5 then (.inr (g9, u.2.1, u.2.2) : PRs ODT) else .inl (3, u.2.1)) = _
                 rw [if_neg (by rw [show smP g9 5 = 0 from hs0]; decide)])
            refine g_aload_n C (pc := 47) dX12_readOdds_47 3 rfl ?_
            refine g_getR C (pc := 48) fl_RX12_23 (by decide) (by first | assumption | rfl | omega) (by first | assumption | rfl | omega) (by first | assumption | rfl | omega) dX12_readOdds_48 ?_
            refine g_bipush C (pc := 51) 13 dX12_readOdds_51 (by decide) ?_
            refine g_iload_n C (pc := 53) dX12_readOdds_53 2 rfl ?_
            refine g_iadd C (pc := 54) dX12_readOdds_54 ?_
            refine g_iload_n C (pc := 55) dX12_readOdds_55 1 rfl ?_
            refine g_iast C (pc := 56) (by first | assumption | rfl | omega) (by first | assumption | rfl | omega) hn9 (by rw [show (13 : Int32) = nI 13 from rfl, nI_add]; exact vp_in_nI (by omega) (by decide)) dX12_readOdds_56 ?_
            first
            | (obtain ⟨M9, hM⟩ : ∃ M9, M9 = wr I13 102 (13 + nI j).toNatClampNeg v16 := ⟨_, rfl⟩
               rw [← hM])
            | (obtain ⟨M9, hM⟩ : ∃ M9, M9 = wr I44 102 (13 + nI j).toNatClampNeg v16 := ⟨_, rfl⟩
               rw [← hM])
            rw [hcj] at hM
            have hMl : ∀ i, i ≠ 102 → M9 i = _ := fun i hi => (congrFun hM i).trans (wr_n hi)
            have hM2 : ∀ z, z ≠ 13 + j → M9 102 z = J 102 z := fun z hz => by rw [hM, wr_sn hz, hl44.2 102 (by decide)]
            have hMj : M9 102 (13 + j) = v16 := by rw [hM, wr_ss]
            have hCn : Cn M9 L (pb S9 no) := by
              unfold Cn FT at hCn44 ⊢
              rw [hMl 97 (by decide)]; exact hCn44
            have hZm : ∀ z, z < 17 ∨ 22 < z → M9 97 z = I 97 z := fun z hz => by rw [hMl 97 (by decide), hl44.1 z hz]; exact hZ z hz
            have hFm : ∀ i, i ≠ 97 → i ≠ 102 → M9 i = I i := fun i h1 h2 => by rw [hMl i h2, hl44.2 i h1]; exact hF i h1 h2
            have hOm : ∀ z, z < 13 ∨ 18 ≤ z → M9 102 z = I 102 z := fun z hz => by rw [hM2 z (by omega)]; exact hO z hz
            have hTB : TbM M9 L tb := htb.cg (hZm 16 (by decide)) (hFm 105 (by decide) (by decide))
            have hI9 : OdI tb L (odT tb L g f p) M9 v20 (j + 1) S9 := hI44 M9 (fun w hw => hM2 _ (by omega)) (by first | trivial | exact hMj.trans hv16)
            refine g_aload_n C (pc := 57) dX12_readOdds_57 3 rfl ?_
            refine g_callVV C (pc := 58) mf_X12_next lk_RX12_163 (nxt_any (s := pb S9 no) hn9 hms hTB hCn) (by decide) (Nat.le_refl _) rfl (by first | assumption | rfl | omega) rfl (by first | assumption | rfl | omega) (Nat.le_of_ble_eq_true rfl) dX12_readOdds_58 (fun I58 h58 => ?_)
            obtain ⟨s58, l58⟩ := h58
            refine g_iinc C (pc := 61) (1) dX12_readOdds_61 2 rfl (by decide) (by decide) (fun v61 => [(2, .int v61), (1, .int v20), (3, .int v16), (0, .ref 97)]) (fun _ => rfl) (fun v61 ev61 => ?_)
            refine g_goto C (pc := 64) 4 dX12_readOdds_64 (by decide) ?_
            refine g_lv C [0, 1, 3] rfl (ih4 (j + 1) S9 _ _ _ ?_ ?_ ?_ ?_ ?_ ?_ ?_ (by omega))
            · subst ev61; exact nI_1 _
            · omega
            · exact s58
            · exact hI9.cong (fun w hw => by rw [l58.2 102 (by decide)])
            · intro z hz; rw [l58.1 z hz]; exact hZm z hz
            · intro i h1 h2; rw [l58.2 i h1]; exact hFm i h1 h2
            · intro z hz; rw [l58.2 102 (by decide)]; exact hOm z hz
          · have hj4 : j = 4 := by
              have := (nI_leI (a := 4) (by decide) (by omega)).mp c31
              omega
            refine g_iload_n C (pc := 34) dX12_readOdds_34 0 rfl ?_
            refine g_if_le C (pc := 35) 42 dX12_readOdds_35 (by decide) (fun c35 => ?_) (fun c35 => ?_)
            · have hs0 : smP g9 (j + 1) = 0 := by
                rw [hv20] at c35
                have := (nI_leI (b := 0) (by omega) (by decide)).mp c35
                omega
              refine g_iconst C (pc := 42) 0 dX12_readOdds_42 (by decide) ?_
              refine g_iconst C (pc := 43) 3 dX12_readOdds_43 (by decide) ?_
              refine g_callVV C (pc := 44) mf_X12_needs lk_RX12_155 (c_X12_needs n ρ I13 _ 3 hn9 hms) (by decide) (Nat.le_refl _) rfl (by first | assumption | rfl | omega) rfl (by first | assumption | rfl | omega) (Nat.le_of_ble_eq_true rfl) dX12_readOdds_44 (fun I44 h44 => ?_)
              obtain h44 := h44
              have h4f : I13 97 21 = 0 := c25
              first
              | (rw [if_neg (fun h => absurd h.1 (by decide))] at h44
                 subst h44
                 obtain ⟨S9, hS9⟩ : ∃ S9 : PRs ODT, S9 = .inr (g9, u.2.1, u.2.2) := ⟨_, rfl⟩
                 have hCn44 : Cn I13 L (pb S9 no) := by rw [hS9]; exact ⟨c25, h17, huL⟩
                 have hl44 : Lx J I13 := l13.x
                 have hI44 : ∀ M : Mem, (∀ w, w < j → M 102 (13 + w) = J 102 (13 + w)) → M 102 (13 + j) = nI u.1 → OdI tb L (odT tb L g f p) M v20 (j + 1) S9 := fun M hMo hMj => by
                   rw [hS9]
                   refine ⟨fun h => by rw [hT9, show 5 - (j + 1) = 4 - j by omega], fun h => ?_, hv20, fun w hw => ?_⟩
                   · have h4 : j = 4 := by omega
                     subst h4
                     rw [hT9]
                     show (if 0 < smP g9 5 then (.inr (g9, u.2.1, u.2.2) : PRs ODT) else .inl (3, u.2.1)) = _
                     rw [if_pos (by first | exact hs0 | (exfalso; omega))]
                   · rcases Nat.lt_or_ge w j with h1 | h1
                     · rw [hMo w h1, hg9]; show _ = nI (if w = j then u.1 else q.1 w) ∧ (if w = j then u.1 else q.1 w) ≤ 9
                       rw [if_neg (by omega)]; exact i4 w h1
                     · have : w = j := by omega
                       subst this
                       rw [hMj, hg9]; show _ = nI (if w = w then u.1 else q.1 w) ∧ (if w = w then u.1 else q.1 w) ≤ 9
                       rw [if_pos rfl]; exact ⟨rfl, hu9⟩)
              | (rw [if_pos ⟨rfl, h4f⟩] at h44
                 obtain ⟨S9, hS9⟩ : ∃ S9 : PRs ODT, S9 = .inl (3, u.2.1) := ⟨_, rfl⟩
                 have hCn44 : Cn I44 L (pb S9 no) := by
                   rw [hS9, ← h44]
                   exact ⟨by rw [wr_sn (by decide), wr_ss]; rfl, by rw [wr_ss]; exact h18, (show 1 ≤ 3 by decide), (show 3 ≤ 8 by decide)⟩
                 have hl44 : Lx J I44 := by rw [← h44]; exact l13.x.trans ((Lx.w (by decide) (by decide)).trans (Lx.w (by decide) (by decide)))
                 have hI44 : ∀ M : Mem, (∀ w, w < j → M 102 (13 + w) = J 102 (13 + w)) → M 102 (13 + j) = nI u.1 → OdI tb L (odT tb L g f p) M v20 (j + 1) S9 := fun M _ _ => by
                   rw [hS9]
                   show odT tb L g f p = .inl (3, u.2.1)
                   subst hj4
                   rw [hT9]
                   show (if 0 < smP g9 5 then (.inr (g9, u.2.1, u.2.2) : PRs ODT) else .inl (3, u.2.1)) = _
                   rw [if_neg (by rw [show smP g9 5 = 0 from hs0]; decide)])
              refine g_aload_n C (pc := 47) dX12_readOdds_47 3 rfl ?_
              refine g_getR C (pc := 48) fl_RX12_23 (by decide) (by first | assumption | rfl | omega) (by first | assumption | rfl | omega) (by first | assumption | rfl | omega) dX12_readOdds_48 ?_
              refine g_bipush C (pc := 51) 13 dX12_readOdds_51 (by decide) ?_
              refine g_iload_n C (pc := 53) dX12_readOdds_53 2 rfl ?_
              refine g_iadd C (pc := 54) dX12_readOdds_54 ?_
              refine g_iload_n C (pc := 55) dX12_readOdds_55 1 rfl ?_
              refine g_iast C (pc := 56) (by first | assumption | rfl | omega) (by first | assumption | rfl | omega) hn9 (by rw [show (13 : Int32) = nI 13 from rfl, nI_add]; exact vp_in_nI (by omega) (by decide)) dX12_readOdds_56 ?_
              first
              | (obtain ⟨M9, hM⟩ : ∃ M9, M9 = wr I13 102 (13 + nI j).toNatClampNeg v16 := ⟨_, rfl⟩
                 rw [← hM])
              | (obtain ⟨M9, hM⟩ : ∃ M9, M9 = wr I44 102 (13 + nI j).toNatClampNeg v16 := ⟨_, rfl⟩
                 rw [← hM])
              rw [hcj] at hM
              have hMl : ∀ i, i ≠ 102 → M9 i = _ := fun i hi => (congrFun hM i).trans (wr_n hi)
              have hM2 : ∀ z, z ≠ 13 + j → M9 102 z = J 102 z := fun z hz => by rw [hM, wr_sn hz, hl44.2 102 (by decide)]
              have hMj : M9 102 (13 + j) = v16 := by rw [hM, wr_ss]
              have hCn : Cn M9 L (pb S9 no) := by
                unfold Cn FT at hCn44 ⊢
                rw [hMl 97 (by decide)]; exact hCn44
              have hZm : ∀ z, z < 17 ∨ 22 < z → M9 97 z = I 97 z := fun z hz => by rw [hMl 97 (by decide), hl44.1 z hz]; exact hZ z hz
              have hFm : ∀ i, i ≠ 97 → i ≠ 102 → M9 i = I i := fun i h1 h2 => by rw [hMl i h2, hl44.2 i h1]; exact hF i h1 h2
              have hOm : ∀ z, z < 13 ∨ 18 ≤ z → M9 102 z = I 102 z := fun z hz => by rw [hM2 z (by omega)]; exact hO z hz
              have hTB : TbM M9 L tb := htb.cg (hZm 16 (by decide)) (hFm 105 (by decide) (by decide))
              have hI9 : OdI tb L (odT tb L g f p) M9 v20 (j + 1) S9 := hI44 M9 (fun w hw => hM2 _ (by omega)) (by first | trivial | exact hMj.trans hv16)
              refine g_aload_n C (pc := 57) dX12_readOdds_57 3 rfl ?_
              refine g_callVV C (pc := 58) mf_X12_next lk_RX12_163 (nxt_any (s := pb S9 no) hn9 hms hTB hCn) (by decide) (Nat.le_refl _) rfl (by first | assumption | rfl | omega) rfl (by first | assumption | rfl | omega) (Nat.le_of_ble_eq_true rfl) dX12_readOdds_58 (fun I58 h58 => ?_)
              obtain ⟨s58, l58⟩ := h58
              refine g_iinc C (pc := 61) (1) dX12_readOdds_61 2 rfl (by decide) (by decide) (fun v61 => [(2, .int v61), (1, .int v20), (3, .int v16), (0, .ref 97)]) (fun _ => rfl) (fun v61 ev61 => ?_)
              refine g_goto C (pc := 64) 4 dX12_readOdds_64 (by decide) ?_
              refine g_lv C [0, 1, 3] rfl (ih4 (j + 1) S9 _ _ _ ?_ ?_ ?_ ?_ ?_ ?_ ?_ (by omega))
              · subst ev61; exact nI_1 _
              · omega
              · exact s58
              · exact hI9.cong (fun w hw => by rw [l58.2 102 (by decide)])
              · intro z hz; rw [l58.1 z hz]; exact hZm z hz
              · intro i h1 h2; rw [l58.2 i h1]; exact hFm i h1 h2
              · intro z hz; rw [l58.2 102 (by decide)]; exact hOm z hz
            · have hs0 : 0 < smP g9 (j + 1) := by
                rw [hv20] at c35
                exact (nI_ltI (a := 0) (by decide) (by omega)).mp c35
              refine g_iconst C (pc := 38) 1 dX12_readOdds_38 (by decide) ?_
              refine g_goto C (pc := 39) 43 dX12_readOdds_39 (by decide) ?_
              refine g_iconst C (pc := 43) 3 dX12_readOdds_43 (by decide) ?_
              refine g_callVV C (pc := 44) mf_X12_needs lk_RX12_155 (c_X12_needs n ρ I13 _ 3 hn9 hms) (by decide) (Nat.le_refl _) rfl (by first | assumption | rfl | omega) rfl (by first | assumption | rfl | omega) (Nat.le_of_ble_eq_true rfl) dX12_readOdds_44 (fun I44 h44 => ?_)
              obtain h44 := h44
              have h4f : I13 97 21 = 0 := c25
              first
              | (rw [if_neg (fun h => absurd h.1 (by decide))] at h44
                 subst h44
                 obtain ⟨S9, hS9⟩ : ∃ S9 : PRs ODT, S9 = .inr (g9, u.2.1, u.2.2) := ⟨_, rfl⟩
                 have hCn44 : Cn I13 L (pb S9 no) := by rw [hS9]; exact ⟨c25, h17, huL⟩
                 have hl44 : Lx J I13 := l13.x
                 have hI44 : ∀ M : Mem, (∀ w, w < j → M 102 (13 + w) = J 102 (13 + w)) → M 102 (13 + j) = nI u.1 → OdI tb L (odT tb L g f p) M v20 (j + 1) S9 := fun M hMo hMj => by
                   rw [hS9]
                   refine ⟨fun h => by rw [hT9, show 5 - (j + 1) = 4 - j by omega], fun h => ?_, hv20, fun w hw => ?_⟩
                   · have h4 : j = 4 := by omega
                     subst h4
                     rw [hT9]
                     show (if 0 < smP g9 5 then (.inr (g9, u.2.1, u.2.2) : PRs ODT) else .inl (3, u.2.1)) = _
                     rw [if_pos (by first | exact hs0 | (exfalso; omega))]
                   · rcases Nat.lt_or_ge w j with h1 | h1
                     · rw [hMo w h1, hg9]; show _ = nI (if w = j then u.1 else q.1 w) ∧ (if w = j then u.1 else q.1 w) ≤ 9
                       rw [if_neg (by omega)]; exact i4 w h1
                     · have : w = j := by omega
                       subst this
                       rw [hMj, hg9]; show _ = nI (if w = w then u.1 else q.1 w) ∧ (if w = w then u.1 else q.1 w) ≤ 9
                       rw [if_pos rfl]; exact ⟨rfl, hu9⟩)
              | (rw [if_pos ⟨rfl, h4f⟩] at h44
                 obtain ⟨S9, hS9⟩ : ∃ S9 : PRs ODT, S9 = .inl (3, u.2.1) := ⟨_, rfl⟩
                 have hCn44 : Cn I44 L (pb S9 no) := by
                   rw [hS9, ← h44]
                   exact ⟨by rw [wr_sn (by decide), wr_ss]; rfl, by rw [wr_ss]; exact h18, (show 1 ≤ 3 by decide), (show 3 ≤ 8 by decide)⟩
                 have hl44 : Lx J I44 := by rw [← h44]; exact l13.x.trans ((Lx.w (by decide) (by decide)).trans (Lx.w (by decide) (by decide)))
                 have hI44 : ∀ M : Mem, (∀ w, w < j → M 102 (13 + w) = J 102 (13 + w)) → M 102 (13 + j) = nI u.1 → OdI tb L (odT tb L g f p) M v20 (j + 1) S9 := fun M _ _ => by
                   rw [hS9]
                   show odT tb L g f p = .inl (3, u.2.1)
                   subst hj4
                   rw [hT9]
                   show (if 0 < smP g9 5 then (.inr (g9, u.2.1, u.2.2) : PRs ODT) else .inl (3, u.2.1)) = _
                   rw [if_neg (by rw [show smP g9 5 = 0 from hs0]; decide)])
              refine g_aload_n C (pc := 47) dX12_readOdds_47 3 rfl ?_
              refine g_getR C (pc := 48) fl_RX12_23 (by decide) (by first | assumption | rfl | omega) (by first | assumption | rfl | omega) (by first | assumption | rfl | omega) dX12_readOdds_48 ?_
              refine g_bipush C (pc := 51) 13 dX12_readOdds_51 (by decide) ?_
              refine g_iload_n C (pc := 53) dX12_readOdds_53 2 rfl ?_
              refine g_iadd C (pc := 54) dX12_readOdds_54 ?_
              refine g_iload_n C (pc := 55) dX12_readOdds_55 1 rfl ?_
              refine g_iast C (pc := 56) (by first | assumption | rfl | omega) (by first | assumption | rfl | omega) hn9 (by rw [show (13 : Int32) = nI 13 from rfl, nI_add]; exact vp_in_nI (by omega) (by decide)) dX12_readOdds_56 ?_
              first
              | (obtain ⟨M9, hM⟩ : ∃ M9, M9 = wr I13 102 (13 + nI j).toNatClampNeg v16 := ⟨_, rfl⟩
                 rw [← hM])
              | (obtain ⟨M9, hM⟩ : ∃ M9, M9 = wr I44 102 (13 + nI j).toNatClampNeg v16 := ⟨_, rfl⟩
                 rw [← hM])
              rw [hcj] at hM
              have hMl : ∀ i, i ≠ 102 → M9 i = _ := fun i hi => (congrFun hM i).trans (wr_n hi)
              have hM2 : ∀ z, z ≠ 13 + j → M9 102 z = J 102 z := fun z hz => by rw [hM, wr_sn hz, hl44.2 102 (by decide)]
              have hMj : M9 102 (13 + j) = v16 := by rw [hM, wr_ss]
              have hCn : Cn M9 L (pb S9 no) := by
                unfold Cn FT at hCn44 ⊢
                rw [hMl 97 (by decide)]; exact hCn44
              have hZm : ∀ z, z < 17 ∨ 22 < z → M9 97 z = I 97 z := fun z hz => by rw [hMl 97 (by decide), hl44.1 z hz]; exact hZ z hz
              have hFm : ∀ i, i ≠ 97 → i ≠ 102 → M9 i = I i := fun i h1 h2 => by rw [hMl i h2, hl44.2 i h1]; exact hF i h1 h2
              have hOm : ∀ z, z < 13 ∨ 18 ≤ z → M9 102 z = I 102 z := fun z hz => by rw [hM2 z (by omega)]; exact hO z hz
              have hTB : TbM M9 L tb := htb.cg (hZm 16 (by decide)) (hFm 105 (by decide) (by decide))
              have hI9 : OdI tb L (odT tb L g f p) M9 v20 (j + 1) S9 := hI44 M9 (fun w hw => hM2 _ (by omega)) (by first | trivial | exact hMj.trans hv16)
              refine g_aload_n C (pc := 57) dX12_readOdds_57 3 rfl ?_
              refine g_callVV C (pc := 58) mf_X12_next lk_RX12_163 (nxt_any (s := pb S9 no) hn9 hms hTB hCn) (by decide) (Nat.le_refl _) rfl (by first | assumption | rfl | omega) rfl (by first | assumption | rfl | omega) (Nat.le_of_ble_eq_true rfl) dX12_readOdds_58 (fun I58 h58 => ?_)
              obtain ⟨s58, l58⟩ := h58
              refine g_iinc C (pc := 61) (1) dX12_readOdds_61 2 rfl (by decide) (by decide) (fun v61 => [(2, .int v61), (1, .int v20), (3, .int v16), (0, .ref 97)]) (fun _ => rfl) (fun v61 ev61 => ?_)
              refine g_goto C (pc := 64) 4 dX12_readOdds_64 (by decide) ?_
              refine g_lv C [0, 1, 3] rfl (ih4 (j + 1) S9 _ _ _ ?_ ?_ ?_ ?_ ?_ ?_ ?_ (by omega))
              · subst ev61; exact nI_1 _
              · omega
              · exact s58
              · exact hI9.cong (fun w hw => by rw [l58.2 102 (by decide)])
              · intro z hz; rw [l58.1 z hz]; exact hZm z hz
              · intro i h1 h2; rw [l58.2 i h1]; exact hFm i h1 h2
              · intro z hz; rw [l58.2 102 (by decide)]; exact hOm z hz
  refine g_lv C [0, 1, 2] rfl (L4 (_ + 1) 0 (.inr (g, f, p)) _ _ _ ?_ ?_ ?_ ?_ ?_ ?_ ?_ (by first | omega | exact Nat.lt_succ_self _))
  · subst ev3; rfl
  · omega
  · exact hsx
  · subst ev1; exact ⟨fun _ => rfl, fun h => (by cases h), rfl, fun w hw => absurd hw (Nat.not_lt_zero w)⟩
  · intro z _; rfl
  · intro i _ _; rfl
  · intro z _; rfl
