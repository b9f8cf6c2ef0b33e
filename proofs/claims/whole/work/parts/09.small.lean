
def bI (c : Prop) [Decidable c] : Int32 := if c then 1 else 0
theorem bI_t {c : Prop} [Decidable c] (h : c) : bI c = 1 := if_pos h
theorem bI_f {c : Prop} [Decidable c] (h : ¬ c) : bI c = 0 := if_neg h
theorem bI_0 {c : Prop} [Decidable c] : bI c = 0 ↔ ¬ c := by
  unfold bI; by_cases h : c <;> simp [h]
theorem bI_1 {c : Prop} [Decidable c] : ¬ bI c = 0 ↔ c := by
  unfold bI; by_cases h : c <;> simp [h]
theorem bI_nar {c : Prop} [Decidable c] : narrow .boolean (.int (bI c)) = .int (bI c) := by
  unfold bI; by_cases h : c <;> simp [h] <;> rfl
theorem i32n {a b : Int32} : ¬ a ≤ b ↔ b < a := Int32.not_le
theorem i32l {a b : Int32} : ¬ a < b ↔ b ≤ a := Int32.not_lt
theorem vp_in_of2 {x : Int32} {N : Nat} (hN : N < 2 ^ 31) (h : 0 ≤ x) (h2 : x < nI N) : vp_in x N := by
  rw [vp_in_iff]
  have h3 := Int32.le_iff_toInt_le.mp h
  have h4 := Int32.lt_iff_toInt_lt.mp h2
  rw [nI_toInt hN] at h4
  have : (0 : Int32).toInt = 0 := rfl
  omega
/-- the objects of a Stand, of a Roofs -/
def St (n : Nat) (ρ : Rho) (s : Nat) : Prop := shp s = (17, 4) ∧ shp (s + 1) = (0, 6) ∧ shp (s + 2) = (0, 6) ∧ shp (s + 3) = (0, 2) ∧ s + 3 < n ∧ ρ s 0 = some (s + 1) ∧ ρ s 1 = some (s + 2) ∧ ρ s 2 = some (s + 3)
def Rf (n : Nat) (ρ : Rho) (r : Nat) : Prop := shp r = (14, 7) ∧ shp (r + 1) = (0, 6) ∧ shp (r + 2) = (0, 6) ∧ shp (r + 3) = (0, 5) ∧ r + 3 < n ∧ ρ r 0 = some (r + 1) ∧ ρ r 1 = some (r + 2) ∧ ρ r 2 = some (r + 3)
set_option maxRecDepth 50000 in
theorem gw_acn : Cond.native arraycopyName ∈ GW := GW_in 682 rfl rfl
set_option maxRecDepth 50000 in
theorem gw_acs : Cond.static arraycopyName ∈ GW := GW_in 681 rfl rfl
set_option maxRecDepth 50000 in
theorem gw_aci : Cond.initialized "java/lang/System" ∈ GW := GW_in 98 rfl rfl
theorem c_X11_isSide (n : Nat) (ρ : Rho) (I : Mem) (x : Int32) (hn9 : n ≤ 999)  : MI yX11_isSide cX11_isSide 1 (some .boolean) 0 [.int x] n ρ I (fun v I1 => v = bI (0 ≤ x ∧ x < 2) ∧ I = I1) := by
  refine MG.of (by decide +kernel) (Nat.le_of_ble_eq_true rfl) hn9 ?_
  intro κ C hR
  show G κ n ρ 0 [(0, .int x)] [] I
  refine g_iload_n C (pc := 0) dX11_isSide_0 0 rfl ?_
  refine g_if_lt C (pc := 1) 13 dX11_isSide_1 (by decide) (fun c1 => ?_) (fun c1 => ?_)
  · refine g_iconst C (pc := 13) 0 dX11_isSide_13 (by decide) ?_
    refine g_zret C hR (pc := 14) rfl rfl dX11_isSide_14 ?_
    refine ⟨rfl, _, rfl, ?_⟩
    refine ⟨?_, rfl⟩
    unfold bI; split <;> first | rfl | (exfalso; simp only [Int32.lt_iff_toInt_lt, Int32.le_iff_toInt_le, ← Int32.toInt_inj, Int32.reduceToInt] at *; omega)
  · refine g_iload_n C (pc := 4) dX11_isSide_4 0 rfl ?_
    refine g_iconst C (pc := 5) 2 dX11_isSide_5 (by decide) ?_
    refine g_icmp_ge C (pc := 6) 13 dX11_isSide_6 (by decide) (fun c6 => ?_) (fun c6 => ?_)
    · refine g_iconst C (pc := 13) 0 dX11_isSide_13 (by decide) ?_
      refine g_zret C hR (pc := 14) rfl rfl dX11_isSide_14 ?_
      refine ⟨rfl, _, rfl, ?_⟩
      refine ⟨?_, rfl⟩
      unfold bI; split <;> first | rfl | (exfalso; simp only [Int32.lt_iff_toInt_lt, Int32.le_iff_toInt_le, ← Int32.toInt_inj, Int32.reduceToInt] at *; omega)
    · refine g_iconst C (pc := 9) 1 dX11_isSide_9 (by decide) ?_
      refine g_goto C (pc := 10) 14 dX11_isSide_10 (by decide) ?_
      refine g_zret C hR (pc := 14) rfl rfl dX11_isSide_14 ?_
      refine ⟨rfl, _, rfl, ?_⟩
      refine ⟨?_, rfl⟩
      unfold bI; split <;> first | rfl | (exfalso; simp only [Int32.lt_iff_toInt_lt, Int32.le_iff_toInt_le, ← Int32.toInt_inj, Int32.reduceToInt] at *; omega)
