
def bI (c : Prop) [Decidable c] : Int32 := if c then 1 else 0
theorem bI_t {c : Prop} [Decidable c] (h : c) : bI c = 1 := if_pos h
theorem bI_f {c : Prop} [Decidable c] (h : ¬ c) : bI c = 0 := if_neg h
theorem bI_0 {c : Prop} [Decidable c] : bI c = 0 ↔ ¬ c := by
  unfold bI; by_cases h : c <;> simp [h]
theorem bI_1 {c : Prop} [Decidable c] : ¬ bI c = 0 ↔ c := by
  unfold bI; by_cases h : c <;> simp [h]
theorem bI_nar {c : Prop} [Decidable c] : narrow .boolean (.int (bI c)) = .int (bI c) := by
  unfold bI; by_cases h : c <;> simp [h] <;> rfl
def bitO (x : Int32) : Int32 := if 0 ≤ x ∧ x < 25 then 1 <<< (x &&& 31) else 0
theorem i32n {a b : Int32} : ¬ a ≤ b ↔ b < a := Int32.not_le
theorem i32l {a b : Int32} : ¬ a < b ↔ b ≤ a := Int32.not_lt
theorem vp_in_of2 {x : Int32} {N : Nat} (hN : N < 2 ^ 31) (h : 0 ≤ x) (h2 : x < nI N) : vp_in x N := by
  rw [vp_in_iff]
  have h3 := Int32.le_iff_toInt_le.mp h
  have h4 := Int32.lt_iff_toInt_lt.mp h2
  rw [nI_toInt hN] at h4
  have : (0 : Int32).toInt = 0 := rfl
  omega
/-- the objects of a Stand, of a Roofs -/
def St (n : Nat) (ρ : Rho) (s : Nat) : Prop := shp s = (17, 4) ∧ shp (s + 1) = (0, 6) ∧ shp (s + 2) = (0, 6) ∧ shp (s + 3) = (0, 2) ∧ s + 3 < n ∧ ρ s 0 = some (s + 1) ∧ ρ s 1 = some (s + 2) ∧ ρ s 2 = some (s + 3)
def Rf (n : Nat) (ρ : Rho) (r : Nat) : Prop := shp r = (14, 7) ∧ shp (r + 1) = (0, 6) ∧ shp (r + 2) = (0, 6) ∧ shp (r + 3) = (0, 5) ∧ r + 3 < n ∧ ρ r 0 = some (r + 1) ∧ ρ r 1 = some (r + 2) ∧ ρ r 2 = some (r + 3)
set_option maxRecDepth 50000 in
theorem gw_acn : Cond.native arraycopyName ∈ GW := GW_in 682 rfl rfl
set_option maxRecDepth 50000 in
theorem gw_acs : Cond.static arraycopyName ∈ GW := GW_in 681 rfl rfl
set_option maxRecDepth 50000 in
theorem gw_aci : Cond.initialized "java/lang/System" ∈ GW := GW_in 98 rfl rfl
set_option maxHeartbeats 400000 in
theorem c_X11_isSide (n : Nat) (ρ : Rho) (I : Mem) (x : Int32) (hn9 : n ≤ 999)  : MI yX11_isSide cX11_isSide 1 (some .boolean) 0 [.int x] n ρ I (fun v I1 => v = bI (0 ≤ x ∧ x < 2) ∧ I = I1) := by
  refine MG.of (by decide +kernel) (Nat.le_of_ble_eq_true rfl) hn9 ?_
  intro κ C hR
  show G κ n ρ 0 [(0, .int x)] [] I
  refine g_iload_n C (pc := 0) dX11_isSide_0 0 rfl ?_
  refine g_if_lt C (pc := 1) 13 dX11_isSide_1 (by decide) (fun c1 => ?_) (fun c1 => ?_)
  · refine g_iconst C (pc := 13) 0 dX11_isSide_13 (by decide) ?_
    refine g_zret C hR (pc := 14) rfl rfl dX11_isSide_14 ?_
    refine ⟨rfl, _, rfl, ?_⟩
    refine ⟨?_, rfl⟩
    unfold bI; split <;> first | rfl | (exfalso; simp only [ne_eq, Int32.lt_iff_toInt_lt, Int32.le_iff_toInt_le, ← Int32.toInt_inj, Int32.reduceToInt] at *; omega)
  · refine g_iload_n C (pc := 4) dX11_isSide_4 0 rfl ?_
    refine g_iconst C (pc := 5) 2 dX11_isSide_5 (by decide) ?_
    refine g_icmp_ge C (pc := 6) 13 dX11_isSide_6 (by decide) (fun c6 => ?_) (fun c6 => ?_)
    · refine g_iconst C (pc := 13) 0 dX11_isSide_13 (by decide) ?_
      refine g_zret C hR (pc := 14) rfl rfl dX11_isSide_14 ?_
      refine ⟨rfl, _, rfl, ?_⟩
      refine ⟨?_, rfl⟩
      unfold bI; split <;> first | rfl | (exfalso; simp only [ne_eq, Int32.lt_iff_toInt_lt, Int32.le_iff_toInt_le, ← Int32.toInt_inj, Int32.reduceToInt] at *; omega)
    · refine g_iconst C (pc := 9) 1 dX11_isSide_9 (by decide) ?_
      refine g_goto C (pc := 10) 14 dX11_isSide_10 (by decide) ?_
      refine g_zret C hR (pc := 14) rfl rfl dX11_isSide_14 ?_
      refine ⟨rfl, _, rfl, ?_⟩
      refine ⟨?_, rfl⟩
      unfold bI; split <;> first | rfl | (exfalso; simp only [ne_eq, Int32.lt_iff_toInt_lt, Int32.le_iff_toInt_le, ← Int32.toInt_inj, Int32.reduceToInt] at *; omega)
set_option maxHeartbeats 400000 in
theorem c_X11_isWind (n : Nat) (ρ : Rho) (I : Mem) (x : Int32) (hn9 : n ≤ 999)  : MI yX11_isWind cX11_isWind 1 (some .boolean) 0 [.int x] n ρ I (fun v I1 => v = bI (0 ≤ x ∧ x < 5) ∧ I = I1) := by
  refine MG.of (by decide +kernel) (Nat.le_of_ble_eq_true rfl) hn9 ?_
  intro κ C hR
  show G κ n ρ 0 [(0, .int x)] [] I
  refine g_iload_n C (pc := 0) dX11_isWind_0 0 rfl ?_
  refine g_if_lt C (pc := 1) 13 dX11_isWind_1 (by decide) (fun c1 => ?_) (fun c1 => ?_)
  · refine g_iconst C (pc := 13) 0 dX11_isWind_13 (by decide) ?_
    refine g_zret C hR (pc := 14) rfl rfl dX11_isWind_14 ?_
    refine ⟨rfl, _, rfl, ?_⟩
    refine ⟨?_, rfl⟩
    unfold bI; split <;> first | rfl | (exfalso; simp only [ne_eq, Int32.lt_iff_toInt_lt, Int32.le_iff_toInt_le, ← Int32.toInt_inj, Int32.reduceToInt] at *; omega)
  · refine g_iload_n C (pc := 4) dX11_isWind_4 0 rfl ?_
    refine g_iconst C (pc := 5) 5 dX11_isWind_5 (by decide) ?_
    refine g_icmp_ge C (pc := 6) 13 dX11_isWind_6 (by decide) (fun c6 => ?_) (fun c6 => ?_)
    · refine g_iconst C (pc := 13) 0 dX11_isWind_13 (by decide) ?_
      refine g_zret C hR (pc := 14) rfl rfl dX11_isWind_14 ?_
      refine ⟨rfl, _, rfl, ?_⟩
      refine ⟨?_, rfl⟩
      unfold bI; split <;> first | rfl | (exfalso; simp only [ne_eq, Int32.lt_iff_toInt_lt, Int32.le_iff_toInt_le, ← Int32.toInt_inj, Int32.reduceToInt] at *; omega)
    · refine g_iconst C (pc := 9) 1 dX11_isWind_9 (by decide) ?_
      refine g_goto C (pc := 10) 14 dX11_isWind_10 (by decide) ?_
      refine g_zret C hR (pc := 14) rfl rfl dX11_isWind_14 ?_
      refine ⟨rfl, _, rfl, ?_⟩
      refine ⟨?_, rfl⟩
      unfold bI; split <;> first | rfl | (exfalso; simp only [ne_eq, Int32.lt_iff_toInt_lt, Int32.le_iff_toInt_le, ← Int32.toInt_inj, Int32.reduceToInt] at *; omega)
set_option maxHeartbeats 400000 in
theorem c_X11_isAhead (n : Nat) (ρ : Rho) (I : Mem) (x : Int32) (hn9 : n ≤ 999)  : MI yX11_isAhead cX11_isAhead 1 (some .boolean) 0 [.int x] n ρ I (fun v I1 => v = bI (0 ≤ x ∧ x ≤ 3) ∧ I = I1) := by
  refine MG.of (by decide +kernel) (Nat.le_of_ble_eq_true rfl) hn9 ?_
  intro κ C hR
  show G κ n ρ 0 [(0, .int x)] [] I
  refine g_iload_n C (pc := 0) dX11_isAhead_0 0 rfl ?_
  refine g_if_lt C (pc := 1) 13 dX11_isAhead_1 (by decide) (fun c1 => ?_) (fun c1 => ?_)
  · refine g_iconst C (pc := 13) 0 dX11_isAhead_13 (by decide) ?_
    refine g_zret C hR (pc := 14) rfl rfl dX11_isAhead_14 ?_
    refine ⟨rfl, _, rfl, ?_⟩
    refine ⟨?_, rfl⟩
    unfold bI; split <;> first | rfl | (exfalso; simp only [ne_eq, Int32.lt_iff_toInt_lt, Int32.le_iff_toInt_le, ← Int32.toInt_inj, Int32.reduceToInt] at *; omega)
  · refine g_iload_n C (pc := 4) dX11_isAhead_4 0 rfl ?_
    refine g_iconst C (pc := 5) 3 dX11_isAhead_5 (by decide) ?_
    refine g_icmp_gt C (pc := 6) 13 dX11_isAhead_6 (by decide) (fun c6 => ?_) (fun c6 => ?_)
    · refine g_iconst C (pc := 13) 0 dX11_isAhead_13 (by decide) ?_
      refine g_zret C hR (pc := 14) rfl rfl dX11_isAhead_14 ?_
      refine ⟨rfl, _, rfl, ?_⟩
      refine ⟨?_, rfl⟩
      unfold bI; split <;> first | rfl | (exfalso; simp only [ne_eq, Int32.lt_iff_toInt_lt, Int32.le_iff_toInt_le, ← Int32.toInt_inj, Int32.reduceToInt] at *; omega)
    · refine g_iconst C (pc := 9) 1 dX11_isAhead_9 (by decide) ?_
      refine g_goto C (pc := 10) 14 dX11_isAhead_10 (by decide) ?_
      refine g_zret C hR (pc := 14) rfl rfl dX11_isAhead_14 ?_
      refine ⟨rfl, _, rfl, ?_⟩
      refine ⟨?_, rfl⟩
      unfold bI; split <;> first | rfl | (exfalso; simp only [ne_eq, Int32.lt_iff_toInt_lt, Int32.le_iff_toInt_le, ← Int32.toInt_inj, Int32.reduceToInt] at *; omega)
set_option maxHeartbeats 400000 in
theorem c_X11_isPart (n : Nat) (ρ : Rho) (I : Mem) (x : Int32) (hn9 : n ≤ 999)  : MI yX11_isPart cX11_isPart 1 (some .boolean) 0 [.int x] n ρ I (fun v I1 => v = bI (x = 0 ∨ x = 1) ∧ I = I1) := by
  refine MG.of (by decide +kernel) (Nat.le_of_ble_eq_true rfl) hn9 ?_
  intro κ C hR
  show G κ n ρ 0 [(0, .int x)] [] I
  refine g_iload_n C (pc := 0) dX11_isPart_0 0 rfl ?_
  refine g_if_eq C (pc := 1) 9 dX11_isPart_1 (by decide) (fun c1 => ?_) (fun c1 => ?_)
  · refine g_iconst C (pc := 9) 1 dX11_isPart_9 (by decide) ?_
    refine g_goto C (pc := 10) 14 dX11_isPart_10 (by decide) ?_
    refine g_zret C hR (pc := 14) rfl rfl dX11_isPart_14 ?_
    refine ⟨rfl, _, rfl, ?_⟩
    refine ⟨?_, rfl⟩
    unfold bI; split <;> first | rfl | (exfalso; simp only [ne_eq, Int32.lt_iff_toInt_lt, Int32.le_iff_toInt_le, ← Int32.toInt_inj, Int32.reduceToInt] at *; omega)
  · refine g_iload_n C (pc := 4) dX11_isPart_4 0 rfl ?_
    refine g_iconst C (pc := 5) 1 dX11_isPart_5 (by decide) ?_
    refine g_icmp_ne C (pc := 6) 13 dX11_isPart_6 (by decide) (fun c6 => ?_) (fun c6 => ?_)
    · refine g_iconst C (pc := 13) 0 dX11_isPart_13 (by decide) ?_
      refine g_zret C hR (pc := 14) rfl rfl dX11_isPart_14 ?_
      refine ⟨rfl, _, rfl, ?_⟩
      refine ⟨?_, rfl⟩
      unfold bI; split <;> first | rfl | (exfalso; simp only [ne_eq, Int32.lt_iff_toInt_lt, Int32.le_iff_toInt_le, ← Int32.toInt_inj, Int32.reduceToInt] at *; omega)
    · refine g_iconst C (pc := 9) 1 dX11_isPart_9 (by decide) ?_
      refine g_goto C (pc := 10) 14 dX11_isPart_10 (by decide) ?_
      refine g_zret C hR (pc := 14) rfl rfl dX11_isPart_14 ?_
      refine ⟨rfl, _, rfl, ?_⟩
      refine ⟨?_, rfl⟩
      unfold bI; split <;> first | rfl | (exfalso; simp only [ne_eq, Int32.lt_iff_toInt_lt, Int32.le_iff_toInt_le, ← Int32.toInt_inj, Int32.reduceToInt] at *; omega)
set_option maxHeartbeats 400000 in
theorem c_X11_isAsked (n : Nat) (ρ : Rho) (I : Mem) (x : Int32) (hn9 : n ≤ 999)  : MI yX11_isAsked cX11_isAsked 1 (some .boolean) 0 [.int x] n ρ I (fun v I1 => v = bI (x = 0 ∨ (10 ≤ x ∧ x ≤ 12)) ∧ I = I1) := by
  refine MG.of (by decide +kernel) (Nat.le_of_ble_eq_true rfl) hn9 ?_
  intro κ C hR
  show G κ n ρ 0 [(0, .int x)] [] I
  refine g_iload_n C (pc := 0) dX11_isAsked_0 0 rfl ?_
  refine g_if_eq C (pc := 1) 16 dX11_isAsked_1 (by decide) (fun c1 => ?_) (fun c1 => ?_)
  · refine g_iconst C (pc := 16) 1 dX11_isAsked_16 (by decide) ?_
    refine g_goto C (pc := 17) 21 dX11_isAsked_17 (by decide) ?_
    refine g_zret C hR (pc := 21) rfl rfl dX11_isAsked_21 ?_
    refine ⟨rfl, _, rfl, ?_⟩
    refine ⟨?_, rfl⟩
    unfold bI; split <;> first | rfl | (exfalso; simp only [ne_eq, Int32.lt_iff_toInt_lt, Int32.le_iff_toInt_le, ← Int32.toInt_inj, Int32.reduceToInt] at *; omega)
  · refine g_iload_n C (pc := 4) dX11_isAsked_4 0 rfl ?_
    refine g_bipush C (pc := 5) 10 dX11_isAsked_5 (by decide) ?_
    refine g_icmp_lt C (pc := 7) 20 dX11_isAsked_7 (by decide) (fun c7 => ?_) (fun c7 => ?_)
    · refine g_iconst C (pc := 20) 0 dX11_isAsked_20 (by decide) ?_
      refine g_zret C hR (pc := 21) rfl rfl dX11_isAsked_21 ?_
      refine ⟨rfl, _, rfl, ?_⟩
      refine ⟨?_, rfl⟩
      unfold bI; split <;> first | rfl | (exfalso; simp only [ne_eq, Int32.lt_iff_toInt_lt, Int32.le_iff_toInt_le, ← Int32.toInt_inj, Int32.reduceToInt] at *; omega)
    · refine g_iload_n C (pc := 10) dX11_isAsked_10 0 rfl ?_
      refine g_bipush C (pc := 11) 12 dX11_isAsked_11 (by decide) ?_
      refine g_icmp_gt C (pc := 13) 20 dX11_isAsked_13 (by decide) (fun c13 => ?_) (fun c13 => ?_)
      · refine g_iconst C (pc := 20) 0 dX11_isAsked_20 (by decide) ?_
        refine g_zret C hR (pc := 21) rfl rfl dX11_isAsked_21 ?_
        refine ⟨rfl, _, rfl, ?_⟩
        refine ⟨?_, rfl⟩
        unfold bI; split <;> first | rfl | (exfalso; simp only [ne_eq, Int32.lt_iff_toInt_lt, Int32.le_iff_toInt_le, ← Int32.toInt_inj, Int32.reduceToInt] at *; omega)
      · refine g_iconst C (pc := 16) 1 dX11_isAsked_16 (by decide) ?_
        refine g_goto C (pc := 17) 21 dX11_isAsked_17 (by decide) ?_
        refine g_zret C hR (pc := 21) rfl rfl dX11_isAsked_21 ?_
        refine ⟨rfl, _, rfl, ?_⟩
        refine ⟨?_, rfl⟩
        unfold bI; split <;> first | rfl | (exfalso; simp only [ne_eq, Int32.lt_iff_toInt_lt, Int32.le_iff_toInt_le, ← Int32.toInt_inj, Int32.reduceToInt] at *; omega)
set_option maxHeartbeats 400000 in
theorem c_X11_isImage (n : Nat) (ρ : Rho) (I : Mem) (x : Int32) (hn9 : n ≤ 999)  : MI yX11_isImage cX11_isImage 1 (some .boolean) 0 [.int x] n ρ I (fun v I1 => v = bI (0 ≤ x ∧ x < 2) ∧ I = I1) := by
  refine MG.of (by decide +kernel) (Nat.le_of_ble_eq_true rfl) hn9 ?_
  intro κ C hR
  show G κ n ρ 0 [(0, .int x)] [] I
  refine g_iload_n C (pc := 0) dX11_isImage_0 0 rfl ?_
  refine g_if_lt C (pc := 1) 13 dX11_isImage_1 (by decide) (fun c1 => ?_) (fun c1 => ?_)
  · refine g_iconst C (pc := 13) 0 dX11_isImage_13 (by decide) ?_
    refine g_zret C hR (pc := 14) rfl rfl dX11_isImage_14 ?_
    refine ⟨rfl, _, rfl, ?_⟩
    refine ⟨?_, rfl⟩
    unfold bI; split <;> first | rfl | (exfalso; simp only [ne_eq, Int32.lt_iff_toInt_lt, Int32.le_iff_toInt_le, ← Int32.toInt_inj, Int32.reduceToInt] at *; omega)
  · refine g_iload_n C (pc := 4) dX11_isImage_4 0 rfl ?_
    refine g_iconst C (pc := 5) 2 dX11_isImage_5 (by decide) ?_
    refine g_icmp_ge C (pc := 6) 13 dX11_isImage_6 (by decide) (fun c6 => ?_) (fun c6 => ?_)
    · refine g_iconst C (pc := 13) 0 dX11_isImage_13 (by decide) ?_
      refine g_zret C hR (pc := 14) rfl rfl dX11_isImage_14 ?_
      refine ⟨rfl, _, rfl, ?_⟩
      refine ⟨?_, rfl⟩
      unfold bI; split <;> first | rfl | (exfalso; simp only [ne_eq, Int32.lt_iff_toInt_lt, Int32.le_iff_toInt_le, ← Int32.toInt_inj, Int32.reduceToInt] at *; omega)
    · refine g_iconst C (pc := 9) 1 dX11_isImage_9 (by decide) ?_
      refine g_goto C (pc := 10) 14 dX11_isImage_10 (by decide) ?_
      refine g_zret C hR (pc := 14) rfl rfl dX11_isImage_14 ?_
      refine ⟨rfl, _, rfl, ?_⟩
      refine ⟨?_, rfl⟩
      unfold bI; split <;> first | rfl | (exfalso; simp only [ne_eq, Int32.lt_iff_toInt_lt, Int32.le_iff_toInt_le, ← Int32.toInt_inj, Int32.reduceToInt] at *; omega)
set_option maxHeartbeats 400000 in
theorem c_X11_isSheet (n : Nat) (ρ : Rho) (I : Mem) (x : Int32) (hn9 : n ≤ 999)  : MI yX11_isSheet cX11_isSheet 1 (some .boolean) 0 [.int x] n ρ I (fun v I1 => v = bI (0 ≤ x ∧ x < 4) ∧ I = I1) := by
  refine MG.of (by decide +kernel) (Nat.le_of_ble_eq_true rfl) hn9 ?_
  intro κ C hR
  show G κ n ρ 0 [(0, .int x)] [] I
  refine g_iload_n C (pc := 0) dX11_isSheet_0 0 rfl ?_
  refine g_if_lt C (pc := 1) 13 dX11_isSheet_1 (by decide) (fun c1 => ?_) (fun c1 => ?_)
  · refine g_iconst C (pc := 13) 0 dX11_isSheet_13 (by decide) ?_
    refine g_zret C hR (pc := 14) rfl rfl dX11_isSheet_14 ?_
    refine ⟨rfl, _, rfl, ?_⟩
    refine ⟨?_, rfl⟩
    unfold bI; split <;> first | rfl | (exfalso; simp only [ne_eq, Int32.lt_iff_toInt_lt, Int32.le_iff_toInt_le, ← Int32.toInt_inj, Int32.reduceToInt] at *; omega)
  · refine g_iload_n C (pc := 4) dX11_isSheet_4 0 rfl ?_
    refine g_iconst C (pc := 5) 4 dX11_isSheet_5 (by decide) ?_
    refine g_icmp_ge C (pc := 6) 13 dX11_isSheet_6 (by decide) (fun c6 => ?_) (fun c6 => ?_)
    · refine g_iconst C (pc := 13) 0 dX11_isSheet_13 (by decide) ?_
      refine g_zret C hR (pc := 14) rfl rfl dX11_isSheet_14 ?_
      refine ⟨rfl, _, rfl, ?_⟩
      refine ⟨?_, rfl⟩
      unfold bI; split <;> first | rfl | (exfalso; simp only [ne_eq, Int32.lt_iff_toInt_lt, Int32.le_iff_toInt_le, ← Int32.toInt_inj, Int32.reduceToInt] at *; omega)
    · refine g_iconst C (pc := 9) 1 dX11_isSheet_9 (by decide) ?_
      refine g_goto C (pc := 10) 14 dX11_isSheet_10 (by decide) ?_
      refine g_zret C hR (pc := 14) rfl rfl dX11_isSheet_14 ?_
      refine ⟨rfl, _, rfl, ?_⟩
      refine ⟨?_, rfl⟩
      unfold bI; split <;> first | rfl | (exfalso; simp only [ne_eq, Int32.lt_iff_toInt_lt, Int32.le_iff_toInt_le, ← Int32.toInt_inj, Int32.reduceToInt] at *; omega)
set_option maxHeartbeats 400000 in
theorem c_X11_isLane (n : Nat) (ρ : Rho) (I : Mem) (x : Int32) (hn9 : n ≤ 999)  : MI yX11_isLane cX11_isLane 1 (some .boolean) 0 [.int x] n ρ I (fun v I1 => v = bI (0 ≤ x ∧ x < 3) ∧ I = I1) := by
  refine MG.of (by decide +kernel) (Nat.le_of_ble_eq_true rfl) hn9 ?_
  intro κ C hR
  show G κ n ρ 0 [(0, .int x)] [] I
  refine g_iload_n C (pc := 0) dX11_isLane_0 0 rfl ?_
  refine g_if_lt C (pc := 1) 13 dX11_isLane_1 (by decide) (fun c1 => ?_) (fun c1 => ?_)
  · refine g_iconst C (pc := 13) 0 dX11_isLane_13 (by decide) ?_
    refine g_zret C hR (pc := 14) rfl rfl dX11_isLane_14 ?_
    refine ⟨rfl, _, rfl, ?_⟩
    refine ⟨?_, rfl⟩
    unfold bI; split <;> first | rfl | (exfalso; simp only [ne_eq, Int32.lt_iff_toInt_lt, Int32.le_iff_toInt_le, ← Int32.toInt_inj, Int32.reduceToInt] at *; omega)
  · refine g_iload_n C (pc := 4) dX11_isLane_4 0 rfl ?_
    refine g_iconst C (pc := 5) 3 dX11_isLane_5 (by decide) ?_
    refine g_icmp_ge C (pc := 6) 13 dX11_isLane_6 (by decide) (fun c6 => ?_) (fun c6 => ?_)
    · refine g_iconst C (pc := 13) 0 dX11_isLane_13 (by decide) ?_
      refine g_zret C hR (pc := 14) rfl rfl dX11_isLane_14 ?_
      refine ⟨rfl, _, rfl, ?_⟩
      refine ⟨?_, rfl⟩
      unfold bI; split <;> first | rfl | (exfalso; simp only [ne_eq, Int32.lt_iff_toInt_lt, Int32.le_iff_toInt_le, ← Int32.toInt_inj, Int32.reduceToInt] at *; omega)
    · refine g_iconst C (pc := 9) 1 dX11_isLane_9 (by decide) ?_
      refine g_goto C (pc := 10) 14 dX11_isLane_10 (by decide) ?_
      refine g_zret C hR (pc := 14) rfl rfl dX11_isLane_14 ?_
      refine ⟨rfl, _, rfl, ?_⟩
      refine ⟨?_, rfl⟩
      unfold bI; split <;> first | rfl | (exfalso; simp only [ne_eq, Int32.lt_iff_toInt_lt, Int32.le_iff_toInt_le, ← Int32.toInt_inj, Int32.reduceToInt] at *; omega)
set_option maxHeartbeats 400000 in
theorem c_X5_squares (n : Nat) (ρ : Rho) (I : Mem) (r : Nat) (hn9 : n ≤ 999) (hrf : Rf n ρ r) : MI yX5_squares cX5_squares 1 (some .int) 0 [.ref r] n ρ I (fun v I1 => v = I r 3 * I r 4 ∧ I = I1) := by
  refine MG.of (by decide +kernel) (Nat.le_of_ble_eq_true rfl) hn9 ?_
  intro κ C hR
  show G κ n ρ 0 [(0, .ref r)] [] I
  obtain ⟨hq0, hq1, hq2, hq3, hqn, ht0, ht1, ht2⟩ := id hrf
  refine g_aload_n C (pc := 0) dX5_squares_0 0 rfl ?_
  refine g_getI C (pc := 1) fl_RX5_21 (by decide) (by first | assumption | rfl | omega) (by first | assumption | rfl | omega) dX5_squares_1 ?_
  refine g_aload_n C (pc := 4) dX5_squares_4 0 rfl ?_
  refine g_getI C (pc := 5) fl_RX5_25 (by decide) (by first | assumption | rfl | omega) (by first | assumption | rfl | omega) dX5_squares_5 ?_
  refine g_imul C (pc := 8) dX5_squares_8 ?_
  refine g_iret C hR (pc := 9) rfl dX5_squares_9 ?_
  refine ⟨rfl, _, rfl, ?_⟩
  refine ⟨?_, rfl⟩
  first | rfl | (split <;> first | rfl | (exfalso; simp only [ne_eq, Int32.lt_iff_toInt_lt, Int32.le_iff_toInt_le, ← Int32.toInt_inj, Int32.reduceToInt] at *; omega))
set_option maxHeartbeats 400000 in
theorem c_X5_isSquare (n : Nat) (ρ : Rho) (I : Mem) (r : Nat) (x : Int32) (hn9 : n ≤ 999) (hrf : Rf n ρ r) : MI yX5_isSquare cX5_isSquare 2 (some .boolean) 0 [.ref r, .int x] n ρ I (fun v I1 => v = bI (0 ≤ x ∧ x < I r 3 * I r 4) ∧ I = I1) := by
  refine MG.of (by decide +kernel) (Nat.le_of_ble_eq_true rfl) hn9 ?_
  intro κ C hR
  show G κ n ρ 0 [(0, .ref r), (1, .int x)] [] I
  obtain ⟨hq0, hq1, hq2, hq3, hqn, ht0, ht1, ht2⟩ := id hrf
  refine g_iload_n C (pc := 0) dX5_isSquare_0 1 rfl ?_
  refine g_if_lt C (pc := 1) 21 dX5_isSquare_1 (by decide) (fun c1 => ?_) (fun c1 => ?_)
  · refine g_iconst C (pc := 21) 0 dX5_isSquare_21 (by decide) ?_
    refine g_zret C hR (pc := 22) rfl rfl dX5_isSquare_22 ?_
    refine ⟨rfl, _, rfl, ?_⟩
    refine ⟨?_, rfl⟩
    unfold bI; split <;> first | rfl | (exfalso; simp only [ne_eq, Int32.lt_iff_toInt_lt, Int32.le_iff_toInt_le, ← Int32.toInt_inj, Int32.reduceToInt] at *; omega)
  · refine g_iload_n C (pc := 4) dX5_isSquare_4 1 rfl ?_
    refine g_aload_n C (pc := 5) dX5_isSquare_5 0 rfl ?_
    refine g_getI C (pc := 6) fl_RX5_21 (by decide) (by first | assumption | rfl | omega) (by first | assumption | rfl | omega) dX5_isSquare_6 ?_
    refine g_aload_n C (pc := 9) dX5_isSquare_9 0 rfl ?_
    refine g_getI C (pc := 10) fl_RX5_25 (by decide) (by first | assumption | rfl | omega) (by first | assumption | rfl | omega) dX5_isSquare_10 ?_
    refine g_imul C (pc := 13) dX5_isSquare_13 ?_
    refine g_icmp_ge C (pc := 14) 21 dX5_isSquare_14 (by decide) (fun c14 => ?_) (fun c14 => ?_)
    · refine g_iconst C (pc := 21) 0 dX5_isSquare_21 (by decide) ?_
      refine g_zret C hR (pc := 22) rfl rfl dX5_isSquare_22 ?_
      refine ⟨rfl, _, rfl, ?_⟩
      refine ⟨?_, rfl⟩
      unfold bI; split <;> first | rfl | (exfalso; simp only [ne_eq, Int32.lt_iff_toInt_lt, Int32.le_iff_toInt_le, ← Int32.toInt_inj, Int32.reduceToInt] at *; omega)
    · refine g_iconst C (pc := 17) 1 dX5_isSquare_17 (by decide) ?_
      refine g_goto C (pc := 18) 22 dX5_isSquare_18 (by decide) ?_
      refine g_zret C hR (pc := 22) rfl rfl dX5_isSquare_22 ?_
      refine ⟨rfl, _, rfl, ?_⟩
      refine ⟨?_, rfl⟩
      unfold bI; split <;> first | rfl | (exfalso; simp only [ne_eq, Int32.lt_iff_toInt_lt, Int32.le_iff_toInt_le, ← Int32.toInt_inj, Int32.reduceToInt] at *; omega)
set_option maxHeartbeats 400000 in
theorem c_X5_isPiece (n : Nat) (ρ : Rho) (I : Mem) (r : Nat) (x : Int32) (hn9 : n ≤ 999) (hrf : Rf n ρ r) : MI yX5_isPiece cX5_isPiece 2 (some .boolean) 0 [.ref r, .int x] n ρ I (fun v I1 => v = bI (0 ≤ x ∧ x < I r 6) ∧ I = I1) := by
  refine MG.of (by decide +kernel) (Nat.le_of_ble_eq_true rfl) hn9 ?_
  intro κ C hR
  show G κ n ρ 0 [(0, .ref r), (1, .int x)] [] I
  obtain ⟨hq0, hq1, hq2, hq3, hqn, ht0, ht1, ht2⟩ := id hrf
  refine g_iload_n C (pc := 0) dX5_isPiece_0 1 rfl ?_
  refine g_if_lt C (pc := 1) 16 dX5_isPiece_1 (by decide) (fun c1 => ?_) (fun c1 => ?_)
  · refine g_iconst C (pc := 16) 0 dX5_isPiece_16 (by decide) ?_
    refine g_zret C hR (pc := 17) rfl rfl dX5_isPiece_17 ?_
    refine ⟨rfl, _, rfl, ?_⟩
    refine ⟨?_, rfl⟩
    unfold bI; split <;> first | rfl | (exfalso; simp only [ne_eq, Int32.lt_iff_toInt_lt, Int32.le_iff_toInt_le, ← Int32.toInt_inj, Int32.reduceToInt] at *; omega)
  · refine g_iload_n C (pc := 4) dX5_isPiece_4 1 rfl ?_
    refine g_aload_n C (pc := 5) dX5_isPiece_5 0 rfl ?_
    refine g_getI C (pc := 6) fl_RX5_31 (by decide) (by first | assumption | rfl | omega) (by first | assumption | rfl | omega) dX5_isPiece_6 ?_
    refine g_icmp_ge C (pc := 9) 16 dX5_isPiece_9 (by decide) (fun c9 => ?_) (fun c9 => ?_)
    · refine g_iconst C (pc := 16) 0 dX5_isPiece_16 (by decide) ?_
      refine g_zret C hR (pc := 17) rfl rfl dX5_isPiece_17 ?_
      refine ⟨rfl, _, rfl, ?_⟩
      refine ⟨?_, rfl⟩
      unfold bI; split <;> first | rfl | (exfalso; simp only [ne_eq, Int32.lt_iff_toInt_lt, Int32.le_iff_toInt_le, ← Int32.toInt_inj, Int32.reduceToInt] at *; omega)
    · refine g_iconst C (pc := 12) 1 dX5_isPiece_12 (by decide) ?_
      refine g_goto C (pc := 13) 17 dX5_isPiece_13 (by decide) ?_
      refine g_zret C hR (pc := 17) rfl rfl dX5_isPiece_17 ?_
      refine ⟨rfl, _, rfl, ?_⟩
      refine ⟨?_, rfl⟩
      unfold bI; split <;> first | rfl | (exfalso; simp only [ne_eq, Int32.lt_iff_toInt_lt, Int32.le_iff_toInt_le, ← Int32.toInt_inj, Int32.reduceToInt] at *; omega)
set_option maxHeartbeats 400000 in
theorem c_X5_sideOf (n : Nat) (ρ : Rho) (I : Mem) (r : Nat) (x : Int32) (hn9 : n ≤ 999) (hrf : Rf n ρ r) : MI yX5_sideOf cX5_sideOf 2 (some .int) 0 [.ref r, .int x] n ρ I (fun v I1 => v = (if 0 ≤ x ∧ x < I r 6 ∧ x < 6 then I (r + 1) x.toNatClampNeg else -4) ∧ I = I1) := by
  refine MG.of (by decide +kernel) (Nat.le_of_ble_eq_true rfl) hn9 ?_
  intro κ C hR
  show G κ n ρ 0 [(0, .ref r), (1, .int x)] [] I
  obtain ⟨hq0, hq1, hq2, hq3, hqn, ht0, ht1, ht2⟩ := id hrf
  refine g_iload_n C (pc := 0) dX5_sideOf_0 1 rfl ?_
  refine g_if_lt C (pc := 1) 30 dX5_sideOf_1 (by decide) (fun c1 => ?_) (fun c1 => ?_)
  · refine g_bipush C (pc := 30) (-4) dX5_sideOf_30 (by decide) ?_
    refine g_iret C hR (pc := 32) rfl dX5_sideOf_32 ?_
    refine ⟨rfl, _, rfl, ?_⟩
    refine ⟨?_, rfl⟩
    first | rfl | (split <;> first | rfl | (exfalso; simp only [ne_eq, Int32.lt_iff_toInt_lt, Int32.le_iff_toInt_le, ← Int32.toInt_inj, Int32.reduceToInt] at *; omega))
  · refine g_iload_n C (pc := 4) dX5_sideOf_4 1 rfl ?_
    refine g_aload_n C (pc := 5) dX5_sideOf_5 0 rfl ?_
    refine g_getI C (pc := 6) fl_RX5_31 (by decide) (by first | assumption | rfl | omega) (by first | assumption | rfl | omega) dX5_sideOf_6 ?_
    refine g_icmp_ge C (pc := 9) 30 dX5_sideOf_9 (by decide) (fun c9 => ?_) (fun c9 => ?_)
    · refine g_bipush C (pc := 30) (-4) dX5_sideOf_30 (by decide) ?_
      refine g_iret C hR (pc := 32) rfl dX5_sideOf_32 ?_
      refine ⟨rfl, _, rfl, ?_⟩
      refine ⟨?_, rfl⟩
      first | rfl | (split <;> first | rfl | (exfalso; simp only [ne_eq, Int32.lt_iff_toInt_lt, Int32.le_iff_toInt_le, ← Int32.toInt_inj, Int32.reduceToInt] at *; omega))
    · refine g_iload_n C (pc := 12) dX5_sideOf_12 1 rfl ?_
      refine g_aload_n C (pc := 13) dX5_sideOf_13 0 rfl ?_
      refine g_getR C (pc := 14) fl_RX5_9 (by decide) (by first | assumption | rfl | omega) (by first | assumption | rfl | omega) (by first | assumption | rfl | omega) dX5_sideOf_14 ?_
      refine g_alen C (pc := 17) 6 (by first | assumption | rfl | omega) (by decide) (by first | assumption | rfl | omega) rfl dX5_sideOf_17 ?_
      refine g_icmp_ge C (pc := 18) 30 dX5_sideOf_18 (by decide) (fun c18 => ?_) (fun c18 => ?_)
      · refine g_bipush C (pc := 30) (-4) dX5_sideOf_30 (by decide) ?_
        refine g_iret C hR (pc := 32) rfl dX5_sideOf_32 ?_
        refine ⟨rfl, _, rfl, ?_⟩
        refine ⟨?_, rfl⟩
        first | rfl | (split <;> first | rfl | (exfalso; simp only [ne_eq, Int32.lt_iff_toInt_lt, Int32.le_iff_toInt_le, ← Int32.toInt_inj, Int32.reduceToInt] at *; omega))
      · refine g_aload_n C (pc := 21) dX5_sideOf_21 0 rfl ?_
        refine g_getR C (pc := 22) fl_RX5_9 (by decide) (by first | assumption | rfl | omega) (by first | assumption | rfl | omega) (by first | assumption | rfl | omega) dX5_sideOf_22 ?_
        refine g_iload_n C (pc := 25) dX5_sideOf_25 1 rfl ?_
        refine g_iald C (pc := 26) (by first | assumption | rfl | omega) (by first | assumption | rfl | omega) (by first | assumption | exact vp_in_of2 (by decide) (by assumption) (by assumption)) dX5_sideOf_26 ?_
        refine g_goto C (pc := 27) 32 dX5_sideOf_27 (by decide) ?_
        refine g_iret C hR (pc := 32) rfl dX5_sideOf_32 ?_
        refine ⟨rfl, _, rfl, ?_⟩
        refine ⟨?_, rfl⟩
        first | rfl | (split <;> first | rfl | (exfalso; simp only [ne_eq, Int32.lt_iff_toInt_lt, Int32.le_iff_toInt_le, ← Int32.toInt_inj, Int32.reduceToInt] at *; omega))
set_option maxHeartbeats 400000 in
theorem c_X5_kindOf (n : Nat) (ρ : Rho) (I : Mem) (r : Nat) (x : Int32) (hn9 : n ≤ 999) (hrf : Rf n ρ r) : MI yX5_kindOf cX5_kindOf 2 (some .int) 0 [.ref r, .int x] n ρ I (fun v I1 => v = (if 0 ≤ x ∧ x < I r 6 ∧ x < 6 then I (r + 2) x.toNatClampNeg else -4) ∧ I = I1) := by
  refine MG.of (by decide +kernel) (Nat.le_of_ble_eq_true rfl) hn9 ?_
  intro κ C hR
  show G κ n ρ 0 [(0, .ref r), (1, .int x)] [] I
  obtain ⟨hq0, hq1, hq2, hq3, hqn, ht0, ht1, ht2⟩ := id hrf
  refine g_iload_n C (pc := 0) dX5_kindOf_0 1 rfl ?_
  refine g_if_lt C (pc := 1) 30 dX5_kindOf_1 (by decide) (fun c1 => ?_) (fun c1 => ?_)
  · refine g_bipush C (pc := 30) (-4) dX5_kindOf_30 (by decide) ?_
    refine g_iret C hR (pc := 32) rfl dX5_kindOf_32 ?_
    refine ⟨rfl, _, rfl, ?_⟩
    refine ⟨?_, rfl⟩
    first | rfl | (split <;> first | rfl | (exfalso; simp only [ne_eq, Int32.lt_iff_toInt_lt, Int32.le_iff_toInt_le, ← Int32.toInt_inj, Int32.reduceToInt] at *; omega))
  · refine g_iload_n C (pc := 4) dX5_kindOf_4 1 rfl ?_
    refine g_aload_n C (pc := 5) dX5_kindOf_5 0 rfl ?_
    refine g_getI C (pc := 6) fl_RX5_31 (by decide) (by first | assumption | rfl | omega) (by first | assumption | rfl | omega) dX5_kindOf_6 ?_
    refine g_icmp_ge C (pc := 9) 30 dX5_kindOf_9 (by decide) (fun c9 => ?_) (fun c9 => ?_)
    · refine g_bipush C (pc := 30) (-4) dX5_kindOf_30 (by decide) ?_
      refine g_iret C hR (pc := 32) rfl dX5_kindOf_32 ?_
      refine ⟨rfl, _, rfl, ?_⟩
      refine ⟨?_, rfl⟩
      first | rfl | (split <;> first | rfl | (exfalso; simp only [ne_eq, Int32.lt_iff_toInt_lt, Int32.le_iff_toInt_le, ← Int32.toInt_inj, Int32.reduceToInt] at *; omega))
    · refine g_iload_n C (pc := 12) dX5_kindOf_12 1 rfl ?_
      refine g_aload_n C (pc := 13) dX5_kindOf_13 0 rfl ?_
      refine g_getR C (pc := 14) fl_RX5_15 (by decide) (by first | assumption | rfl | omega) (by first | assumption | rfl | omega) (by first | assumption | rfl | omega) dX5_kindOf_14 ?_
      refine g_alen C (pc := 17) 6 (by first | assumption | rfl | omega) (by decide) (by first | assumption | rfl | omega) rfl dX5_kindOf_17 ?_
      refine g_icmp_ge C (pc := 18) 30 dX5_kindOf_18 (by decide) (fun c18 => ?_) (fun c18 => ?_)
      · refine g_bipush C (pc := 30) (-4) dX5_kindOf_30 (by decide) ?_
        refine g_iret C hR (pc := 32) rfl dX5_kindOf_32 ?_
        refine ⟨rfl, _, rfl, ?_⟩
        refine ⟨?_, rfl⟩
        first | rfl | (split <;> first | rfl | (exfalso; simp only [ne_eq, Int32.lt_iff_toInt_lt, Int32.le_iff_toInt_le, ← Int32.toInt_inj, Int32.reduceToInt] at *; omega))
      · refine g_aload_n C (pc := 21) dX5_kindOf_21 0 rfl ?_
        refine g_getR C (pc := 22) fl_RX5_15 (by decide) (by first | assumption | rfl | omega) (by first | assumption | rfl | omega) (by first | assumption | rfl | omega) dX5_kindOf_22 ?_
        refine g_iload_n C (pc := 25) dX5_kindOf_25 1 rfl ?_
        refine g_iald C (pc := 26) (by first | assumption | rfl | omega) (by first | assumption | rfl | omega) (by first | assumption | exact vp_in_of2 (by decide) (by assumption) (by assumption)) dX5_kindOf_26 ?_
        refine g_goto C (pc := 27) 32 dX5_kindOf_27 (by decide) ?_
        refine g_iret C hR (pc := 32) rfl dX5_kindOf_32 ?_
        refine ⟨rfl, _, rfl, ?_⟩
        refine ⟨?_, rfl⟩
        first | rfl | (split <;> first | rfl | (exfalso; simp only [ne_eq, Int32.lt_iff_toInt_lt, Int32.le_iff_toInt_le, ← Int32.toInt_inj, Int32.reduceToInt] at *; omega))
set_option maxHeartbeats 400000 in
theorem c_X5_oddsOf (n : Nat) (ρ : Rho) (I : Mem) (r : Nat) (x : Int32) (hn9 : n ≤ 999) (hrf : Rf n ρ r) : MI yX5_oddsOf cX5_oddsOf 2 (some .int) 0 [.ref r, .int x] n ρ I (fun v I1 => v = (if 0 ≤ x ∧ x < 5 then I (r + 3) x.toNatClampNeg else 0) ∧ I = I1) := by
  refine MG.of (by decide +kernel) (Nat.le_of_ble_eq_true rfl) hn9 ?_
  intro κ C hR
  show G κ n ρ 0 [(0, .ref r), (1, .int x)] [] I
  obtain ⟨hq0, hq1, hq2, hq3, hqn, ht0, ht1, ht2⟩ := id hrf
  refine g_iload_n C (pc := 0) dX5_oddsOf_0 1 rfl ?_
  refine g_if_lt C (pc := 1) 22 dX5_oddsOf_1 (by decide) (fun c1 => ?_) (fun c1 => ?_)
  · refine g_iconst C (pc := 22) 0 dX5_oddsOf_22 (by decide) ?_
    refine g_iret C hR (pc := 23) rfl dX5_oddsOf_23 ?_
    refine ⟨rfl, _, rfl, ?_⟩
    refine ⟨?_, rfl⟩
    first | rfl | (split <;> first | rfl | (exfalso; simp only [ne_eq, Int32.lt_iff_toInt_lt, Int32.le_iff_toInt_le, ← Int32.toInt_inj, Int32.reduceToInt] at *; omega))
  · refine g_iload_n C (pc := 4) dX5_oddsOf_4 1 rfl ?_
    refine g_aload_n C (pc := 5) dX5_oddsOf_5 0 rfl ?_
    refine g_getR C (pc := 6) fl_RX5_18 (by decide) (by first | assumption | rfl | omega) (by first | assumption | rfl | omega) (by first | assumption | rfl | omega) dX5_oddsOf_6 ?_
    refine g_alen C (pc := 9) 5 (by first | assumption | rfl | omega) (by decide) (by first | assumption | rfl | omega) rfl dX5_oddsOf_9 ?_
    refine g_icmp_ge C (pc := 10) 22 dX5_oddsOf_10 (by decide) (fun c10 => ?_) (fun c10 => ?_)
    · refine g_iconst C (pc := 22) 0 dX5_oddsOf_22 (by decide) ?_
      refine g_iret C hR (pc := 23) rfl dX5_oddsOf_23 ?_
      refine ⟨rfl, _, rfl, ?_⟩
      refine ⟨?_, rfl⟩
      first | rfl | (split <;> first | rfl | (exfalso; simp only [ne_eq, Int32.lt_iff_toInt_lt, Int32.le_iff_toInt_le, ← Int32.toInt_inj, Int32.reduceToInt] at *; omega))
    · refine g_aload_n C (pc := 13) dX5_oddsOf_13 0 rfl ?_
      refine g_getR C (pc := 14) fl_RX5_18 (by decide) (by first | assumption | rfl | omega) (by first | assumption | rfl | omega) (by first | assumption | rfl | omega) dX5_oddsOf_14 ?_
      refine g_iload_n C (pc := 17) dX5_oddsOf_17 1 rfl ?_
      refine g_iald C (pc := 18) (by first | assumption | rfl | omega) (by first | assumption | rfl | omega) (by first | assumption | exact vp_in_of2 (by decide) (by assumption) (by assumption)) dX5_oddsOf_18 ?_
      refine g_goto C (pc := 19) 23 dX5_oddsOf_19 (by decide) ?_
      refine g_iret C hR (pc := 23) rfl dX5_oddsOf_23 ?_
      refine ⟨rfl, _, rfl, ?_⟩
      refine ⟨?_, rfl⟩
      first | rfl | (split <;> first | rfl | (exfalso; simp only [ne_eq, Int32.lt_iff_toInt_lt, Int32.le_iff_toInt_le, ← Int32.toInt_inj, Int32.reduceToInt] at *; omega))
set_option maxHeartbeats 400000 in
theorem c_X5_setOdds (n : Nat) (ρ : Rho) (I : Mem) (r : Nat) (x z : Int32) (hn9 : n ≤ 999) (hrf : Rf n ρ r) : MV yX5_setOdds cX5_setOdds 3 none 0 [.ref r, .int x, .int z] n ρ I (fun I1 => (if 0 ≤ x ∧ x < 5 then wr I (r + 3) x.toNatClampNeg z else I) = I1) := by
  refine MG.of (by decide +kernel) (Nat.le_of_ble_eq_true rfl) hn9 ?_
  intro κ C hR
  show G κ n ρ 0 [(0, .ref r), (1, .int x), (2, .int z)] [] I
  obtain ⟨hq0, hq1, hq2, hq3, hqn, ht0, ht1, ht2⟩ := id hrf
  refine g_iload_n C (pc := 0) dX5_setOdds_0 1 rfl ?_
  refine g_if_lt C (pc := 1) 20 dX5_setOdds_1 (by decide) (fun c1 => ?_) (fun c1 => ?_)
  · refine g_vret C hR (pc := 20) rfl dX5_setOdds_20 ?_
    refine ⟨rfl, rfl, ?_⟩
    first | rfl | (split <;> first | rfl | (exfalso; simp only [ne_eq, Int32.lt_iff_toInt_lt, Int32.le_iff_toInt_le, ← Int32.toInt_inj, Int32.reduceToInt] at *; omega))
  · refine g_iload_n C (pc := 4) dX5_setOdds_4 1 rfl ?_
    refine g_aload_n C (pc := 5) dX5_setOdds_5 0 rfl ?_
    refine g_getR C (pc := 6) fl_RX5_18 (by decide) (by first | assumption | rfl | omega) (by first | assumption | rfl | omega) (by first | assumption | rfl | omega) dX5_setOdds_6 ?_
    refine g_alen C (pc := 9) 5 (by first | assumption | rfl | omega) (by decide) (by first | assumption | rfl | omega) rfl dX5_setOdds_9 ?_
    refine g_icmp_ge C (pc := 10) 20 dX5_setOdds_10 (by decide) (fun c10 => ?_) (fun c10 => ?_)
    · refine g_vret C hR (pc := 20) rfl dX5_setOdds_20 ?_
      refine ⟨rfl, rfl, ?_⟩
      first | rfl | (split <;> first | rfl | (exfalso; simp only [ne_eq, Int32.lt_iff_toInt_lt, Int32.le_iff_toInt_le, ← Int32.toInt_inj, Int32.reduceToInt] at *; omega))
    · refine g_aload_n C (pc := 13) dX5_setOdds_13 0 rfl ?_
      refine g_getR C (pc := 14) fl_RX5_18 (by decide) (by first | assumption | rfl | omega) (by first | assumption | rfl | omega) (by first | assumption | rfl | omega) dX5_setOdds_14 ?_
      refine g_iload_n C (pc := 17) dX5_setOdds_17 1 rfl ?_
      refine g_iload_n C (pc := 18) dX5_setOdds_18 2 rfl ?_
      refine g_iast C (pc := 19) (by first | assumption | rfl | omega) (by first | assumption | rfl | omega) hn9 (by first | assumption | exact vp_in_of2 (by decide) (by assumption) (by assumption)) dX5_setOdds_19 ?_
      refine g_vret C hR (pc := 20) rfl dX5_setOdds_20 ?_
      refine ⟨rfl, rfl, ?_⟩
      first | rfl | (split <;> first | rfl | (exfalso; simp only [ne_eq, Int32.lt_iff_toInt_lt, Int32.le_iff_toInt_le, ← Int32.toInt_inj, Int32.reduceToInt] at *; omega))
set_option maxHeartbeats 400000 in
theorem c_X5_bitOf (n : Nat) (ρ : Rho) (I : Mem) (x : Int32) (hn9 : n ≤ 999)  : MI yX5_bitOf cX5_bitOf 1 (some .int) 0 [.int x] n ρ I (fun v I1 => v = bitO x ∧ I = I1) := by
  refine MG.of (by decide +kernel) (Nat.le_of_ble_eq_true rfl) hn9 ?_
  intro κ C hR
  show G κ n ρ 0 [(0, .int x)] [] I
  refine g_iload_n C (pc := 0) dX5_bitOf_0 0 rfl ?_
  refine g_if_lt C (pc := 1) 16 dX5_bitOf_1 (by decide) (fun c1 => ?_) (fun c1 => ?_)
  · refine g_iconst C (pc := 16) 0 dX5_bitOf_16 (by decide) ?_
    refine g_iret C hR (pc := 17) rfl dX5_bitOf_17 ?_
    refine ⟨rfl, _, rfl, ?_⟩
    refine ⟨?_, rfl⟩
    unfold bitO; split <;> first | rfl | (exfalso; simp only [ne_eq, Int32.lt_iff_toInt_lt, Int32.le_iff_toInt_le, ← Int32.toInt_inj, Int32.reduceToInt] at *; omega)
  · refine g_iload_n C (pc := 4) dX5_bitOf_4 0 rfl ?_
    refine g_bipush C (pc := 5) 25 dX5_bitOf_5 (by decide) ?_
    refine g_icmp_ge C (pc := 7) 16 dX5_bitOf_7 (by decide) (fun c7 => ?_) (fun c7 => ?_)
    · refine g_iconst C (pc := 16) 0 dX5_bitOf_16 (by decide) ?_
      refine g_iret C hR (pc := 17) rfl dX5_bitOf_17 ?_
      refine ⟨rfl, _, rfl, ?_⟩
      refine ⟨?_, rfl⟩
      unfold bitO; split <;> first | rfl | (exfalso; simp only [ne_eq, Int32.lt_iff_toInt_lt, Int32.le_iff_toInt_le, ← Int32.toInt_inj, Int32.reduceToInt] at *; omega)
    · refine g_iconst C (pc := 10) 1 dX5_bitOf_10 (by decide) ?_
      refine g_iload_n C (pc := 11) dX5_bitOf_11 0 rfl ?_
      refine g_ishl C (pc := 12) dX5_bitOf_12 ?_
      refine g_goto C (pc := 13) 17 dX5_bitOf_13 (by decide) ?_
      refine g_iret C hR (pc := 17) rfl dX5_bitOf_17 ?_
      refine ⟨rfl, _, rfl, ?_⟩
      refine ⟨?_, rfl⟩
      unfold bitO; split <;> first | rfl | (exfalso; simp only [ne_eq, Int32.lt_iff_toInt_lt, Int32.le_iff_toInt_le, ← Int32.toInt_inj, Int32.reduceToInt] at *; omega)
set_option maxHeartbeats 400000 in
theorem c_X5_isClosed (n : Nat) (ρ : Rho) (I : Mem) (r : Nat) (x : Int32) (hn9 : n ≤ 999) (hrf : Rf n ρ r) : MI yX5_isClosed cX5_isClosed 2 (some .boolean) 1 [.ref r, .int x] n ρ I (fun v I1 => v = bI (¬ (I r 5 &&& bitO x) = 0) ∧ I = I1) := by
  refine MG.of (by decide +kernel) (Nat.le_of_ble_eq_true rfl) hn9 ?_
  intro κ C hR
  show G κ n ρ 0 [(0, .ref r), (1, .int x)] [] I
  obtain ⟨hq0, hq1, hq2, hq3, hqn, ht0, ht1, ht2⟩ := id hrf
  refine g_aload_n C (pc := 0) dX5_isClosed_0 0 rfl ?_
  refine g_getI C (pc := 1) fl_RX5_28 (by decide) (by first | assumption | rfl | omega) (by first | assumption | rfl | omega) dX5_isClosed_1 ?_
  refine g_iload_n C (pc := 4) dX5_isClosed_4 1 rfl ?_
  refine g_callSI C (pc := 5) mf_X5_bitOf lk_RX5_44 (c_X5_bitOf n ρ _ _ hn9) (by decide) (Nat.le_refl _) rfl (Nat.le_of_ble_eq_true rfl) dX5_isClosed_5 (fun v5 I5 h5 => ?_)
  obtain ⟨e5, rfl⟩ := h5
  refine g_iand C (pc := 8) dX5_isClosed_8 ?_
  refine g_if_eq C (pc := 9) 16 dX5_isClosed_9 (by decide) (fun c9 => ?_) (fun c9 => ?_)
  · refine g_iconst C (pc := 16) 0 dX5_isClosed_16 (by decide) ?_
    refine g_zret C hR (pc := 17) rfl rfl dX5_isClosed_17 ?_
    refine ⟨rfl, _, rfl, ?_⟩
    refine ⟨?_, rfl⟩
    simp_all [bI]
  · refine g_iconst C (pc := 12) 1 dX5_isClosed_12 (by decide) ?_
    refine g_goto C (pc := 13) 17 dX5_isClosed_13 (by decide) ?_
    refine g_zret C hR (pc := 17) rfl rfl dX5_isClosed_17 ?_
    refine ⟨rfl, _, rfl, ?_⟩
    refine ⟨?_, rfl⟩
    simp_all [bI]
set_option maxHeartbeats 400000 in
theorem c_X5_close (n : Nat) (ρ : Rho) (I : Mem) (r : Nat) (x z : Int32) (hn9 : n ≤ 999) (hrf : Rf n ρ r) : MV yX5_close cX5_close 3 none 1 [.ref r, .int x, .int z] n ρ I (fun I1 => wr I r 5 (if z = 0 then I r 5 &&& (bitO x ^^^ (-1)) else I r 5 ||| bitO x) = I1) := by
  refine MG.of (by decide +kernel) (Nat.le_of_ble_eq_true rfl) hn9 ?_
  intro κ C hR
  show G κ n ρ 0 [(0, .ref r), (1, .int x), (2, .int z)] [] I
  obtain ⟨hq0, hq1, hq2, hq3, hqn, ht0, ht1, ht2⟩ := id hrf
  refine g_iload_n C (pc := 0) dX5_close_0 2 rfl ?_
  refine g_if_eq C (pc := 1) 20 dX5_close_1 (by decide) (fun c1 => ?_) (fun c1 => ?_)
  · refine g_aload_n C (pc := 20) dX5_close_20 0 rfl ?_
    refine g_dup C (pc := 21) dX5_close_21 rfl ?_
    refine g_getI C (pc := 22) fl_RX5_28 (by decide) (by first | assumption | rfl | omega) (by first | assumption | rfl | omega) dX5_close_22 ?_
    refine g_iload_n C (pc := 25) dX5_close_25 1 rfl ?_
    refine g_callSI C (pc := 26) mf_X5_bitOf lk_RX5_44 (c_X5_bitOf n ρ _ _ hn9) (by decide) (Nat.le_refl _) rfl (Nat.le_of_ble_eq_true rfl) dX5_close_26 (fun v26 I26 h26 => ?_)
    obtain ⟨e26, rfl⟩ := h26
    refine g_iconst C (pc := 29) (-1) dX5_close_29 (by decide) ?_
    refine g_ixor C (pc := 30) dX5_close_30 ?_
    refine g_iand C (pc := 31) dX5_close_31 ?_
    refine g_putI C (pc := 32) fl_RX5_28 (by decide) fp_4_5 (Or.inl rfl) ⟨rfl, rfl⟩ (by first | assumption | rfl | omega) (by first | assumption | rfl | omega) hn9 dX5_close_32 ?_
    refine g_vret C hR (pc := 35) rfl dX5_close_35 ?_
    refine ⟨rfl, rfl, ?_⟩
    simp_all
  · refine g_aload_n C (pc := 4) dX5_close_4 0 rfl ?_
    refine g_dup C (pc := 5) dX5_close_5 rfl ?_
    refine g_getI C (pc := 6) fl_RX5_28 (by decide) (by first | assumption | rfl | omega) (by first | assumption | rfl | omega) dX5_close_6 ?_
    refine g_iload_n C (pc := 9) dX5_close_9 1 rfl ?_
    refine g_callSI C (pc := 10) mf_X5_bitOf lk_RX5_44 (c_X5_bitOf n ρ _ _ hn9) (by decide) (Nat.le_refl _) rfl (Nat.le_of_ble_eq_true rfl) dX5_close_10 (fun v10 I10 h10 => ?_)
    obtain ⟨e10, rfl⟩ := h10
    refine g_ior C (pc := 13) dX5_close_13 ?_
    refine g_putI C (pc := 14) fl_RX5_28 (by decide) fp_4_5 (Or.inl rfl) ⟨rfl, rfl⟩ (by first | assumption | rfl | omega) (by first | assumption | rfl | omega) hn9 dX5_close_14 ?_
    refine g_goto C (pc := 17) 35 dX5_close_17 (by decide) ?_
    refine g_vret C hR (pc := 35) rfl dX5_close_35 ?_
    refine ⟨rfl, rfl, ?_⟩
    simp_all
set_option maxHeartbeats 400000 in
theorem c_X8_placeOf (n : Nat) (ρ : Rho) (I : Mem) (s : Nat) (x : Int32) (hn9 : n ≤ 999) (hst : St n ρ s) : MI yX8_placeOf cX8_placeOf 2 (some .int) 0 [.ref s, .int x] n ρ I (fun v I1 => v = (if 0 ≤ x ∧ x < 6 then I (s + 1) x.toNatClampNeg else -4) ∧ I = I1) := by
  refine MG.of (by decide +kernel) (Nat.le_of_ble_eq_true rfl) hn9 ?_
  intro κ C hR
  show G κ n ρ 0 [(0, .ref s), (1, .int x)] [] I
  obtain ⟨hs0, hs1, hs2, hs3, hsn, hr0, hr1, hr2⟩ := id hst
  refine g_iload_n C (pc := 0) dX8_placeOf_0 1 rfl ?_
  refine g_if_lt C (pc := 1) 22 dX8_placeOf_1 (by decide) (fun c1 => ?_) (fun c1 => ?_)
  · refine g_bipush C (pc := 22) (-4) dX8_placeOf_22 (by decide) ?_
    refine g_iret C hR (pc := 24) rfl dX8_placeOf_24 ?_
    refine ⟨rfl, _, rfl, ?_⟩
    refine ⟨?_, rfl⟩
    first | rfl | (split <;> first | rfl | (exfalso; simp only [ne_eq, Int32.lt_iff_toInt_lt, Int32.le_iff_toInt_le, ← Int32.toInt_inj, Int32.reduceToInt] at *; omega))
  · refine g_iload_n C (pc := 4) dX8_placeOf_4 1 rfl ?_
    refine g_aload_n C (pc := 5) dX8_placeOf_5 0 rfl ?_
    refine g_getR C (pc := 6) fl_RX8_9 (by decide) (by first | assumption | rfl | omega) (by first | assumption | rfl | omega) (by first | assumption | rfl | omega) dX8_placeOf_6 ?_
    refine g_alen C (pc := 9) 6 (by first | assumption | rfl | omega) (by decide) (by first | assumption | rfl | omega) rfl dX8_placeOf_9 ?_
    refine g_icmp_ge C (pc := 10) 22 dX8_placeOf_10 (by decide) (fun c10 => ?_) (fun c10 => ?_)
    · refine g_bipush C (pc := 22) (-4) dX8_placeOf_22 (by decide) ?_
      refine g_iret C hR (pc := 24) rfl dX8_placeOf_24 ?_
      refine ⟨rfl, _, rfl, ?_⟩
      refine ⟨?_, rfl⟩
      first | rfl | (split <;> first | rfl | (exfalso; simp only [ne_eq, Int32.lt_iff_toInt_lt, Int32.le_iff_toInt_le, ← Int32.toInt_inj, Int32.reduceToInt] at *; omega))
    · refine g_aload_n C (pc := 13) dX8_placeOf_13 0 rfl ?_
      refine g_getR C (pc := 14) fl_RX8_9 (by decide) (by first | assumption | rfl | omega) (by first | assumption | rfl | omega) (by first | assumption | rfl | omega) dX8_placeOf_14 ?_
      refine g_iload_n C (pc := 17) dX8_placeOf_17 1 rfl ?_
      refine g_iald C (pc := 18) (by first | assumption | rfl | omega) (by first | assumption | rfl | omega) (by first | assumption | exact vp_in_of2 (by decide) (by assumption) (by assumption)) dX8_placeOf_18 ?_
      refine g_goto C (pc := 19) 24 dX8_placeOf_19 (by decide) ?_
      refine g_iret C hR (pc := 24) rfl dX8_placeOf_24 ?_
      refine ⟨rfl, _, rfl, ?_⟩
      refine ⟨?_, rfl⟩
      first | rfl | (split <;> first | rfl | (exfalso; simp only [ne_eq, Int32.lt_iff_toInt_lt, Int32.le_iff_toInt_le, ← Int32.toInt_inj, Int32.reduceToInt] at *; omega))
set_option maxHeartbeats 400000 in
theorem c_X8_oilOf (n : Nat) (ρ : Rho) (I : Mem) (s : Nat) (x : Int32) (hn9 : n ≤ 999) (hst : St n ρ s) : MI yX8_oilOf cX8_oilOf 2 (some .int) 0 [.ref s, .int x] n ρ I (fun v I1 => v = (if 0 ≤ x ∧ x < 6 then I (s + 2) x.toNatClampNeg else 0) ∧ I = I1) := by
  refine MG.of (by decide +kernel) (Nat.le_of_ble_eq_true rfl) hn9 ?_
  intro κ C hR
  show G κ n ρ 0 [(0, .ref s), (1, .int x)] [] I
  obtain ⟨hs0, hs1, hs2, hs3, hsn, hr0, hr1, hr2⟩ := id hst
  refine g_iload_n C (pc := 0) dX8_oilOf_0 1 rfl ?_
  refine g_if_lt C (pc := 1) 22 dX8_oilOf_1 (by decide) (fun c1 => ?_) (fun c1 => ?_)
  · refine g_iconst C (pc := 22) 0 dX8_oilOf_22 (by decide) ?_
    refine g_iret C hR (pc := 23) rfl dX8_oilOf_23 ?_
    refine ⟨rfl, _, rfl, ?_⟩
    refine ⟨?_, rfl⟩
    first | rfl | (split <;> first | rfl | (exfalso; simp only [ne_eq, Int32.lt_iff_toInt_lt, Int32.le_iff_toInt_le, ← Int32.toInt_inj, Int32.reduceToInt] at *; omega))
  · refine g_iload_n C (pc := 4) dX8_oilOf_4 1 rfl ?_
    refine g_aload_n C (pc := 5) dX8_oilOf_5 0 rfl ?_
    refine g_getR C (pc := 6) fl_RX8_15 (by decide) (by first | assumption | rfl | omega) (by first | assumption | rfl | omega) (by first | assumption | rfl | omega) dX8_oilOf_6 ?_
    refine g_alen C (pc := 9) 6 (by first | assumption | rfl | omega) (by decide) (by first | assumption | rfl | omega) rfl dX8_oilOf_9 ?_
    refine g_icmp_ge C (pc := 10) 22 dX8_oilOf_10 (by decide) (fun c10 => ?_) (fun c10 => ?_)
    · refine g_iconst C (pc := 22) 0 dX8_oilOf_22 (by decide) ?_
      refine g_iret C hR (pc := 23) rfl dX8_oilOf_23 ?_
      refine ⟨rfl, _, rfl, ?_⟩
      refine ⟨?_, rfl⟩
      first | rfl | (split <;> first | rfl | (exfalso; simp only [ne_eq, Int32.lt_iff_toInt_lt, Int32.le_iff_toInt_le, ← Int32.toInt_inj, Int32.reduceToInt] at *; omega))
    · refine g_aload_n C (pc := 13) dX8_oilOf_13 0 rfl ?_
      refine g_getR C (pc := 14) fl_RX8_15 (by decide) (by first | assumption | rfl | omega) (by first | assumption | rfl | omega) (by first | assumption | rfl | omega) dX8_oilOf_14 ?_
      refine g_iload_n C (pc := 17) dX8_oilOf_17 1 rfl ?_
      refine g_iald C (pc := 18) (by first | assumption | rfl | omega) (by first | assumption | rfl | omega) (by first | assumption | exact vp_in_of2 (by decide) (by assumption) (by assumption)) dX8_oilOf_18 ?_
      refine g_goto C (pc := 19) 23 dX8_oilOf_19 (by decide) ?_
      refine g_iret C hR (pc := 23) rfl dX8_oilOf_23 ?_
      refine ⟨rfl, _, rfl, ?_⟩
      refine ⟨?_, rfl⟩
      first | rfl | (split <;> first | rfl | (exfalso; simp only [ne_eq, Int32.lt_iff_toInt_lt, Int32.le_iff_toInt_le, ← Int32.toInt_inj, Int32.reduceToInt] at *; omega))
set_option maxHeartbeats 400000 in
theorem c_X8_heldBy (n : Nat) (ρ : Rho) (I : Mem) (s : Nat) (x : Int32) (hn9 : n ≤ 999) (hst : St n ρ s) : MI yX8_heldBy cX8_heldBy 2 (some .int) 0 [.ref s, .int x] n ρ I (fun v I1 => v = (if 0 ≤ x ∧ x < 2 then I (s + 3) x.toNatClampNeg else 0) ∧ I = I1) := by
  refine MG.of (by decide +kernel) (Nat.le_of_ble_eq_true rfl) hn9 ?_
  intro κ C hR
  show G κ n ρ 0 [(0, .ref s), (1, .int x)] [] I
  obtain ⟨hs0, hs1, hs2, hs3, hsn, hr0, hr1, hr2⟩ := id hst
  refine g_iload_n C (pc := 0) dX8_heldBy_0 1 rfl ?_
  refine g_if_lt C (pc := 1) 22 dX8_heldBy_1 (by decide) (fun c1 => ?_) (fun c1 => ?_)
  · refine g_iconst C (pc := 22) 0 dX8_heldBy_22 (by decide) ?_
    refine g_iret C hR (pc := 23) rfl dX8_heldBy_23 ?_
    refine ⟨rfl, _, rfl, ?_⟩
    refine ⟨?_, rfl⟩
    first | rfl | (split <;> first | rfl | (exfalso; simp only [ne_eq, Int32.lt_iff_toInt_lt, Int32.le_iff_toInt_le, ← Int32.toInt_inj, Int32.reduceToInt] at *; omega))
  · refine g_iload_n C (pc := 4) dX8_heldBy_4 1 rfl ?_
    refine g_aload_n C (pc := 5) dX8_heldBy_5 0 rfl ?_
    refine g_getR C (pc := 6) fl_RX8_18 (by decide) (by first | assumption | rfl | omega) (by first | assumption | rfl | omega) (by first | assumption | rfl | omega) dX8_heldBy_6 ?_
    refine g_alen C (pc := 9) 2 (by first | assumption | rfl | omega) (by decide) (by first | assumption | rfl | omega) rfl dX8_heldBy_9 ?_
    refine g_icmp_ge C (pc := 10) 22 dX8_heldBy_10 (by decide) (fun c10 => ?_) (fun c10 => ?_)
    · refine g_iconst C (pc := 22) 0 dX8_heldBy_22 (by decide) ?_
      refine g_iret C hR (pc := 23) rfl dX8_heldBy_23 ?_
      refine ⟨rfl, _, rfl, ?_⟩
      refine ⟨?_, rfl⟩
      first | rfl | (split <;> first | rfl | (exfalso; simp only [ne_eq, Int32.lt_iff_toInt_lt, Int32.le_iff_toInt_le, ← Int32.toInt_inj, Int32.reduceToInt] at *; omega))
    · refine g_aload_n C (pc := 13) dX8_heldBy_13 0 rfl ?_
      refine g_getR C (pc := 14) fl_RX8_18 (by decide) (by first | assumption | rfl | omega) (by first | assumption | rfl | omega) (by first | assumption | rfl | omega) dX8_heldBy_14 ?_
      refine g_iload_n C (pc := 17) dX8_heldBy_17 1 rfl ?_
      refine g_iald C (pc := 18) (by first | assumption | rfl | omega) (by first | assumption | rfl | omega) (by first | assumption | exact vp_in_of2 (by decide) (by assumption) (by assumption)) dX8_heldBy_18 ?_
      refine g_goto C (pc := 19) 23 dX8_heldBy_19 (by decide) ?_
      refine g_iret C hR (pc := 23) rfl dX8_heldBy_23 ?_
      refine ⟨rfl, _, rfl, ?_⟩
      refine ⟨?_, rfl⟩
      first | rfl | (split <;> first | rfl | (exfalso; simp only [ne_eq, Int32.lt_iff_toInt_lt, Int32.le_iff_toInt_le, ← Int32.toInt_inj, Int32.reduceToInt] at *; omega))
set_option maxHeartbeats 400000 in
theorem c_X8_fill (n : Nat) (ρ : Rho) (I : Mem) (s : Nat) (x z : Int32) (hn9 : n ≤ 999) (hst : St n ρ s) : MV yX8_fill cX8_fill 3 none 0 [.ref s, .int x, .int z] n ρ I (fun I1 => (if 0 ≤ x ∧ x < 6 then wr I (s + 2) x.toNatClampNeg z else I) = I1) := by
  refine MG.of (by decide +kernel) (Nat.le_of_ble_eq_true rfl) hn9 ?_
  intro κ C hR
  show G κ n ρ 0 [(0, .ref s), (1, .int x), (2, .int z)] [] I
  obtain ⟨hs0, hs1, hs2, hs3, hsn, hr0, hr1, hr2⟩ := id hst
  refine g_iload_n C (pc := 0) dX8_fill_0 1 rfl ?_
  refine g_if_lt C (pc := 1) 20 dX8_fill_1 (by decide) (fun c1 => ?_) (fun c1 => ?_)
  · refine g_vret C hR (pc := 20) rfl dX8_fill_20 ?_
    refine ⟨rfl, rfl, ?_⟩
    first | rfl | (split <;> first | rfl | (exfalso; simp only [ne_eq, Int32.lt_iff_toInt_lt, Int32.le_iff_toInt_le, ← Int32.toInt_inj, Int32.reduceToInt] at *; omega))
  · refine g_iload_n C (pc := 4) dX8_fill_4 1 rfl ?_
    refine g_aload_n C (pc := 5) dX8_fill_5 0 rfl ?_
    refine g_getR C (pc := 6) fl_RX8_15 (by decide) (by first | assumption | rfl | omega) (by first | assumption | rfl | omega) (by first | assumption | rfl | omega) dX8_fill_6 ?_
    refine g_alen C (pc := 9) 6 (by first | assumption | rfl | omega) (by decide) (by first | assumption | rfl | omega) rfl dX8_fill_9 ?_
    refine g_icmp_ge C (pc := 10) 20 dX8_fill_10 (by decide) (fun c10 => ?_) (fun c10 => ?_)
    · refine g_vret C hR (pc := 20) rfl dX8_fill_20 ?_
      refine ⟨rfl, rfl, ?_⟩
      first | rfl | (split <;> first | rfl | (exfalso; simp only [ne_eq, Int32.lt_iff_toInt_lt, Int32.le_iff_toInt_le, ← Int32.toInt_inj, Int32.reduceToInt] at *; omega))
    · refine g_aload_n C (pc := 13) dX8_fill_13 0 rfl ?_
      refine g_getR C (pc := 14) fl_RX8_15 (by decide) (by first | assumption | rfl | omega) (by first | assumption | rfl | omega) (by first | assumption | rfl | omega) dX8_fill_14 ?_
      refine g_iload_n C (pc := 17) dX8_fill_17 1 rfl ?_
      refine g_iload_n C (pc := 18) dX8_fill_18 2 rfl ?_
      refine g_iast C (pc := 19) (by first | assumption | rfl | omega) (by first | assumption | rfl | omega) hn9 (by first | assumption | exact vp_in_of2 (by decide) (by assumption) (by assumption)) dX8_fill_19 ?_
      refine g_vret C hR (pc := 20) rfl dX8_fill_20 ?_
      refine ⟨rfl, rfl, ?_⟩
      first | rfl | (split <;> first | rfl | (exfalso; simp only [ne_eq, Int32.lt_iff_toInt_lt, Int32.le_iff_toInt_le, ← Int32.toInt_inj, Int32.reduceToInt] at *; omega))
