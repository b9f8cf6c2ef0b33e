/-! ===== objects made ===== -/
section GN
variable {κ : Kap} {y : MethodName} {cc : ByteArray} {nL d n1 n : Nat} {ρ : Rho} {pc : Nat} {lv : List (Nat × Value)} {st : List Value} {I : Mem} {P : Option Value → Rho → Mem → Prop}
theorem g_objInit (C : Cx κ y cc nL d n1) {idx a : Nat} (hlink : Cond.methodLink y.cls idx Lib.objectInit ∈ GW) (hinst : Cond.instanceMethod Lib.objectInit ∈ GW) (hcode : Cond.code Lib.objectInit ⟨#[0xb1]⟩ 1 none ∈ GW) (hst : (st.map fun v => v.category).sum ≤ 8) (dg : decode cc pc = .ok (.invokespecial idx, 3)) (K : G κ n ρ (pc + 3) lv st I) : G κ n ρ pc lv (.ref a :: st) I := by
  obtain ⟨p, l, e, R, s, m, args, below, meth, cd, Q, dC, dI, dA, ad, n0⟩ := κ
  obtain ⟨hx, hb, hml, hown, hts, hlk, hnm, hKt, hSt, h01, h19, hrc, hrs, hfr, hlo, hb0⟩ := C
  intro h0 H locs ls hW hS hl
  refine W.objInit hx hb hown (hts _ hlink) (hts _ hinst) (hts _ hcode) rfl hl.1 rfl dg (by omega) ?_ (K h0 H locs ls hW hS hl)
  have h9 : ((st.map (cvV ad)).map fun v => v.category).sum ≤ 8 := by
    rw [List.map_map]
    have : ((fun v => v.category) ∘ cvV ad) = fun v : Value => v.category := by funext v; exact cvV_cat ad v
    rw [this]; exact hst
  show 2 * 0 + _ + 12 ≤ R.locals
  omega
theorem g_anew (C : Cx κ y cc nL d n1) {idx N : Nat} {x : Int32} (hcl : Cond.classLink y.cls idx "WeatherChess$Game" ∈ GW) (hx0 : ¬ x < 0) (hN : x.toNatClampNeg = N) (hbig : N ≤ 100000) (hs : shp n = (3, N)) (hlen : n < SH.length) (hn : n < 999) (hn1 : n + 1 ≤ n1) (dg : decode cc pc = .ok (.anewarray idx, 3)) (K : G κ (n + 1) (rclr ρ n) (pc + 3) lv (.ref n :: st) (wrA I n (fun _ => 0))) : G κ n ρ pc lv (.int x :: st) I := by
  obtain ⟨p, l, e, R, s, m, args, below, meth, cd, Q, dC, dI, dA, ad, n0⟩ := κ
  obtain ⟨hx, hb, hml, hown, hts, hlk, hnm, hKt, hSt, h01, h19, hrc, hrs, hfr, hlo, hb0⟩ := C
  intro h0 H locs ls hW hS hl
  have hsl := sl_succ n hlen
  rw [hs] at hsl
  have q1 := sl_mono h0
  have q2 := sl_mono hn1
  have hinj := hKt.2.2.2.2.2.2
  have e1 : n - n0 + 1 = n + 1 - n0 := by omega
  have e2 : sl n - sl n0 + N = sl (n + 1) - sl n0 := by rw [hsl]; show sl n - sl n0 + N = sl n + N - sl n0; omega
  subst hN
  refine W.anew hx hb hown (hts _ hcl) (va_AO.use hKt.2.2.2.2.1) rfl dg rfl hx0 (by omega) (by omega) (by rw [e2]; omega) fun cA kA comp f1 f2 f3 f4 => ?_
  rw [e1, e2]
  have had : H.size = ad n := hW.1
  generalize hH1 : H.push ({ cls := cA, slots := Array.replicate x.toNatClampNeg .null, vm := .none } : Cell) = H1
  have z1 : H1.size = H.size + 1 := by rw [← hH1, Array.size_push]
  have g1 : H1[H.size]? = some (arrV cA x.toNatClampNeg (fun _ => .null)) := by rw [← hH1, Array.getElem?_push_size, ← arrV_new]
  have o1 : ∀ q : Nat, q < H.size → H1[q]? = H[q]? := fun q hq => by rw [← hH1, Array.getElem?_push, if_neg (Nat.ne_of_lt hq)]
  have hca : cA = dA 3 := by
    obtain ⟨kB, cB, -, -, -, k4⟩ := (hKt.1.2 3 _ rfl).2
    exact Option.some.inj (f1.symm.trans k4)
  have := K (by omega) H1 locs ls (hW.push hn hinj z1 o1 (atI_of_rfs hs (by decide) ?_) (fun a ha => wrA_lt ha) (fun a ha => by unfold rclr; rw [if_neg (Nat.ne_of_lt ha)])) ⟨Nat.le_trans hS.1 (by omega), fun x h1 h2 => (o1 x (Nat.lt_of_lt_of_le h1 hS.1)).trans (hS.2.1 x h1 h2), hS.2.2⟩ hl
  · rw [had]; exact this
  · rw [had] at g1
    rw [g1, hca]
    unfold rclr
    rw [if_pos rfl]
    rfl
theorem g_aast (C : Cx κ y cc nL d n1) {i v N Nv : Nat} {j : Int32} (hs : shp i = (3, N)) (hi : i < n) (hn : n ≤ 999) (hin : vp_in j N) (hsv : shp v = (12, Nv)) (hv : v < n) (dg : decode cc pc = .ok (.aastore, 1)) (K : G κ n (rwr ρ i j.toNatClampNeg (some v)) (pc + 1) lv st I) : G κ n ρ pc lv (.ref v :: .int j :: .ref i :: st) I := by
  obtain ⟨p, l, e, R, s, m, args, below, meth, cd, Q, dC, dI, dA, ad, n0⟩ := κ
  obtain ⟨hx, hb, hml, hown, hts, hlk, hnm, hKt, -⟩ := C
  intro h0 H locs ls hW hS hl
  have hinj := hKt.2.2.2.2.2.2
  have hA : ad 0 ≤ ad i := by rw [hinj i (by omega)]; omega
  have hlt : j.toNatClampNeg < N := Nat.not_le.mp fun q => hin (Or.inr q)
  have hj0 : ¬ j < 0 := fun q => hin (Or.inl q)
  obtain ⟨r, hr, hr1⟩ : ∃ r, vwCl[2]? = some r ∧ r.1 = "WeatherChess$Game" := ⟨_, rfl, rfl⟩
  obtain ⟨cellV, g1, g2, g3, -⟩ := atI_obj (hW.2 v hv) hsv
  have hcls := (hKt.1.1 2 r hr).2
  obtain ⟨kA, comp, k1, k2, k3, -⟩ := (hKt.1.2 3 _ rfl).2
  have hcomp : comp = dC 2 := Option.some.inj (k3.symm.trans (by rw [← hr1]; exact hcls.1))
  subst hcomp
  obtain ⟨kC, hkC, -⟩ := hcls.2
  refine W.aast hx hb (atI_rfs (hW.2 i hi) hs (by decide)) (fun q h => by cases h) (fun h => by cases h) k1 k2 rfl hkC ⟨hj0, by rw [arrV_size]; exact hlt⟩ g1 (fun q h => by rw [g3] at h; cases h) (by rw [g2]; exact hkC) (by rw [g2]; exact va_assign hcls) rfl rfl dg fun H1 e1 z oq => ?_
  refine K h0 H1 _ ls (hW.put hn hi hinj z oq (atI_of_rfs hs (by decide) ?_) (fun a ha => rfl) (fun a ha => by funext b; exact rwr_n (fun h => ha h.1))) (hS.put z oq hA) hl
  rw [e1, arrV_store]
  congr 2
  funext q
  by_cases hq : q = j.toNatClampNeg
  · subst hq; simp [updV, rwr_s, va_rf]
  · rw [rwr_n (fun h => hq h.2)]; simp [updV, hq]
end GN
theorem SH_len : SH.length = 119 := by decide +kernel
theorem shp_of {i : Nat} {l : List (Nat × Nat)} (h : (SH.drop i).take l.length = l) {j : Nat} (hj : j < l.length) : shp (i + j) = l.getD j (9, 0) := by
  unfold shp
  have e : l[j]? = SH[i + j]? := by rw [← h, List.getElem?_take, if_pos hj, List.getElem?_drop]
  rw [List.getD_eq_getElem?_getD, List.getD_eq_getElem?_getD, e]
/-- so many objects from one on are new, all their ints 0; nothing else has changed *)-/
def CtQ (i k : Nat) (ρ : Rho) (I : Mem) (ρ' : Rho) (I' : Mem) : Prop := (∀ a, a < i → ρ' a = ρ a) ∧ (∀ a, a < i → I' a = I a) ∧ ∀ a, i ≤ a → a < i + k → I' a = fun _ => 0
theorem ab_arr {κ : Kap} {n i k : Nat} {ρ : Rho} {pc : Nat} {lv : List (Nat × Value)} {st : List Value} {I : Mem} (hi : i < n) (h : ∀ ρ1 I1, (∀ a, a < n → a ≠ i → ρ1 a = ρ a) → (∀ b, b ≠ k → ρ1 i b = ρ i b) → ρ1 i k = some n → (∀ a, a < n → I1 a = I a) → (∀ a, n ≤ a → a < n + 1 → I1 a = fun _ => 0) → G κ (n + 1) ρ1 pc lv st I1) : G κ (n + 1) (rwr (rclr ρ n) i k (some n)) pc lv st (wrA I n (fun _ => 0)) :=
  h _ _ (fun a ha h1 => by funext b; rw [rwr_n (fun h9 => h1 h9.1)]; unfold rclr; rw [if_neg (by omega)]) (fun b hb => by rw [rwr_n (fun h9 => hb h9.2)]; unfold rclr; rw [if_neg (by omega)]) rwr_s (fun a ha => wrA_lt ha) (fun a h1 h2 => by rw [show a = n by omega, wrA_s])
theorem ab_obj {κ : Kap} {m n i k : Nat} {ρ ρ' : Rho} {pc : Nat} {lv : List (Nat × Value)} {st : List Value} {I' : Mem} (hi : i < n) (hp : ∀ a, a < n → ρ' a = rclr ρ n a) (h : ∀ ρ1, (∀ a, a < n → a ≠ i → ρ1 a = ρ a) → (∀ b, b ≠ k → ρ1 i b = ρ i b) → ρ1 i k = some n → (∀ a, n ≤ a → ρ1 a = ρ' a) → G κ m ρ1 pc lv st I') : G κ m (rwr ρ' i k (some n)) pc lv st I' :=
  h _ (fun a ha h1 => by funext b; rw [rwr_n (fun h9 => h1 h9.1), hp a ha]; unfold rclr; rw [if_neg (by omega)]) (fun b hb => by rw [rwr_n (fun h9 => hb h9.2), hp i hi]; unfold rclr; rw [if_neg (by omega)]) rwr_s (fun a ha => by funext b; rw [rwr_n (fun h9 => by omega)])
theorem Rf.ag {m m' r : Nat} {ρ ρ' : Rho} (h : Rf m ρ r) (e : ∀ a, r ≤ a → a < r + 4 → ρ' a = ρ a) (hm : r + 3 < m') : Rf m' ρ' r := by
  obtain ⟨h1, h2, h3, h4, -, h6⟩ := h
  exact ⟨h1, h2, h3, h4, hm, by rw [e r (by omega) (by omega)]; exact h6⟩
theorem St.ag {m m' r : Nat} {ρ ρ' : Rho} (h : St m ρ r) (e : ∀ a, r ≤ a → a < r + 4 → ρ' a = ρ a) (hm : r + 3 < m') : St m' ρ' r := by
  obtain ⟨h1, h2, h3, h4, -, h6⟩ := h
  exact ⟨h1, h2, h3, h4, hm, by rw [e r (by omega) (by omega)]; exact h6⟩
theorem GaS.ag {m m' g : Nat} {ρ ρ' : Rho} (h : GaS m ρ g) (e : ∀ a, g ≤ a → a < g + 12 → ρ' a = ρ a) (hm : g + 11 < m') : GaS m' ρ' g := by
  obtain ⟨h1, a1, a2, a3, a4, a5, h2, h3, h4, -, h5, h6⟩ := h
  exact ⟨h1, by rw [e g (by omega) (by omega)]; exact a1, by rw [e g (by omega) (by omega)]; exact a2, by rw [e g (by omega) (by omega)]; exact a3, by rw [e g (by omega) (by omega)]; exact a4, by rw [e g (by omega) (by omega)]; exact a5, h2, h3, h4, hm, h5.ag (fun a q1 q2 => e a (by omega) (by omega)) (by omega), h6.ag (fun a q1 q2 => e a (by omega) (by omega)) (by omega)⟩
theorem gO_inst : Cond.instanceMethod Lib.objectInit ∈ GW := GW_in 107 rfl rfl
theorem gO_code : Cond.code Lib.objectInit ⟨#[0xb1]⟩ 1 none ∈ GW := GW_in 108 rfl rfl
theorem gCL_RL_7 : Cond.classLink RL 7 "WeatherChess" ∈ GW := GW_in 101 rfl rfl
theorem gIN_RX11 : Cond.instantiable "WeatherChess" 11 ∈ GW := GW_in 102 rfl rfl
theorem gO_RX11 : Cond.methodLink RX11 1 Lib.objectInit ∈ GW := GW_in 106 rfl rfl
theorem gCL_RX11_7 : Cond.classLink RX11 7 "WeatherChess$Game" ∈ GW := GW_in 109 rfl rfl
theorem gIN_RX3 : Cond.instantiable "WeatherChess$Game" 8 ∈ GW := GW_in 110 rfl rfl
theorem gO_RX3 : Cond.methodLink RX3 3 Lib.objectInit ∈ GW := GW_in 114 rfl rfl
theorem gCL_RX3_9 : Cond.classLink RX3 9 "WeatherChess$Roofs" ∈ GW := GW_in 115 rfl rfl
theorem gIN_RX5 : Cond.instantiable "WeatherChess$Roofs" 7 ∈ GW := GW_in 116 rfl rfl
theorem gO_RX5 : Cond.methodLink RX5 3 Lib.objectInit ∈ GW := GW_in 120 rfl rfl
theorem gAC_int : Cond.arrayClass .int ∈ GW := GW_in 157 rfl rfl
theorem gCL_RX3_18 : Cond.classLink RX3 18 "WeatherChess$Stand" ∈ GW := GW_in 158 rfl rfl
theorem gIN_RX8 : Cond.instantiable "WeatherChess$Stand" 4 ∈ GW := GW_in 159 rfl rfl
theorem gO_RX8 : Cond.methodLink RX8 3 Lib.objectInit ∈ GW := GW_in 163 rfl rfl
theorem gCL_RX11_24 : Cond.classLink RX11 24 "WeatherChess$Tape" ∈ GW := GW_in 221 rfl rfl
theorem gIN_RX10 : Cond.instantiable "WeatherChess$Tape" 13 ∈ GW := GW_in 222 rfl rfl
theorem gO_RX10 : Cond.methodLink RX10 3 Lib.objectInit ∈ GW := GW_in 226 rfl rfl
theorem gCL_RX10_15 : Cond.classLink RX10 15 "WeatherChess$Game" ∈ GW := GW_in 227 rfl rfl
theorem gAC_boolean : Cond.arrayClass .boolean ∈ GW := GW_in 274 rfl rfl
theorem gAC_byte : Cond.arrayClass .byte ∈ GW := GW_in 275 rfl rfl
theorem gCL_RX11_194 : Cond.classLink RX11 194 "WeatherChess$Step" ∈ GW := GW_in 279 rfl rfl
theorem gIN_RX9 : Cond.instantiable "WeatherChess$Step" 5 ∈ GW := GW_in 280 rfl rfl
theorem gO_RX9 : Cond.methodLink RX9 3 Lib.objectInit ∈ GW := GW_in 284 rfl rfl
theorem gCL_RX9_9 : Cond.classLink RX9 9 "WeatherChess$Stand" ∈ GW := GW_in 285 rfl rfl
set_option maxRecDepth 50000 in
theorem gCL_RX11_39 : Cond.classLink RX11 39 "WeatherChess$Rows" ∈ GW := GW_in 311 rfl rfl
set_option maxRecDepth 50000 in
theorem gIN_RX6 : Cond.instantiable "WeatherChess$Rows" 7 ∈ GW := GW_in 312 rfl rfl
set_option maxRecDepth 50000 in
theorem gO_RX6 : Cond.methodLink RX6 3 Lib.objectInit ∈ GW := GW_in 316 rfl rfl
set_option maxRecDepth 50000 in
theorem gCL_RX6_9 : Cond.classLink RX6 9 "WeatherChess$Reached" ∈ GW := GW_in 317 rfl rfl
set_option maxRecDepth 50000 in
theorem gIN_RX4 : Cond.instantiable "WeatherChess$Reached" 2 ∈ GW := GW_in 318 rfl rfl
set_option maxRecDepth 50000 in
theorem gO_RX2 : Cond.methodLink RX2 1 Lib.objectInit ∈ GW := GW_in 325 rfl rfl
set_option maxRecDepth 50000 in
theorem gCL_RX6_18 : Cond.classLink RX6 18 "WeatherChess$AsSeen" ∈ GW := GW_in 333 rfl rfl
set_option maxRecDepth 50000 in
theorem gIN_RX0 : Cond.instantiable "WeatherChess$AsSeen" 2 ∈ GW := GW_in 334 rfl rfl
set_option maxRecDepth 50000 in
theorem gCL_RX11_46 : Cond.classLink RX11 46 "WeatherChess$Blowing" ∈ GW := GW_in 372 rfl rfl
set_option maxRecDepth 50000 in
theorem gIN_RX1 : Cond.instantiable "WeatherChess$Blowing" 3 ∈ GW := GW_in 373 rfl rfl
set_option maxRecDepth 50000 in
theorem gO_RX1 : Cond.methodLink RX1 3 Lib.objectInit ∈ GW := GW_in 377 rfl rfl
set_option maxRecDepth 50000 in
theorem gCL_RX11_53 : Cond.classLink RX11 53 "WeatherChess$Sheets" ∈ GW := GW_in 389 rfl rfl
set_option maxRecDepth 50000 in
theorem gIN_RX7 : Cond.instantiable "WeatherChess$Sheets" 3 ∈ GW := GW_in 390 rfl rfl
set_option maxRecDepth 50000 in
theorem gO_RX7 : Cond.methodLink RX7 3 Lib.objectInit ∈ GW := GW_in 394 rfl rfl
set_option maxRecDepth 50000 in
theorem gCL_RX7_18 : Cond.classLink RX7 18 "[[I" ∈ GW := GW_in 395 rfl rfl
set_option maxRecDepth 50000 in
theorem gCL_RX11_60 : Cond.classLink RX11 60 "WeatherChess$Stand" ∈ GW := GW_in 407 rfl rfl
set_option maxRecDepth 50000 in
theorem gCL_RL_10 : Cond.classLink RL 10 "WeatherChessModel" ∈ GW := GW_in 1101 rfl rfl
set_option maxRecDepth 50000 in
theorem gIN_RX12 : Cond.instantiable "WeatherChessModel" 43 ∈ GW := GW_in 1102 rfl rfl
set_option maxRecDepth 50000 in
theorem gO_RX12 : Cond.methodLink RX12 1 Lib.objectInit ∈ GW := GW_in 1106 rfl rfl
theorem sub_sh {i k j s : Nat} {l : List (Nat × Nat)} (h : (SH.drop i).take s = l) (hj : j + k ≤ s) : ((SH.drop i).drop j).take k = (l.drop j).take k := by
  rw [← h, List.drop_take, List.take_take, Nat.min_eq_left (by omega)]
set_option maxHeartbeats 1600000 in
theorem c_X5_init (i : Nat) (ρ : Rho) (I : Mem) (hs : (SH.drop i).take 4 = [(14, 7), (0, 6), (0, 6), (0, 5)]) (hi9 : i + 4 ≤ 119) (hI : I i = fun _ => 0) : MG yX5_init cX5_init 1 none 0 3 [.ref i] (i + 1) ρ I (fun r ρ9 I9 => r = none ∧ (Rf (i + 4) ρ9 i) ∧ CtQ i 4 ρ I ρ9 I9) := by
  refine MG.of (by decide +kernel) (Nat.le_of_ble_eq_true rfl) (by omega) ?_
  intro κ C hR
  show G κ (i + 1) ρ 0 [(0, .ref i)] [] I
  have w0 : shp (i + 0) = (14, 7) := shp_of (l := [(14, 7), (0, 6), (0, 6), (0, 5)]) hs (by decide)
  have w1 : shp (i + 1) = (0, 6) := shp_of (l := [(14, 7), (0, 6), (0, 6), (0, 5)]) hs (by decide)
  have w2 : shp (i + 2) = (0, 6) := shp_of (l := [(14, 7), (0, 6), (0, 6), (0, 5)]) hs (by decide)
  have w3 : shp (i + 3) = (0, 5) := shp_of (l := [(14, 7), (0, 6), (0, 6), (0, 5)]) hs (by decide)
  have hl9 := SH_len
  refine g_aload_n C (pc := 0) dX5_init_0 0 rfl ?_
  refine g_objInit C (pc := 1) gO_RX5 gO_inst gO_code (Nat.le_of_ble_eq_true rfl) dX5_init_1 ?_
  refine g_aload_n C (pc := 4) dX5_init_4 0 rfl ?_
  refine g_bipush C (pc := 5) 6 dX5_init_5 (by decide) ?_
  refine g_newa C (pc := 7) (at0 := .int) (n := i + 1) (kd := 0) (N := 6) rfl (Or.inl ⟨rfl, rfl⟩) gAC_int (by decide) (by decide) (by decide) w1 (by omega) (by omega) (by omega) dX5_init_7 ?_
  refine g_putRA C (pc := 9) fl_RX5_9 (by decide) fp_4_0 (Or.inr ⟨rfl, fun C9 T9 N9 h9 => by (cases h9; rfl)⟩) w0 (by omega) (by omega) dX5_init_9 ?_
  refine ab_arr (n := i + 1) (i := i) (k := 0) (by omega) fun ρ1 I1 p1 q1 r1 u1 z1 => ?_
  show G κ (i + 2) ρ1 12 [(0, .ref i)] [] I1
  refine g_aload_n C (pc := 12) dX5_init_12 0 rfl ?_
  refine g_bipush C (pc := 13) 6 dX5_init_13 (by decide) ?_
  refine g_newa C (pc := 15) (at0 := .int) (n := i + 2) (kd := 0) (N := 6) rfl (Or.inl ⟨rfl, rfl⟩) gAC_int (by decide) (by decide) (by decide) w2 (by omega) (by omega) (by omega) dX5_init_15 ?_
  refine g_putRA C (pc := 17) fl_RX5_15 (by decide) fp_4_1 (Or.inr ⟨rfl, fun C9 T9 N9 h9 => by (cases h9; rfl)⟩) w0 (by omega) (by omega) dX5_init_17 ?_
  refine ab_arr (n := i + 2) (i := i) (k := 1) (by omega) fun ρ2 I2 p2 q2 r2 u2 z2 => ?_
  show G κ (i + 3) ρ2 20 [(0, .ref i)] [] I2
  refine g_aload_n C (pc := 20) dX5_init_20 0 rfl ?_
  refine g_iconst C (pc := 21) 5 dX5_init_21 (by decide) ?_
  refine g_newa C (pc := 22) (at0 := .int) (n := i + 3) (kd := 0) (N := 5) rfl (Or.inl ⟨rfl, rfl⟩) gAC_int (by decide) (by decide) (by decide) w3 (by omega) (by omega) (by omega) dX5_init_22 ?_
  refine g_putRA C (pc := 24) fl_RX5_18 (by decide) fp_4_2 (Or.inr ⟨rfl, fun C9 T9 N9 h9 => by (cases h9; rfl)⟩) w0 (by omega) (by omega) dX5_init_24 ?_
  refine ab_arr (n := i + 3) (i := i) (k := 2) (by omega) fun ρ3 I3 p3 q3 r3 u3 z3 => ?_
  show G κ (i + 4) ρ3 27 [(0, .ref i)] [] I3
  refine g_vret C hR (pc := 27) (by omega) dX5_init_27 ?_
  refine ⟨rfl, ?_, ?_, ?_, ?_⟩
  · exact ⟨w0, w1, w2, w3, by omega, ((q3 0 (by decide)).trans ((q2 0 (by decide)).trans r1)), ((q3 1 (by decide)).trans r2), r3⟩
  · intro a ha
    rw [p3 a (by omega) (by omega), p2 a (by omega) (by omega), p1 a (by omega) (by omega)]
  · intro a ha
    rw [u3 a (by omega), u2 a (by omega), u1 a (by omega)]
  · intro a h1 h2
    by_cases e0 : a = i
    · subst e0
      rw [u3 a (by omega), u2 a (by omega), u1 a (by omega), hI]
    by_cases e1 : a < i + 2
    · rw [u3 a (by omega), u2 a (by omega)]; exact z1 a (by omega) (by omega)
    by_cases e2 : a < i + 3
    · rw [u3 a (by omega)]; exact z2 a (by omega) (by omega)
    exact z3 a (by omega) (by omega)
set_option maxHeartbeats 1600000 in
theorem c_X8_init (i : Nat) (ρ : Rho) (I : Mem) (hs : (SH.drop i).take 4 = [(17, 4), (0, 6), (0, 6), (0, 2)]) (hi9 : i + 4 ≤ 119) (hI : I i = fun _ => 0) : MG yX8_init cX8_init 1 none 0 3 [.ref i] (i + 1) ρ I (fun r ρ9 I9 => r = none ∧ (St (i + 4) ρ9 i) ∧ CtQ i 4 ρ I ρ9 I9) := by
  refine MG.of (by decide +kernel) (Nat.le_of_ble_eq_true rfl) (by omega) ?_
  intro κ C hR
  show G κ (i + 1) ρ 0 [(0, .ref i)] [] I
  have w0 : shp (i + 0) = (17, 4) := shp_of (l := [(17, 4), (0, 6), (0, 6), (0, 2)]) hs (by decide)
  have w1 : shp (i + 1) = (0, 6) := shp_of (l := [(17, 4), (0, 6), (0, 6), (0, 2)]) hs (by decide)
  have w2 : shp (i + 2) = (0, 6) := shp_of (l := [(17, 4), (0, 6), (0, 6), (0, 2)]) hs (by decide)
  have w3 : shp (i + 3) = (0, 2) := shp_of (l := [(17, 4), (0, 6), (0, 6), (0, 2)]) hs (by decide)
  have hl9 := SH_len
  refine g_aload_n C (pc := 0) dX8_init_0 0 rfl ?_
  refine g_objInit C (pc := 1) gO_RX8 gO_inst gO_code (Nat.le_of_ble_eq_true rfl) dX8_init_1 ?_
  refine g_aload_n C (pc := 4) dX8_init_4 0 rfl ?_
  refine g_bipush C (pc := 5) 6 dX8_init_5 (by decide) ?_
  refine g_newa C (pc := 7) (at0 := .int) (n := i + 1) (kd := 0) (N := 6) rfl (Or.inl ⟨rfl, rfl⟩) gAC_int (by decide) (by decide) (by decide) w1 (by omega) (by omega) (by omega) dX8_init_7 ?_
  refine g_putRA C (pc := 9) fl_RX8_9 (by decide) fp_7_0 (Or.inr ⟨rfl, fun C9 T9 N9 h9 => by (cases h9; rfl)⟩) w0 (by omega) (by omega) dX8_init_9 ?_
  refine ab_arr (n := i + 1) (i := i) (k := 0) (by omega) fun ρ1 I1 p1 q1 r1 u1 z1 => ?_
  show G κ (i + 2) ρ1 12 [(0, .ref i)] [] I1
  refine g_aload_n C (pc := 12) dX8_init_12 0 rfl ?_
  refine g_bipush C (pc := 13) 6 dX8_init_13 (by decide) ?_
  refine g_newa C (pc := 15) (at0 := .int) (n := i + 2) (kd := 0) (N := 6) rfl (Or.inl ⟨rfl, rfl⟩) gAC_int (by decide) (by decide) (by decide) w2 (by omega) (by omega) (by omega) dX8_init_15 ?_
  refine g_putRA C (pc := 17) fl_RX8_15 (by decide) fp_7_1 (Or.inr ⟨rfl, fun C9 T9 N9 h9 => by (cases h9; rfl)⟩) w0 (by omega) (by omega) dX8_init_17 ?_
  refine ab_arr (n := i + 2) (i := i) (k := 1) (by omega) fun ρ2 I2 p2 q2 r2 u2 z2 => ?_
  show G κ (i + 3) ρ2 20 [(0, .ref i)] [] I2
  refine g_aload_n C (pc := 20) dX8_init_20 0 rfl ?_
  refine g_iconst C (pc := 21) 2 dX8_init_21 (by decide) ?_
  refine g_newa C (pc := 22) (at0 := .int) (n := i + 3) (kd := 0) (N := 2) rfl (Or.inl ⟨rfl, rfl⟩) gAC_int (by decide) (by decide) (by decide) w3 (by omega) (by omega) (by omega) dX8_init_22 ?_
  refine g_putRA C (pc := 24) fl_RX8_18 (by decide) fp_7_2 (Or.inr ⟨rfl, fun C9 T9 N9 h9 => by (cases h9; rfl)⟩) w0 (by omega) (by omega) dX8_init_24 ?_
  refine ab_arr (n := i + 3) (i := i) (k := 2) (by omega) fun ρ3 I3 p3 q3 r3 u3 z3 => ?_
  show G κ (i + 4) ρ3 27 [(0, .ref i)] [] I3
  refine g_vret C hR (pc := 27) (by omega) dX8_init_27 ?_
  refine ⟨rfl, ?_, ?_, ?_, ?_⟩
  · exact ⟨w0, w1, w2, w3, by omega, ((q3 0 (by decide)).trans ((q2 0 (by decide)).trans r1)), ((q3 1 (by decide)).trans r2), r3⟩
  · intro a ha
    rw [p3 a (by omega) (by omega), p2 a (by omega) (by omega), p1 a (by omega) (by omega)]
  · intro a ha
    rw [u3 a (by omega), u2 a (by omega), u1 a (by omega)]
  · intro a h1 h2
    by_cases e0 : a = i
    · subst e0
      rw [u3 a (by omega), u2 a (by omega), u1 a (by omega), hI]
    by_cases e1 : a < i + 2
    · rw [u3 a (by omega), u2 a (by omega)]; exact z1 a (by omega) (by omega)
    by_cases e2 : a < i + 3
    · rw [u3 a (by omega)]; exact z2 a (by omega) (by omega)
    exact z3 a (by omega) (by omega)
set_option maxHeartbeats 1600000 in
theorem c_X3_init (i : Nat) (ρ : Rho) (I : Mem) (hs : (SH.drop i).take 12 = [(12, 8), (14, 7), (0, 6), (0, 6), (0, 5), (17, 4), (0, 6), (0, 6), (0, 2), (0, 8), (0, 8), (0, 3)]) (hi9 : i + 12 ≤ 119) (hI : I i = fun _ => 0) : MG yX3_init cX3_init 1 none 1 11 [.ref i] (i + 1) ρ I (fun r ρ9 I9 => r = none ∧ (GaS (i + 12) ρ9 i) ∧ CtQ i 12 ρ I ρ9 I9) := by
  refine MG.of (by decide +kernel) (Nat.le_of_ble_eq_true rfl) (by omega) ?_
  intro κ C hR
  show G κ (i + 1) ρ 0 [(0, .ref i)] [] I
  have w0 : shp (i + 0) = (12, 8) := shp_of (l := [(12, 8), (14, 7), (0, 6), (0, 6), (0, 5), (17, 4), (0, 6), (0, 6), (0, 2), (0, 8), (0, 8), (0, 3)]) hs (by decide)
  have w1 : shp (i + 1) = (14, 7) := shp_of (l := [(12, 8), (14, 7), (0, 6), (0, 6), (0, 5), (17, 4), (0, 6), (0, 6), (0, 2), (0, 8), (0, 8), (0, 3)]) hs (by decide)
  have w2 : shp (i + 2) = (0, 6) := shp_of (l := [(12, 8), (14, 7), (0, 6), (0, 6), (0, 5), (17, 4), (0, 6), (0, 6), (0, 2), (0, 8), (0, 8), (0, 3)]) hs (by decide)
  have w3 : shp (i + 3) = (0, 6) := shp_of (l := [(12, 8), (14, 7), (0, 6), (0, 6), (0, 5), (17, 4), (0, 6), (0, 6), (0, 2), (0, 8), (0, 8), (0, 3)]) hs (by decide)
  have w4 : shp (i + 4) = (0, 5) := shp_of (l := [(12, 8), (14, 7), (0, 6), (0, 6), (0, 5), (17, 4), (0, 6), (0, 6), (0, 2), (0, 8), (0, 8), (0, 3)]) hs (by decide)
  have w5 : shp (i + 5) = (17, 4) := shp_of (l := [(12, 8), (14, 7), (0, 6), (0, 6), (0, 5), (17, 4), (0, 6), (0, 6), (0, 2), (0, 8), (0, 8), (0, 3)]) hs (by decide)
  have w6 : shp (i + 6) = (0, 6) := shp_of (l := [(12, 8), (14, 7), (0, 6), (0, 6), (0, 5), (17, 4), (0, 6), (0, 6), (0, 2), (0, 8), (0, 8), (0, 3)]) hs (by decide)
  have w7 : shp (i + 7) = (0, 6) := shp_of (l := [(12, 8), (14, 7), (0, 6), (0, 6), (0, 5), (17, 4), (0, 6), (0, 6), (0, 2), (0, 8), (0, 8), (0, 3)]) hs (by decide)
  have w8 : shp (i + 8) = (0, 2) := shp_of (l := [(12, 8), (14, 7), (0, 6), (0, 6), (0, 5), (17, 4), (0, 6), (0, 6), (0, 2), (0, 8), (0, 8), (0, 3)]) hs (by decide)
  have w9 : shp (i + 9) = (0, 8) := shp_of (l := [(12, 8), (14, 7), (0, 6), (0, 6), (0, 5), (17, 4), (0, 6), (0, 6), (0, 2), (0, 8), (0, 8), (0, 3)]) hs (by decide)
  have w10 : shp (i + 10) = (0, 8) := shp_of (l := [(12, 8), (14, 7), (0, 6), (0, 6), (0, 5), (17, 4), (0, 6), (0, 6), (0, 2), (0, 8), (0, 8), (0, 3)]) hs (by decide)
  have w11 : shp (i + 11) = (0, 3) := shp_of (l := [(12, 8), (14, 7), (0, 6), (0, 6), (0, 5), (17, 4), (0, 6), (0, 6), (0, 2), (0, 8), (0, 8), (0, 3)]) hs (by decide)
  have hl9 := SH_len
  refine g_aload_n C (pc := 0) dX3_init_0 0 rfl ?_
  refine g_objInit C (pc := 1) gO_RX3 gO_inst gO_code (Nat.le_of_ble_eq_true rfl) dX3_init_1 ?_
  refine g_aload_n C (pc := 4) dX3_init_4 0 rfl ?_
  refine g_new C (pc := 5) (n := i + 1) gCL_RX3_9 gIN_RX5 gz_RX5 (c := 4) (T := TX5) (ty := tyX5) rfl gin_5 tyX5_ok (by decide) w1 (by omega) (by omega) (by omega) dX3_init_5 ?_
  refine g_dup C (pc := 8) dX3_init_8 rfl ?_
  refine g_callI C (pc := 9) mf_X5_init lk_RX3_11 (k := 3) (i := i + 1) (As := []) (c_X5_init (i + 1) _ _ (by rw [← List.drop_drop, sub_sh hs (by decide)]; rfl) (by omega) wrA_s) (by decide) (by omega) rfl w1 rfl (by omega) (Nat.le_of_ble_eq_true rfl) dX3_init_9 ?_
  rintro _ ρa1 I1 ⟨rfl, S1, pa1, u01, z1⟩
  refine g_putR C (pc := 12) fl_RX3_12 (by decide) fp_2_0 (Or.inr ⟨rfl, fun C9 T9 N9 h9 => by (cases h9; rfl)⟩) w0 (by omega) (by omega) dX3_init_12 ?_
  refine ab_obj (n := i + 1) (i := i) (k := 0) (by omega) pa1 fun ρ1 p1 q1 r1 s1 => ?_
  have u1 : ∀ a, a < i + 1 → I1 a = I a := fun a ha => (u01 a ha).trans (wrA_lt ha)
  show G κ (i + 5) ρ1 15 [(0, .ref i)] [] I1
  refine g_aload_n C (pc := 15) dX3_init_15 0 rfl ?_
  refine g_new C (pc := 16) (n := i + 5) gCL_RX3_18 gIN_RX8 gz_RX8 (c := 7) (T := TX8) (ty := tyX8) rfl gin_8 tyX8_ok (by decide) w5 (by omega) (by omega) (by omega) dX3_init_16 ?_
  refine g_dup C (pc := 19) dX3_init_19 rfl ?_
  refine g_callI C (pc := 20) mf_X8_init lk_RX3_20 (k := 3) (i := i + 5) (As := []) (c_X8_init (i + 5) _ _ (by rw [← List.drop_drop, sub_sh hs (by decide)]; rfl) (by omega) wrA_s) (by decide) (by omega) rfl w5 rfl (by omega) (Nat.le_of_ble_eq_true rfl) dX3_init_20 ?_
  rintro _ ρa2 I2 ⟨rfl, S2, pa2, u02, z2⟩
  refine g_putR C (pc := 23) fl_RX3_21 (by decide) fp_2_1 (Or.inr ⟨rfl, fun C9 T9 N9 h9 => by (cases h9; rfl)⟩) w0 (by omega) (by omega) dX3_init_23 ?_
  refine ab_obj (n := i + 5) (i := i) (k := 1) (by omega) pa2 fun ρ2 p2 q2 r2 s2 => ?_
  have u2 : ∀ a, a < i + 5 → I2 a = I1 a := fun a ha => (u02 a ha).trans (wrA_lt ha)
  show G κ (i + 9) ρ2 26 [(0, .ref i)] [] I2
  refine g_aload_n C (pc := 26) dX3_init_26 0 rfl ?_
  refine g_bipush C (pc := 27) 8 dX3_init_27 (by decide) ?_
  refine g_newa C (pc := 29) (at0 := .int) (n := i + 9) (kd := 0) (N := 8) rfl (Or.inl ⟨rfl, rfl⟩) gAC_int (by decide) (by decide) (by decide) w9 (by omega) (by omega) (by omega) dX3_init_29 ?_
  refine g_putRA C (pc := 31) fl_RX3_25 (by decide) fp_2_2 (Or.inr ⟨rfl, fun C9 T9 N9 h9 => by (cases h9; rfl)⟩) w0 (by omega) (by omega) dX3_init_31 ?_
  refine ab_arr (n := i + 9) (i := i) (k := 2) (by omega) fun ρ3 I3 p3 q3 r3 u3 z3 => ?_
  show G κ (i + 10) ρ3 34 [(0, .ref i)] [] I3
  refine g_aload_n C (pc := 34) dX3_init_34 0 rfl ?_
  refine g_bipush C (pc := 35) 8 dX3_init_35 (by decide) ?_
  refine g_newa C (pc := 37) (at0 := .int) (n := i + 10) (kd := 0) (N := 8) rfl (Or.inl ⟨rfl, rfl⟩) gAC_int (by decide) (by decide) (by decide) w10 (by omega) (by omega) (by omega) dX3_init_37 ?_
  refine g_putRA C (pc := 39) fl_RX3_29 (by decide) fp_2_3 (Or.inr ⟨rfl, fun C9 T9 N9 h9 => by (cases h9; rfl)⟩) w0 (by omega) (by omega) dX3_init_39 ?_
  refine ab_arr (n := i + 10) (i := i) (k := 3) (by omega) fun ρ4 I4 p4 q4 r4 u4 z4 => ?_
  show G κ (i + 11) ρ4 42 [(0, .ref i)] [] I4
  refine g_aload_n C (pc := 42) dX3_init_42 0 rfl ?_
  refine g_iconst C (pc := 43) 3 dX3_init_43 (by decide) ?_
  refine g_newa C (pc := 44) (at0 := .int) (n := i + 11) (kd := 0) (N := 3) rfl (Or.inl ⟨rfl, rfl⟩) gAC_int (by decide) (by decide) (by decide) w11 (by omega) (by omega) (by omega) dX3_init_44 ?_
  refine g_putRA C (pc := 46) fl_RX3_32 (by decide) fp_2_4 (Or.inr ⟨rfl, fun C9 T9 N9 h9 => by (cases h9; rfl)⟩) w0 (by omega) (by omega) dX3_init_46 ?_
  refine ab_arr (n := i + 11) (i := i) (k := 4) (by omega) fun ρ5 I5 p5 q5 r5 u5 z5 => ?_
  show G κ (i + 12) ρ5 49 [(0, .ref i)] [] I5
  refine g_vret C hR (pc := 49) (by omega) dX3_init_49 ?_
  refine ⟨rfl, ?_, ?_, ?_, ?_⟩
  · exact ⟨w0, ((q5 0 (by decide)).trans ((q4 0 (by decide)).trans ((q3 0 (by decide)).trans ((q2 0 (by decide)).trans r1)))), ((q5 1 (by decide)).trans ((q4 1 (by decide)).trans ((q3 1 (by decide)).trans r2))), ((q5 2 (by decide)).trans ((q4 2 (by decide)).trans r3)), ((q5 3 (by decide)).trans r4), r5, w9, w10, w11, by omega, (S1.ag (fun a q1 q2 => by rw [p5 a (by omega) (by omega), p4 a (by omega) (by omega), p3 a (by omega) (by omega), p2 a (by omega) (by omega), s1 a (by omega)]) (by omega)), (S2.ag (fun a q1 q2 => by rw [p5 a (by omega) (by omega), p4 a (by omega) (by omega), p3 a (by omega) (by omega), s2 a (by omega)]) (by omega))⟩
  · intro a ha
    rw [p5 a (by omega) (by omega), p4 a (by omega) (by omega), p3 a (by omega) (by omega), p2 a (by omega) (by omega), p1 a (by omega) (by omega)]
  · intro a ha
    rw [u5 a (by omega), u4 a (by omega), u3 a (by omega), u2 a (by omega), u1 a (by omega)]
  · intro a h1 h2
    by_cases e0 : a = i
    · subst e0
      rw [u5 a (by omega), u4 a (by omega), u3 a (by omega), u2 a (by omega), u1 a (by omega), hI]
    by_cases e1 : a < i + 5
    · rw [u5 a (by omega), u4 a (by omega), u3 a (by omega), u2 a (by omega)]; exact z1 a (by omega) (by omega)
    by_cases e2 : a < i + 9
    · rw [u5 a (by omega), u4 a (by omega), u3 a (by omega)]; exact z2 a (by omega) (by omega)
    by_cases e3 : a < i + 10
    · rw [u5 a (by omega), u4 a (by omega)]; exact z3 a (by omega) (by omega)
    by_cases e4 : a < i + 11
    · rw [u5 a (by omega)]; exact z4 a (by omega) (by omega)
    exact z5 a (by omega) (by omega)
