section GSTR
variable {κ : Kap} {y : MethodName} {cc : ByteArray} {nL d n1 n : Nat} {ρ : Rho} {pc : Nat} {lv : List (Nat × Value)} {st : List Value} {I : Mem} {P : Option Value → Rho → Mem → Prop}
variable {y' : MethodName} {cc' : ByteArray} {nL' d' idx cnt : Nat} {ret' : Option FieldType}
theorem g_ldcS (C : Cx κ y cc nL d n1) (i : Nat) {tx : String} (hs : strL[i]? = some (idx, tx)) (hy : y.cls = "WeatherChess$Tape") (dg : decode cc pc = .ok (.ldc idx, 2)) (K : G κ n ρ (pc + 2) lv (.ref (1000 + i) :: st) I) : G κ n ρ pc lv st I := by
  obtain ⟨p, l, e, R, s, m, args, below, meth, c, Q, dC, dI, dA, ad, n0⟩ := κ
  obtain ⟨hx, hb, hml, hown, hts, hlk, hnm, hKt, -⟩ := C
  rw [hy] at hown
  exact fun h0 H locs ls hW hS hl => va_ldcS hx hb hown (hKt.2.1 i _ hs) dg (K h0 H locs ls hW hS hl)
theorem g_strV (C : Cx κ y cc nL d n1) {i : Nat} (hi : i < 9) (hlink : Cond.fieldLink y.cls idx "java/lang/String" "value" "[B" ∈ GW) (dg : decode cc pc = .ok (.getfield idx, 3)) (K : G κ n ρ (pc + 3) lv (.ref (1100 + i) :: st) I) : G κ n ρ pc lv (.ref (1000 + i) :: st) I := by
  obtain ⟨p, l, e, R, s, m, args, below, meth, c, Q, dC, dI, dA, ad, n0⟩ := κ
  obtain ⟨hx, hb, hml, hown, hts, hlk, hnm, hKt, hSt, -⟩ := C
  exact fun h0 H locs ls hW hS hl => vk_getf hx hb (hSt.1.1 i hi).2.2.1 hS hown (hts _ hlink) (fun _ h => h) dg (K h0 H locs ls hW hS hl)
theorem g_strC (C : Cx κ y cc nL d n1) {i : Nat} (hi : i < 9) (hlink : Cond.fieldLink y.cls idx "java/lang/String" "coder" "B" ∈ GW) (dg : decode cc pc = .ok (.getfield idx, 3)) (K : G κ n ρ (pc + 3) lv (.int 0 :: st) I) : G κ n ρ pc lv (.ref (1000 + i) :: st) I := by
  obtain ⟨p, l, e, R, s, m, args, below, meth, c, Q, dC, dI, dA, ad, n0⟩ := κ
  obtain ⟨hx, hb, hml, hown, hts, hlk, hnm, hKt, hSt, -⟩ := C
  exact fun h0 H locs ls hW hS hl => vk_getf hx hb (hSt.1.1 i hi).2.1 hS hown (hts _ hlink) (fun _ h => h) dg (K h0 H locs ls hW hS hl)
theorem g_strLen (C : Cx κ y cc nL d n1) {i : Nat} (hi : i < 9) (dg : decode cc pc = .ok (.arraylength, 1)) (K : G κ n ρ (pc + 1) lv (.int (nI (strN.getD i 0)) :: st) I) : G κ n ρ pc lv (.ref (1100 + i) :: st) I := by
  obtain ⟨p, l, e, R, s, m, args, below, meth, c, Q, dC, dI, dA, ad, n0⟩ := κ
  obtain ⟨hx, hb, hml, hown, hts, hlk, hnm, hKt, hSt, -⟩ := C
  exact fun h0 H locs ls hW hS hl => va_tlen hx hb (hSt.1.1 i hi).2.2.2 hS rfl dg (K h0 H locs ls hW hS hl)
theorem g_strB (C : Cx κ y cc nL d n1) {i : Nat} (hi : i < 9) {j : Int32} (hin : vp_in j (strN.getD i 0)) (dg : decode cc pc = .ok (.baload, 1)) (K : G κ n ρ (pc + 1) lv (.int ((strB.getD i []).getD j.toNatClampNeg 0) :: st) I) : G κ n ρ pc lv (.int j :: .ref (1100 + i) :: st) I := by
  obtain ⟨p, l, e, R, s, m, args, below, meth, c, Q, dC, dI, dA, ad, n0⟩ := κ
  obtain ⟨hx, hb, hml, hown, hts, hlk, hnm, hKt, hSt, -⟩ := C
  exact fun h0 H locs ls hW hS hl => va_tb hx hb (hSt.1.1 i hi).2.2.2 hS hin rfl dg (K h0 H locs ls hW hS hl)
theorem g_getsC (C : Cx κ y cc nL d n1) (hlink : Cond.fieldLink y.cls idx "java/lang/String" "COMPACT_STRINGS" "Z" ∈ GW) (dg : decode cc pc = .ok (.getstatic idx, 3)) (K : G κ n ρ (pc + 3) lv (.int 1 :: st) I) : G κ n ρ pc lv st I := by
  obtain ⟨p, l, e, R, s, m, args, below, meth, c, Q, dC, dI, dA, ad, n0⟩ := κ
  obtain ⟨hx, hb, hml, hown, hts, hlk, hnm, hKt, hSt, -⟩ := C
  exact fun h0 H locs ls hW hS hl => va_gets hx hb hSt.2.1 hS hown (hts _ hlink) (fun _ h => h) dg (K h0 H locs ls hW hS hl)
theorem g_getsF (C : Cx κ y cc nL d n1) (hlink : Cond.fieldLink y.cls idx "jdk/internal/util/Preconditions" "SIOOBE_FORMATTER" "Ljava/util/function/BiFunction;" ∈ GW) (dg : decode cc pc = .ok (.getstatic idx, 3)) (KN : G κ n ρ (pc + 3) lv (.null :: st) I) (KR : G κ n ρ (pc + 3) lv (.ref 1200 :: st) I) : G κ n ρ pc lv st I := by
  obtain ⟨p, l, e, R, s, m, args, below, meth, c, Q, dC, dI, dA, ad, n0⟩ := κ
  obtain ⟨hx, hb, hml, hown, hts, hlk, hnm, hKt, hSt, -⟩ := C
  intro h0 H locs ls hW hS hl
  rcases hSt.2.2 with h | h
  · exact va_gets hx hb h hS hown (hts _ hlink) (fun _ h => h) dg (KN h0 H locs ls hW hS hl)
  · exact va_gets hx hb h hS hown (hts _ hlink) (fun _ h => h) dg (KR h0 H locs ls hW hS hl)
theorem g_i2c (C : Cx κ y cc nL d n1) {x : Int32} (dg : decode cc pc = .ok (.i2c, 1)) (K : G κ n ρ (pc + 1) lv (.int (x.toUInt32 % 65536).toInt32 :: st) I) : G κ n ρ pc lv (.int x :: st) I := by
  obtain ⟨p, l, e, R, s, m, args, below, meth, c, Q, dC, dI, dA, ad, n0⟩ := κ
  obtain ⟨hx, hb, hml, -⟩ := C
  exact fun h0 H locs ls hW hS hl => lv_i2c hx hb dg rfl (K h0 H locs ls hW hS hl)
theorem g_nret (C : Cx κ y cc nL d n1) {ty : FieldType} (hR : Rt κ (some ty) n1 P) {v : Int32} (hn : n = n1) (hv : narrow ty (.int v) = .int v) (dg : decode cc pc = .ok (.ireturn, 1)) (hP : P (some (.int v)) ρ I) : G κ n ρ pc lv [.int v] I := by
  obtain ⟨p, l, e, R, s, m, args, below, meth, c, Q, dC, dI, dA, ad, n0⟩ := κ
  obtain ⟨hx, hb, hml, hown, hts, hlk, -⟩ := C
  obtain ⟨hr, rfl⟩ := hR
  subst hn
  intro h0 H locs ls hW hS hl
  exact W.zret (v := v) hx hb hr hv (fun t ht _ => ⟨⟨some (.int v), ρ, I, rfl, hP, by rw [ht]; exact hW⟩, hS.F ht⟩) hS.2.2 dg hlk
/-- a call of a String constant's method -/
theorem g_callStr (C : Cx κ y cc nL d n1) (hM : MF y' cc' nL' ret' cnt) (hL : LinkV y.cls idx y') {i : Nat} {As : List Value} {P : Int32 → Mem → Prop} (hc : MI y' cc' nL' ret' d' (.ref (1000 + i) :: As) n ρ I P) (hd : d' < d) (hk : n ≤ n1) (hn : As.length = cnt) (hi : i < 9) (hcl : y'.cls = "java/lang/String") (hst : (st.map fun v => v.category).sum ≤ 8) (dg : decode cc pc = .ok (.invokevirtual idx, 3))
    (K : ∀ (v : Int32) (I' : Mem), P v I' → G κ n ρ (pc + 3) lv (.int v :: st) I') : G κ n ρ pc lv (As.reverse ++ .ref (1000 + i) :: st) I := by
  obtain ⟨p, l, e, R, s, m, args, below, meth, cd, Q, dC, dI, dA, ad, n0⟩ := κ
  obtain ⟨hx, hb, hml, hown, hts, hlk, hnm, hKt, hSt, h01, h19, hrc, hrs, hfr, hlo, hb0⟩ := C
  intro h0 H locs ls hW hS hl
  have hf : n - n0 + 0 ≤ R.cells ∧ sl n - sl n0 + (sl (n + 0) - sl n) ≤ R.slots := by
    have q2 := sl_mono hk
    have q3 := sl_mono h0
    have e0 : sl (n + 0) = sl n := rfl
    rw [e0]
    omega
  have hrecv : ∃ cell : Cell, H[ad (1000 + i)]? = some cell ∧ cell.vm.isStatics = false ∧ s.vm.findClass y'.cls = some cell.cls := by rw [hcl]; exact vk_recv (adK := fun i => ad (1000 + i)) hSt.1 hi hS
  have hp : PreV s H y'.cls (ad (1000 + i)) (PcM dC dI dA ad (.ref (1000 + i) :: As) n ρ I) (As.map (cvV ad)) := ⟨PcM.blind, hrecv, fun U hU hWm => ⟨rfl, by rw [hU]; exact hW, hKt.moved hWm, by rw [hU]; exact hSt.moved hWm hS, by rw [hU]; exact Nat.le_trans hb0 hS.1⟩⟩
  have hstk : (As.reverse ++ .ref (1000 + i) :: st).map (cvV ad) = (As.map (cvV ad)).reverse ++ .ref (ad (1000 + i)) :: st.map (cvV ad) := by simp [cvV]
  have hroom : 2 * (F0 m pc ls ((As.reverse ++ .ref (1000 + i) :: st).map (cvV ad))).monitorRoom + ((st.map (cvV ad)).map fun v => v.category).sum ≤ 8 := by
    refine lv_room (rest := ((As.reverse ++ .ref (1000 + i) :: st).map (cvV ad))) ?_
    rw [List.map_map]
    have : ((fun v => v.category) ∘ cvV ad) = fun v : Value => v.category := by funext v; exact cvV_cat ad v
    rw [this]; exact hst
  have hrun : va_Run p l e R s m args below meth cd H locs (n - n0) (sl n - sl n0) 0 (sl (n + 0) - sl n) (F0 m pc ls ((As.reverse ++ .ref (1000 + i) :: st).map (cvV ad))) (st.map (cvV ad)) (QcM dC dI dA ad (n + 0) (fun r ρ' I' => ρ' = ρ ∧ ∃ x, r = some (.int x) ∧ P x I') (Value.ref (ad (1000 + i)) :: As.map (cvV ad)).toArray) (fun q => ad 0 ≤ q) := by
    obtain ⟨hlink, hinst, hsel⟩ := hL
    rcases hlink with hlink | ⟨h, hlink⟩
    · exact va_runV (own := y.cls) (C := y'.cls) ⟨hx, hb, hml, hown, hts⟩ (hc l dC dI dA ad) (cwV cnt hts (GW_goodIn (fun w hw => by
        unfold wsV at hw
        rcases List.mem_append.mp hw with hw | hw
        · simp only [List.mem_cons, List.not_mem_nil, or_false] at hw
          rcases hw with rfl | rfl | rfl | rfl
          · exact hlink
          · exact hinst
          · exact hsel
          · exact hM.2.2.1
        · exact GW_ws hM w hw)) rfl rfl rfl ⟨rfl, hM.1⟩ (room_of hd hfr hlo hM.2.2.2)) hp rfl (by rw [List.length_map]; exact hn) (hl.1.trans hml) hstk hroom dg hf
    · exact va_runVN (own := y.cls) (C := y'.cls) (host := h) ⟨hx, hb, hml, hown, hts⟩ (hc l dC dI dA ad) ⟨va_cnB cnt hts (GW_goodIn (GW_ws hM)) rfl rfl rfl (hKt.2.2.1 _ hlink) (hts _ hM.2.2.1) hM.1 (room_of hd hfr hlo hM.2.2.2), hts _ hinst, hts _ hsel⟩ hp rfl (by rw [List.length_map]; exact hn) (hl.1.trans hml) hstk hroom dg hf
  refine run_go hrun hS fun r ρ' I' H1 locs1 hP hW1 hS1 => ?_
  obtain ⟨rfl, v, rfl, hv⟩ := hP
  have q3 := sl_mono h0
  have e1 : n - n0 + 0 = n - n0 := by omega
  have e2 : sl n - sl n0 + (sl (n + 0) - sl n) = sl n - sl n0 := by
    have e0 : sl (n + 0) = sl n := rfl
    rw [e0]; omega
  rw [e1, e2]
  exact K v I' hv h0 H1 locs1 ls hW1 hS1 hl
end GSTR
set_option maxRecDepth 50000 in
theorem gf_RJ0_38 : Cond.fieldLink RJ0 38 "java/lang/String" "COMPACT_STRINGS" "Z" ∈ GW := GW_in 567 rfl rfl
set_option maxRecDepth 50000 in
theorem gf_RJ0_1053 : Cond.fieldLink RJ0 1053 "jdk/internal/util/Preconditions" "SIOOBE_FORMATTER" "Ljava/util/function/BiFunction;" ∈ GW := GW_in 583 rfl rfl
set_option maxRecDepth 50000 in
theorem gf_RJ0_9 : Cond.fieldLink RJ0 9 "java/lang/String" "value" "[B" ∈ GW := GW_in 1619 rfl rfl
set_option maxRecDepth 50000 in
theorem gf_RJ0_15 : Cond.fieldLink RJ0 15 "java/lang/String" "coder" "B" ∈ GW := GW_in 1620 rfl rfl
/-! ===== the text: bytes, tokens, lines ===== -/
def cB (x : Nat) : Int32 := (nI x).toInt8.toInt32
theorem cB_s : ∀ x, x < 128 → cB x = nI x := by decide +kernel
theorem cB_n : ∀ x, x < 256 → 128 ≤ x → cB x < 0 := by decide +kernel
theorem cB_ge {x lo : Nat} (hx : x < 256) (hlo : lo < 128) : nI lo ≤ cB x ↔ lo ≤ x ∧ x < 128 := by
  rcases Nat.lt_or_ge x 128 with h | h
  · rw [cB_s x h, nI_leI (by omega) (by omega)]; exact ⟨fun h1 => ⟨h1, h⟩, fun h1 => h1.1⟩
  · refine ⟨fun h1 => absurd (cB_n x hx h) (Int32.not_lt.mpr (Int32.le_trans (nI_pos' (show lo < 2 ^ 31 by omega)) h1)), fun h1 => by omega⟩
theorem cB_eq {x c : Nat} (hx : x < 256) (hc : c < 128) : cB x = nI c ↔ x = c := by
  rcases Nat.lt_or_ge x 128 with h | h
  · rw [cB_s x h, nI_eq (by omega) (by omega)]
  · refine ⟨fun h1 => ?_, fun h1 => by omega⟩
    have h2 := cB_n x hx h
    rw [h1] at h2
    exact absurd h2 (nI_pos (by omega))
def runE (tb : Nat → Nat) (L lo hi : Nat) : Nat → Nat → Nat
  | 0, p => p
  | k + 1, p => if p < L ∧ lo ≤ tb p ∧ tb p ≤ hi then runE tb L lo hi k (p + 1) else p
def runT (tb : Nat → Nat) (L lo hi p : Nat) : Nat := runE tb L lo hi (L - p) p
theorem runT_go {tb : Nat → Nat} {L lo hi p : Nat} (h : p < L ∧ lo ≤ tb p ∧ tb p ≤ hi) : runT tb L lo hi p = runT tb L lo hi (p + 1) := by
  unfold runT
  rw [show L - p = (L - (p + 1)) + 1 by omega, runE, if_pos h]
theorem runT_stop {tb : Nat → Nat} {L lo hi p : Nat} (h : ¬ (p < L ∧ lo ≤ tb p ∧ tb p ≤ hi)) : runT tb L lo hi p = p := by
  unfold runT
  cases e : L - p with
  | zero => rfl
  | succ k => rw [runE, if_neg h]
theorem runE_le {tb : Nat → Nat} {L lo hi : Nat} : ∀ {k p : Nat}, p + k ≤ L → p ≤ runE tb L lo hi k p ∧ runE tb L lo hi k p ≤ L
  | 0, p, h => ⟨Nat.le_refl _, h⟩
  | k + 1, p, h => by
    rw [runE]
    split
    · have := runE_le (tb := tb) (L := L) (lo := lo) (hi := hi) (k := k) (p := p + 1) (by omega)
      omega
    · omega
theorem runT_le {tb : Nat → Nat} {L lo hi p : Nat} (h : p ≤ L) : p ≤ runT tb L lo hi p ∧ runT tb L lo hi p ≤ L := runE_le (by omega)
/-- the token behind a place: where it begins, its sort (0: none), its end, its number -/
def tkF (tb : Nat → Nat) (L p : Nat) : Nat := runT tb L 32 32 p
def tkK (tb : Nat → Nat) (L p : Nat) : Nat := if L ≤ tkF tb L p then 4 else if tb (tkF tb L p) = 59 then 3 else if 97 ≤ tb (tkF tb L p) ∧ tb (tkF tb L p) ≤ 122 then 1 else if 48 ≤ tb (tkF tb L p) ∧ tb (tkF tb L p) ≤ 57 then (if runT tb L 48 57 (tkF tb L p) - tkF tb L p ≤ 2 then 2 else 0) else 0
def tkE (tb : Nat → Nat) (L p : Nat) : Nat := if L ≤ tkF tb L p then tkF tb L p else if tb (tkF tb L p) = 59 then tkF tb L p + 1 else if 97 ≤ tb (tkF tb L p) ∧ tb (tkF tb L p) ≤ 122 then runT tb L 97 122 (tkF tb L p) else runT tb L 48 57 (tkF tb L p)
def tkV (tb : Nat → Nat) (L p : Nat) : Nat := if runT tb L 48 57 (tkF tb L p) - tkF tb L p = 2 then 10 * (tb (tkF tb L p) - 48) + (tb (tkF tb L p + 1) - 48) else tb (tkF tb L p) - 48
theorem tkF_le {tb : Nat → Nat} {L p : Nat} (h : p ≤ L) : p ≤ tkF tb L p ∧ tkF tb L p ≤ L := runT_le h
theorem tkE_le {tb : Nat → Nat} {L p : Nat} (h : p ≤ L) : tkF tb L p ≤ tkE tb L p ∧ tkE tb L p ≤ L := by
  have h1 := tkF_le (tb := tb) h
  unfold tkE
  split
  · omega
  · split
    · omega
    · split
      · exact runT_le h1.2
      · exact runT_le h1.2
abbrev PRs (α : Type) : Type := (Nat × Nat) ⊕ α
def pb {α β : Type} (x : PRs α) (g : α → PRs β) : PRs β := match x with
  | .inl e => .inl e
  | .inr a => g a
theorem pb_l {α β : Type} {x : PRs α} {g : α → PRs β} {e : Nat × Nat} (h : x = .inl e) : pb x g = .inl e := by rw [h]; rfl
theorem pb_r {α β : Type} {x : PRs α} {g : α → PRs β} {a : α} (h : x = .inr a) : pb x g = g a := by rw [h]; rfl
/-- a number: it, its place, its end -/
def rdNum (tb : Nat → Nat) (L lo hi p : Nat) : PRs (Nat × Nat × Nat) := if tkK tb L p = 0 then .inl (1, tkF tb L p) else if tkK tb L p ≠ 2 then .inl (2, tkF tb L p) else if lo ≤ tkV tb L p ∧ tkV tb L p ≤ hi then .inr (tkV tb L p, tkF tb L p, tkE tb L p) else .inl (3, tkF tb L p)
def rdSgn (tb : Nat → Nat) (L p : Nat) : PRs Nat := if tkK tb L p = 0 then .inl (1, tkF tb L p) else if tkK tb L p = 3 then .inr (tkE tb L p) else .inl (2, tkF tb L p)
abbrev DT : Type := RT × BT × Bool × Bool × Bool
def dF (D : DT) : RT := D.1
def dB (D : DT) : BT := D.2.1
def dBd (D : DT) : Bool := D.2.2.1
def dOd (D : DT) : Bool := D.2.2.2.1
def dTn (D : DT) : Bool := D.2.2.2.2
def rdFree (tb : Nat → Nat) (L : Nat) (D : DT) (p : Nat) : PRs (Nat × Nat × Nat) := pb (rdNum tb L 0 24 p) (fun q => if rS (dF D) q.1 = false ∧ pon (dF D) (dB D) q.1 = none then .inr q else .inl (4, q.2.1))
def stW (F : RT) (w h : Nat) : RT := (w, h, F.2.2)
def stO (F : RT) (f : Nat → Nat) : RT := (rW F, rH F, rN F, rSd F, rKd F, f, rS F)
def stS (F : RT) (s : Nat → Bool) : RT := (rW F, rH F, rN F, rSd F, rKd F, rOd F, s)
def stM (b : BT) (m : Nat) : BT := (bP b, bO b, m)
def adF (F : RT) (kd sd : Nat) : RT := (rW F, rH F, rN F + 1, fun p => if p = rN F then sd else rSd F p, fun p => if p = rN F then kd else rKd F p, rOd F, rS F)
def adB (b : BT) (k q o : Nat) : BT := (fun p => if p = k then some q else bP b p, fun p => if p = k then o else bO b p, bM b)
def strC : List (List Nat) := strL.map (fun q => q.2.toList.map (fun ch => ch.toNat))
def isN (tb : Nat → Nat) (i f e : Nat) : Bool := decide (e - f = strN.getD i 0) && (List.range (strN.getD i 0)).all (fun k => decide (tb (f + k) = (strC.getD i []).getD k 0))
def rdBoard (tb : Nat → Nat) (L : Nat) (D : DT) (f p : Nat) : PRs (DT × Nat) := if dBd D = true then .inl (4, f) else
  pb (rdNum tb L 2 5 p) fun w => pb (rdNum tb L 2 5 w.2.2) fun h => pb (rdSgn tb L h.2.2) fun e => .inr ((stW (dF D) w.1 h.1, dB D, true, dOd D, dTn D), e)
def rdStp (tb : Nat → Nat) (L : Nat) (D : DT) (p : Nat) : PRs (DT × Nat) :=
  pb (rdFree tb L D p) fun q => pb (rdSgn tb L q.2.2) fun e => .inr ((stS (dF D) (fun i => rS (dF D) i || decide (i = q.1)), dB D, dBd D, dOd D, dTn D), e)
def kdN (tb : Nat → Nat) (f e : Nat) : Option Nat := if isN tb 5 f e = true then some 0 else if isN tb 6 f e = true then some 1 else if isN tb 7 f e = true then some 2 else if isN tb 8 f e = true then some 3 else none
def rdPiece (tb : Nat → Nat) (L : Nat) (D : DT) (f p : Nat) : PRs (DT × Nat) := if 6 ≤ rN (dF D) then .inl (5, f) else
  if tkK tb L p = 0 then .inl (1, tkF tb L p) else
  match (if tkK tb L p = 1 then kdN tb (tkF tb L p) (tkE tb L p) else none) with
  | none => .inl (2, tkF tb L p)
  | some kd => pb (rdNum tb L 0 1 (tkE tb L p)) fun s => pb (rdFree tb L D s.2.2) fun q => pb (rdNum tb L 0 9 q.2.2) fun o => pb (rdSgn tb L o.2.2) fun e => .inr ((adF (dF D) kd s.1, adB (dB D) (rN (dF D)) q.1 o.1, dBd D, dOd D, dTn D), e)
/-- the odds, from the j-th on: how they are then, the place of the last number, its end -/
def rdOds (tb : Nat → Nat) (L : Nat) : Nat → Nat → (Nat → Nat) → Nat → Nat → PRs ((Nat → Nat) × Nat × Nat)
  | 0, _, g, f, p => .inr (g, f, p)
  | k + 1, j, g, _, p => pb (rdNum tb L 0 9 p) fun v => rdOds tb L k (j + 1) (fun w => if w = j then v.1 else g w) v.2.1 v.2.2
def rdOdds (tb : Nat → Nat) (L : Nat) (D : DT) (f p : Nat) : PRs (DT × Nat) := if dOd D = true then .inl (4, f) else
  pb (rdOds tb L 5 0 (rOd (dF D)) f p) fun q => if 0 < smP q.1 5 then pb (rdSgn tb L q.2.2) fun e => .inr ((stO (dF D) q.1, dB D, dBd D, true, dTn D), e) else .inl (3, q.2.1)
def rdTurn (tb : Nat → Nat) (L : Nat) (D : DT) (f p : Nat) : PRs (DT × Nat) := if dTn D = true then .inl (4, f) else
  pb (rdNum tb L 0 1 p) fun s => pb (rdSgn tb L s.2.2) fun e => .inr ((dF D, stM (dB D) s.1, dBd D, dOd D, true), e)
/-- a line, its first token known: a name or not -/
def rdLine (tb : Nat → Nat) (L : Nat) (D : DT) (k f p : Nat) : PRs (DT × Nat) :=
  if k = 1 ∧ isN tb 0 f p = true then rdBoard tb L D f p else
  if k = 1 ∧ isN tb 1 f p = true then rdStp tb L D p else
  if k = 1 ∧ isN tb 2 f p = true then rdPiece tb L D f p else
  if k = 1 ∧ isN tb 3 f p = true then rdOdds tb L D f p else
  if k = 1 ∧ isN tb 4 f p = true then rdTurn tb L D f p else .inl (2, f)
def kgN (F : RT) (sd : Nat) : Nat := ctP (fun p => decide (rKd F p = 0) && decide (rSd F p = sd)) (rN F)
def useB (F : RT) (b : BT) (i : Nat) : Bool := rS F i || helB F b 0 i || helB F b 1 i
def twoK (F : RT) (b : BT) : RT × BT := (adF (adF F 0 0) 0 1, adB (adB b 0 0 9) 1 (rW F * rH F - 1) 9)
def whlD (L : Nat) (D : DT) : PRs (RT × BT) := if (List.range 32).any (fun i => decide (rW (dF D) * rH (dF D) ≤ i) && useB (dF D) (dB D) i) = true then .inl (6, L) else
  if 0 < rN (dF D) then (if kgN (dF D) 0 = 1 ∧ kgN (dF D) 1 = 1 then .inr (dF D, dB D) else .inl (7, L)) else
  if rS (dF D) 0 = true ∨ rS (dF D) (rW (dF D) * rH (dF D) - 1) = true then .inl (8, L) else .inr (twoK (dF D) (dB D))
def rdAll (tb : Nat → Nat) (L : Nat) : Nat → DT → Nat → Nat → PRs (Nat × RT × BT)
  | 0, _, _, _ => .inl (0, 0)
  | k + 1, D, n, p => if tkK tb L p = 0 then .inl (1, tkF tb L p) else if tkK tb L p = 4 then pb (whlD L D) (fun q => .inr (n, q.1, q.2)) else
    pb (rdLine tb L D (tkK tb L p) (tkF tb L p) (tkE tb L p)) fun q => rdAll tb L k q.1 (n + 1) q.2
/-- a draft at first -/
def dr0 : DT := ((3, 3, 0, fun _ => 0, fun _ => 0, fun _ => 1, fun _ => false), (fun _ => none, fun _ => 0, 0), false, false, false)
def txR (tb : Nat → Nat) (L : Nat) : PRs (Nat × RT × BT) := rdAll tb L (L + 1) dr0 0 0
/-! as the class keeps it -/
def TbR (I : Mem) (L : Nat) (tb : Nat → Nat) : Prop := I 15 2 = nI L ∧ L ≤ 320 ∧ ∀ i, i < L → I 16 i = cB (tb i) ∧ tb i < 256
def DrR (I : Mem) (D : DT) : Prop := RR I 18 (dF D) ∧ RW (dF D) ∧ BR I 22 (dF D) (dB D) ∧ BW (dF D) (dB D) ∧ (∀ p, rN (dF D) ≤ p → p < 6 → I 23 p = -4) ∧ I 15 6 = bI (dBd D = true) ∧ I 15 7 = bI (dOd D = true) ∧ I 15 8 = bI (dTn D = true)
/-- what reading leaves as it was -/
def TFr (I I1 : Mem) : Prop := (∀ i, i ≠ 15 → ¬ (18 ≤ i ∧ i ≤ 25) → I1 i = I i) ∧ I1 15 2 = I 15 2 ∧ I1 15 3 = I 15 3
theorem TFr.rfl' {I : Mem} : TFr I I := ⟨fun _ _ _ => rfl, rfl, rfl⟩
theorem TFr.tr {I J K : Mem} (a : TFr I J) (b : TFr J K) : TFr I K := ⟨fun i h1 h2 => (b.1 i h1 h2).trans (a.1 i h1 h2), b.2.1.trans a.2.1, b.2.2.trans a.2.2⟩
theorem TbR.fr {I I1 : Mem} {L : Nat} {tb : Nat → Nat} (h : TbR I L tb) (f : TFr I I1) : TbR I1 L tb := ⟨f.2.1.trans h.1, h.2.1, fun i hi => by rw [f.1 16 (by decide) (by omega)]; exact h.2.2 i hi⟩
theorem DrR.cong {I I1 : Mem} {D : DT} (h : DrR I D) (e : ∀ i, 18 ≤ i → i ≤ 25 → I1 i = I i) (e6 : I1 15 6 = I 15 6) (e7 : I1 15 7 = I 15 7) (e8 : I1 15 8 = I 15 8) : DrR I1 D := by
  obtain ⟨h1, h2, h3, h4, h5, h6, h7, h8⟩ := h
  exact ⟨h1.cong (fun i hi => e _ (by omega) (by omega)), h2, h3.cong (fun i hi => e _ (by omega) (by omega)), h4, fun p a c => by rw [e 23 (by decide) (by decide)]; exact h5 p a c, e6.trans h6, e7.trans h7, e8.trans h8⟩
theorem shr0 (x : Int32) : x >>> ((0 : Int32) &&& 31) = x := by
  have := b_ext (x := x >>> ((0 : Int32) &&& 31)) (y := x) (fun i hi => by
    rw [show ((0 : Int32) &&& 31) = (nI 0 &&& 31) from rfl, b_sshr 0 (by decide) x hi, if_pos (by omega), Nat.zero_add])
  exact this
theorem str_ok : ∀ i, i < 9 → strN.getD i 0 < 10 := by decide +kernel
theorem str_ch : ∀ i, i < 9 → ∀ k, k < 10 → k < strN.getD i 0 → (strB.getD i []).getD k 0 = nI ((strC.getD i []).getD k 0) ∧ ((nI ((strC.getD i []).getD k 0) &&& 255).toUInt32 % 65536).toInt32 = nI ((strC.getD i []).getD k 0) ∧ narrow .char (.int (nI ((strC.getD i []).getD k 0))) = .int (nI ((strC.getD i []).getD k 0)) := by decide +kernel
theorem TbR.w1 {I : Mem} {L : Nat} {tb : Nat → Nat} {z : Nat} {x : Int32} (h : TbR I L tb) (hz : z ≠ 2) (_h : True) : TbR (wr I 15 z x) L tb := ⟨by rw [wr_sn (fun e => hz e.symm)]; exact h.1, h.2.1, fun i hi => by rw [wr_n (by decide)]; exact h.2.2 i hi⟩
set_option maxHeartbeats 400000 in
theorem c_J0_coder_7d493 (n : Nat) (ρ : Rho) (I : Mem) (i : Nat) (hn9 : n ≤ 999) (hi9 : i < 9) : MI yJ0_coder_7d493 cJ0_coder_7d493 1 (some .byte) 0 [.ref (1000 + i)] n ρ I (fun v I1 => v = 0 ∧ I = I1) := by
  refine MG.of (by decide +kernel) (Nat.le_of_ble_eq_true rfl) hn9 ?_
  intro κ C hR
  show G κ n ρ 0 [(0, .ref (1000 + i))] [] I
  refine g_getsC C (pc := 0) gf_RJ0_38 dJ0_coder_7d493_0 ?_
  refine g_if_eq C (pc := 3) 13 dJ0_coder_7d493_3 (by decide) (fun c3 => absurd c3 (by first | decide | (subst_vars; decide))) (fun c3 => ?_)
  refine g_aload_n C (pc := 6) dJ0_coder_7d493_6 0 rfl ?_
  refine g_strC C (pc := 7) hi9 gf_RJ0_15 dJ0_coder_7d493_7 ?_
  refine g_goto C (pc := 10) 14 dJ0_coder_7d493_10 (by decide) ?_
  refine g_nret C hR (pc := 14) rfl rfl dJ0_coder_7d493_14 ?_
  refine ⟨rfl, _, rfl, ?_⟩
  exact ⟨rfl, rfl⟩
set_option maxHeartbeats 400000 in
theorem c_J0_length_8abf5 (n : Nat) (ρ : Rho) (I : Mem) (i : Nat) (hn9 : n ≤ 999) (hi9 : i < 9) : MI yJ0_length_8abf5 cJ0_length_8abf5 1 (some .int) 1 [.ref (1000 + i)] n ρ I (fun v I1 => v = nI (strN.getD i 0) ∧ I = I1) := by
  refine MG.of (by decide +kernel) (Nat.le_of_ble_eq_true rfl) hn9 ?_
  intro κ C hR
  show G κ n ρ 0 [(0, .ref (1000 + i))] [] I
  refine g_aload_n C (pc := 0) dJ0_length_8abf5_0 0 rfl ?_
  refine g_strV C (pc := 1) hi9 gf_RJ0_9 dJ0_length_8abf5_1 ?_
  refine g_strLen C (pc := 4) hi9 dJ0_length_8abf5_4 ?_
  refine g_aload_n C (pc := 5) dJ0_length_8abf5_5 0 rfl ?_
  refine g_callStr C (pc := 6) mf_J0_coder_7d493 lk_RJ0_335 (c_J0_coder_7d493 n ρ I i hn9 hi9) (by decide) (Nat.le_refl _) rfl hi9 rfl (Nat.le_of_ble_eq_true rfl) dJ0_length_8abf5_6 (fun v6 I6 h6 => ?_)
  obtain ⟨e6, rfl⟩ := h6
  refine g_ishr C (pc := 9) dJ0_length_8abf5_9 ?_
  refine g_iret C hR (pc := 10) rfl dJ0_length_8abf5_10 ?_
  refine ⟨rfl, _, rfl, ?_⟩
  refine ⟨?_, rfl⟩
  rw [e6]; exact shr0 _
set_option maxHeartbeats 400000 in
theorem c_J0_isLatin1_aae02 (n : Nat) (ρ : Rho) (I : Mem) (i : Nat) (hn9 : n ≤ 999) (hi9 : i < 9) : MI yJ0_isLatin1_aae02 cJ0_isLatin1_aae02 1 (some .boolean) 0 [.ref (1000 + i)] n ρ I (fun v I1 => v = 1 ∧ I = I1) := by
  refine MG.of (by decide +kernel) (Nat.le_of_ble_eq_true rfl) hn9 ?_
  intro κ C hR
  show G κ n ρ 0 [(0, .ref (1000 + i))] [] I
  refine g_getsC C (pc := 0) gf_RJ0_38 dJ0_isLatin1_aae02_0 ?_
  refine g_if_eq C (pc := 3) 17 dJ0_isLatin1_aae02_3 (by decide) (fun c3 => absurd c3 (by first | decide | (subst_vars; decide))) (fun c3 => ?_)
  refine g_aload_n C (pc := 6) dJ0_isLatin1_aae02_6 0 rfl ?_
  refine g_strC C (pc := 7) hi9 gf_RJ0_15 dJ0_isLatin1_aae02_7 ?_
  refine g_if_ne C (pc := 10) 17 dJ0_isLatin1_aae02_10 (by decide) (fun c10 => absurd c10 (by first | decide | (subst_vars; decide))) (fun c10 => ?_)
  refine g_iconst C (pc := 13) 1 dJ0_isLatin1_aae02_13 (by decide) ?_
  refine g_goto C (pc := 14) 18 dJ0_isLatin1_aae02_14 (by decide) ?_
  refine g_zret C hR (pc := 18) rfl rfl dJ0_isLatin1_aae02_18 ?_
  refine ⟨rfl, _, rfl, ?_⟩
  exact ⟨rfl, rfl⟩
set_option maxHeartbeats 400000 in
theorem c_J3_checkIndex_R (n : Nat) (ρ : Rho) (I : Mem) (k m : Nat) (x z : Int32) (hn9 : n ≤ 999) (hk : k < m) (hm : m < 1000) (hx : x = nI k) (hz : z = nI m) : MI yJ3_checkIndex_8e157 cJ3_checkIndex_8e157 3 (some .int) 0 [.int x, .int z, .ref 1200] n ρ I (fun v I1 => v = x ∧ I = I1) := by
  refine MG.of (by decide +kernel) (Nat.le_of_ble_eq_true rfl) hn9 ?_
  intro κ C hR
  show G κ n ρ 0 [(0, .int x), (1, .int z), (2, .ref 1200)] [] I
  refine g_iload_n C (pc := 0) dJ3_checkIndex_8e157_0 0 rfl ?_
  refine g_if_lt C (pc := 1) 9 dJ3_checkIndex_8e157_1 (by decide) (fun c1 => ?_) (fun c1 => ?_)
  · rw [hx] at c1; exact absurd c1 (nI_pos (by omega))
  · refine g_iload_n C (pc := 4) dJ3_checkIndex_8e157_4 0 rfl ?_
    refine g_iload_n C (pc := 5) dJ3_checkIndex_8e157_5 1 rfl ?_
    refine g_icmp_lt C (pc := 6) 16 dJ3_checkIndex_8e157_6 (by decide) (fun c6 => ?_) (fun c6 => ?_)
    · refine g_iload_n C (pc := 16) dJ3_checkIndex_8e157_16 0 rfl ?_
      refine g_iret C hR (pc := 17) rfl dJ3_checkIndex_8e157_17 ?_
      refine ⟨rfl, _, rfl, ?_⟩
      exact ⟨rfl, rfl⟩
    · rw [hx, hz, nI_leI (by omega) (by omega)] at c6; omega
set_option maxHeartbeats 400000 in
theorem c_J3_checkIndex_N (n : Nat) (ρ : Rho) (I : Mem) (k m : Nat) (x z : Int32) (hn9 : n ≤ 999) (hk : k < m) (hm : m < 1000) (hx : x = nI k) (hz : z = nI m) : MI yJ3_checkIndex_8e157 cJ3_checkIndex_8e157 3 (some .int) 0 [.int x, .int z, .null] n ρ I (fun v I1 => v = x ∧ I = I1) := by
  refine MG.of (by decide +kernel) (Nat.le_of_ble_eq_true rfl) hn9 ?_
  intro κ C hR
  show G κ n ρ 0 [(0, .int x), (1, .int z), (2, .null)] [] I
  refine g_iload_n C (pc := 0) dJ3_checkIndex_8e157_0 0 rfl ?_
  refine g_if_lt C (pc := 1) 9 dJ3_checkIndex_8e157_1 (by decide) (fun c1 => ?_) (fun c1 => ?_)
  · rw [hx] at c1; exact absurd c1 (nI_pos (by omega))
  · refine g_iload_n C (pc := 4) dJ3_checkIndex_8e157_4 0 rfl ?_
    refine g_iload_n C (pc := 5) dJ3_checkIndex_8e157_5 1 rfl ?_
    refine g_icmp_lt C (pc := 6) 16 dJ3_checkIndex_8e157_6 (by decide) (fun c6 => ?_) (fun c6 => ?_)
    · refine g_iload_n C (pc := 16) dJ3_checkIndex_8e157_16 0 rfl ?_
      refine g_iret C hR (pc := 17) rfl dJ3_checkIndex_8e157_17 ?_
      refine ⟨rfl, _, rfl, ?_⟩
      exact ⟨rfl, rfl⟩
    · rw [hx, hz, nI_leI (by omega) (by omega)] at c6; omega
set_option maxHeartbeats 400000 in
theorem c_J0_checkIndex_df160 (n : Nat) (ρ : Rho) (I : Mem) (k m : Nat) (x z : Int32) (hn9 : n ≤ 999) (hk : k < m) (hm : m < 1000) (hx : x = nI k) (hz : z = nI m) : MV yJ0_checkIndex_df160 cJ0_checkIndex_df160 2 none 1 [.int x, .int z] n ρ I (fun I1 => I = I1) := by
  refine MG.of (by decide +kernel) (Nat.le_of_ble_eq_true rfl) hn9 ?_
  intro κ C hR
  show G κ n ρ 0 [(0, .int x), (1, .int z)] [] I
  refine g_iload_n C (pc := 0) dJ0_checkIndex_df160_0 0 rfl ?_
  refine g_iload_n C (pc := 1) dJ0_checkIndex_df160_1 1 rfl ?_
  refine g_getsF C (pc := 2) gf_RJ0_1053 dJ0_checkIndex_df160_2 ?_ ?_
  · refine g_callSI C (pc := 5) mf_J3_checkIndex_8e157 lk_RJ0_1059 (c_J3_checkIndex_N n ρ I k m x z hn9 hk hm hx hz) (by decide) (Nat.le_refl _) rfl (Nat.le_of_ble_eq_true rfl) dJ0_checkIndex_df160_5 (fun v5 I5 h5 => ?_)
    obtain ⟨e5, rfl⟩ := h5
    refine g_pop C (pc := 8) dJ0_checkIndex_df160_8 rfl ?_
    refine g_vret C hR (pc := 9) rfl dJ0_checkIndex_df160_9 ?_
    refine ⟨rfl, rfl, ?_⟩
    rfl
  · refine g_callSI C (pc := 5) mf_J3_checkIndex_8e157 lk_RJ0_1059 (c_J3_checkIndex_R n ρ I k m x z hn9 hk hm hx hz) (by decide) (Nat.le_refl _) rfl (Nat.le_of_ble_eq_true rfl) dJ0_checkIndex_df160_5 (fun v5 I5 h5 => ?_)
    obtain ⟨e5, rfl⟩ := h5
    refine g_pop C (pc := 8) dJ0_checkIndex_df160_8 rfl ?_
    refine g_vret C hR (pc := 9) rfl dJ0_checkIndex_df160_9 ?_
    refine ⟨rfl, rfl, ?_⟩
    rfl
set_option maxHeartbeats 400000 in
theorem c_J1_charAt_3b067 (n : Nat) (ρ : Rho) (I : Mem) (i k : Nat) (x : Int32) (hn9 : n ≤ 999) (hi9 : i < 9) (hk : k < (strN.getD i 0)) (hx : x = nI k) : MI yJ1_charAt_3b067 cJ1_charAt_3b067 2 (some .char) 2 [.ref (1100 + i), .int x] n ρ I (fun v I1 => v = nI ((strC.getD i []).getD k 0) ∧ I = I1) := by
  refine MG.of (by decide +kernel) (Nat.le_of_ble_eq_true rfl) hn9 ?_
  intro κ C hR
  show G κ n ρ 0 [(0, .ref (1100 + i)), (1, .int x)] [] I
  have hs := str_ok i hi9
  have hc := str_ch i hi9 k (by omega)
  refine g_iload_n C (pc := 0) dJ1_charAt_3b067_0 1 rfl ?_
  refine g_aload_n C (pc := 1) dJ1_charAt_3b067_1 0 rfl ?_
  refine g_strLen C (pc := 2) hi9 dJ1_charAt_3b067_2 ?_
  refine g_callSV C (pc := 3) mf_J0_checkIndex_df160 lk_RJ1_9 (c_J0_checkIndex_df160 n ρ I k _ _ _ hn9 hk (by omega) hx rfl) (by decide) (Nat.le_refl _) rfl (Nat.le_of_ble_eq_true rfl) dJ1_charAt_3b067_3 (fun I3 h3 => ?_)
  obtain rfl := h3
  refine g_aload_n C (pc := 6) dJ1_charAt_3b067_6 0 rfl ?_
  refine g_iload_n C (pc := 7) dJ1_charAt_3b067_7 1 rfl ?_
  refine g_strB C (pc := 8) hi9 (by rw [hx]; exact vp_in_nI hk (by omega)) dJ1_charAt_3b067_8 ?_
  rw [hx, nI_clamp (by omega), (hc hk).1]
  refine g_sipush C (pc := 9) 255 dJ1_charAt_3b067_9 (by decide) ?_
  refine g_iand C (pc := 12) dJ1_charAt_3b067_12 ?_
  refine g_i2c C (pc := 13) dJ1_charAt_3b067_13 ?_
  refine g_nret C hR (pc := 14) rfl (by rw [(hc hk).2.1]; exact (hc hk).2.2) dJ1_charAt_3b067_14 ?_
  refine ⟨rfl, _, rfl, ?_⟩
  refine ⟨?_, rfl⟩
  exact (hc hk).2.1
set_option maxHeartbeats 400000 in
theorem c_J0_charAt_5068e (n : Nat) (ρ : Rho) (I : Mem) (i k : Nat) (x : Int32) (hn9 : n ≤ 999) (hi9 : i < 9) (hk : k < (strN.getD i 0)) (hx : x = nI k) : MI yJ0_charAt_5068e cJ0_charAt_5068e 2 (some .char) 4 [.ref (1000 + i), .int x] n ρ I (fun v I1 => v = nI ((strC.getD i []).getD k 0) ∧ I = I1) := by
  refine MG.of (by decide +kernel) (Nat.le_of_ble_eq_true rfl) hn9 ?_
  intro κ C hR
  show G κ n ρ 0 [(0, .ref (1000 + i)), (1, .int x)] [] I
  have hc := str_ch i hi9 k (by have := str_ok i hi9; omega)
  refine g_aload_n C (pc := 0) dJ0_charAt_5068e_0 0 rfl ?_
  refine g_callStr C (pc := 1) mf_J0_isLatin1_aae02 lk_RJ0_492 (c_J0_isLatin1_aae02 n ρ I i hn9 hi9) (by decide) (Nat.le_refl _) rfl hi9 rfl (Nat.le_of_ble_eq_true rfl) dJ0_charAt_5068e_1 (fun v1 I1 h1 => ?_)
  obtain ⟨e1, rfl⟩ := h1
  refine g_if_eq C (pc := 4) 16 dJ0_charAt_5068e_4 (by decide) (fun c4 => ?_) (fun c4 => ?_)
  · rw [e1] at c4; exact absurd c4 (by decide)
  · refine g_aload_n C (pc := 7) dJ0_charAt_5068e_7 0 rfl ?_
    refine g_strV C (pc := 8) hi9 gf_RJ0_9 dJ0_charAt_5068e_8 ?_
    refine g_iload_n C (pc := 11) dJ0_charAt_5068e_11 1 rfl ?_
    refine g_callSI C (pc := 12) mf_J1_charAt_3b067 lk_RJ0_495 (c_J1_charAt_3b067 n ρ I i k x hn9 hi9 hk hx) (by decide) (Nat.le_refl _) rfl (Nat.le_of_ble_eq_true rfl) dJ0_charAt_5068e_12 (fun v12 I12 h12 => ?_)
    obtain ⟨e12, rfl⟩ := h12
    refine g_nret C hR (pc := 15) rfl (by rw [e12]; exact (hc hk).2.2) dJ0_charAt_5068e_15 ?_
    refine ⟨rfl, _, rfl, ?_⟩
    exact ⟨e12, rfl⟩
set_option maxHeartbeats 400000 in
theorem c_X10_fail (n : Nat) (ρ : Rho) (I : Mem) (x z : Int32) (hn9 : n ≤ 999) (hxs : XS n ρ) : MI yX10_fail cX10_fail 3 (some .boolean) 0 [.ref 15, .int x, .int z] n ρ I (fun v I1 => v = 0 ∧ wr (wr I 15 4 x) 15 5 z = I1) := by
  refine MG.of (by decide +kernel) (Nat.le_of_ble_eq_true rfl) hn9 ?_
  intro κ C hR
  show G κ n ρ 0 [(0, .ref 15), (1, .int x), (2, .int z)] [] I
  obtain ⟨hxc, ⟨xb1, xb2, xb3, xb4, xb5, xb6, xb8⟩, ⟨xi0, xi1, xga, xgb⟩, ⟨xt0, xt1, xgd⟩, hch, ⟨xr0, xr1, xr2⟩, xa0, ⟨xw0, xw1⟩, xst⟩ := id hxs
  obtain ⟨xc0, xcn, xc1, hga, xc7, hss⟩ := id hxc
  have xcz : 0 < n := by omega
  obtain ⟨ga0, ga1, ga2, ga3, ga4, ga5, ga6, ga7, ga8, gan, hrf, hst⟩ := id hga
  have hrf0 := hrf.1
  have hst0 := hst.1
  have hsp := hch.sp
  obtain ⟨hp0, hpn, hp1, hp2, hp3, hp4⟩ := id hsp
  refine g_aload_n C (pc := 0) dX10_fail_0 0 rfl ?_
  refine g_iload_n C (pc := 1) dX10_fail_1 1 rfl ?_
  refine g_putI C (pc := 2) fl_RX10_35 (by decide) fp_9_4 (Or.inl rfl) ⟨rfl, rfl⟩ (by first | assumption | rfl | omega) (by first | assumption | rfl | omega) hn9 dX10_fail_2 ?_
  refine g_aload_n C (pc := 5) dX10_fail_5 0 rfl ?_
  refine g_iload_n C (pc := 6) dX10_fail_6 2 rfl ?_
  refine g_putI C (pc := 7) fl_RX10_38 (by decide) fp_9_5 (Or.inl rfl) ⟨rfl, rfl⟩ (by first | assumption | rfl | omega) (by first | assumption | rfl | omega) hn9 dX10_fail_7 ?_
  refine g_iconst C (pc := 10) 0 dX10_fail_10 (by decide) ?_
  refine g_zret C hR (pc := 11) rfl rfl dX10_fail_11 ?_
  refine ⟨rfl, _, rfl, ?_⟩
  exact ⟨rfl, rfl⟩
set_option maxHeartbeats 400000 in
theorem c_X10_byteAt (n : Nat) (ρ : Rho) (I : Mem) (L : Nat) (tb : Nat → Nat) (p : Nat) (x : Int32) (hn9 : n ≤ 999) (hxs : XS n ρ) (htb : TbR I L tb) (hp : p < 1000) (hx : x = nI p) : MI yX10_byteAt cX10_byteAt 2 (some .int) 0 [.ref 15, .int x] n ρ I (fun v I1 => v = (if p < L then cB (tb p) else -4) ∧ I = I1) := by
  refine MG.of (by decide +kernel) (Nat.le_of_ble_eq_true rfl) hn9 ?_
  intro κ C hR
  show G κ n ρ 0 [(0, .ref 15), (1, .int x)] [] I
  obtain ⟨hxc, ⟨xb1, xb2, xb3, xb4, xb5, xb6, xb8⟩, ⟨xi0, xi1, xga, xgb⟩, ⟨xt0, xt1, xgd⟩, hch, ⟨xr0, xr1, xr2⟩, xa0, ⟨xw0, xw1⟩, xst⟩ := id hxs
  obtain ⟨xc0, xcn, xc1, hga, xc7, hss⟩ := id hxc
  have xcz : 0 < n := by omega
  obtain ⟨ga0, ga1, ga2, ga3, ga4, ga5, ga6, ga7, ga8, gan, hrf, hst⟩ := id hga
  have hrf0 := hrf.1
  have hst0 := hst.1
  have hsp := hch.sp
  obtain ⟨hp0, hpn, hp1, hp2, hp3, hp4⟩ := id hsp
  obtain ⟨hL, hL3, htbs⟩ := id htb
  refine g_iload_n C (pc := 0) dX10_byteAt_0 1 rfl ?_
  refine g_if_lt C (pc := 1) 30 dX10_byteAt_1 (by decide) (fun c1 => ?_) (fun c1 => ?_)
  · rw [hx] at c1; exact absurd c1 (nI_pos (by omega))
  · refine g_iload_n C (pc := 4) dX10_byteAt_4 1 rfl ?_
    refine g_aload_n C (pc := 5) dX10_byteAt_5 0 rfl ?_
    refine g_getI C (pc := 6) fl_RX10_22 (by decide) (by first | assumption | rfl | omega) (by first | assumption | rfl | omega) dX10_byteAt_6 ?_
    refine g_icmp_ge C (pc := 9) 30 dX10_byteAt_9 (by decide) (fun c9 => ?_) (fun c9 => ?_)
    · rw [hL, hx, nI_leI (by omega) (by omega)] at c9
      refine g_bipush C (pc := 30) (-4) dX10_byteAt_30 (by decide) ?_
      refine g_iret C hR (pc := 32) rfl dX10_byteAt_32 ?_
      refine ⟨rfl, _, rfl, ?_⟩
      refine ⟨?_, rfl⟩
      first | (rw [if_neg (by omega)]; done) | (rw [if_pos c9, hx, nI_clamp (by omega)]; exact (htbs p c9).1)
    · rw [hL, hx, nI_ltI (by omega) (by omega)] at c9
      refine g_iload_n C (pc := 12) dX10_byteAt_12 1 rfl ?_
      refine g_aload_n C (pc := 13) dX10_byteAt_13 0 rfl ?_
      refine g_getR C (pc := 14) fl_RX10_9 (by decide) (by first | assumption | rfl | omega) (by first | assumption | rfl | omega) (by first | assumption | rfl | omega) dX10_byteAt_14 ?_
      refine g_alen C (pc := 17) 320 (by first | assumption | rfl | omega) (by decide) (by first | assumption | rfl | omega) rfl dX10_byteAt_17 ?_
      refine g_icmp_ge C (pc := 18) 30 dX10_byteAt_18 (by decide) (fun c18 => ?_) (fun c18 => ?_)
      · rw [hx, show (320 : Int32) = nI 320 from rfl, nI_leI (by decide) (by omega)] at c18; omega
      · refine g_aload_n C (pc := 21) dX10_byteAt_21 0 rfl ?_
        refine g_getR C (pc := 22) fl_RX10_9 (by decide) (by first | assumption | rfl | omega) (by first | assumption | rfl | omega) (by first | assumption | rfl | omega) dX10_byteAt_22 ?_
        refine g_iload_n C (pc := 25) dX10_byteAt_25 1 rfl ?_
        refine g_bald C (pc := 26) (by first | assumption | rfl | omega) (by first | assumption | rfl | omega) (by rw [hx]; exact vp_in_nI (by omega) (by decide)) dX10_byteAt_26 ?_
        refine g_goto C (pc := 27) 32 dX10_byteAt_27 (by decide) ?_
        refine g_iret C hR (pc := 32) rfl dX10_byteAt_32 ?_
        refine ⟨rfl, _, rfl, ?_⟩
        refine ⟨?_, rfl⟩
        first | (rw [if_neg (by omega)]; done) | (rw [if_pos c9, hx, nI_clamp (by omega)]; exact (htbs p c9).1)
set_option maxHeartbeats 400000 in
theorem c_X10_endOfRun (n : Nat) (ρ : Rho) (I : Mem) (L : Nat) (tb : Nat → Nat) (p lo hi : Nat) (x y9 z : Int32) (hn9 : n ≤ 999) (hxs : XS n ρ) (htb : TbR I L tb) (hpL : p ≤ L) (hlo : lo < 128) (hhi : hi < 128) (hx : x = nI p) (hy : y9 = nI lo) (hz : z = nI hi) : MI yX10_endOfRun cX10_endOfRun 5 (some .int) 0 [.ref 15, .int x, .int y9, .int z] n ρ I (fun v I1 => v = nI (runT tb L lo hi p) ∧ I = I1) := by
  refine MG.of (by decide +kernel) (Nat.le_of_ble_eq_true rfl) hn9 ?_
  intro κ C hR
  show G κ n ρ 0 [(0, .ref 15), (1, .int x), (2, .int y9), (3, .int z)] [] I
  subst hx hy hz
  obtain ⟨hxc, ⟨xb1, xb2, xb3, xb4, xb5, xb6, xb8⟩, ⟨xi0, xi1, xga, xgb⟩, ⟨xt0, xt1, xgd⟩, hch, ⟨xr0, xr1, xr2⟩, xa0, ⟨xw0, xw1⟩, xst⟩ := id hxs
  obtain ⟨xc0, xcn, xc1, hga, xc7, hss⟩ := id hxc
  have xcz : 0 < n := by omega
  obtain ⟨ga0, ga1, ga2, ga3, ga4, ga5, ga6, ga7, ga8, gan, hrf, hst⟩ := id hga
  have hrf0 := hrf.1
  have hst0 := hst.1
  have hsp := hch.sp
  obtain ⟨hp0, hpn, hp1, hp2, hp3, hp4⟩ := id hsp
  obtain ⟨hL, hL3, htbs⟩ := id htb
  refine g_iload_n C (pc := 0) dX10_endOfRun_0 1 rfl ?_
  refine g_istore C (pc := 1) dX10_endOfRun_1 (by decide) (fun v1 => [(4, .int v1), (0, .ref 15), (1, .int (nI p)), (2, .int (nI lo)), (3, .int (nI hi))]) (fun _ => rfl) (fun v1 ev1 => ?_)
  have L3 : ∀ (k9 : Nat) (j : Nat) (wz4 : Int32) (hw4 : wz4 = nI j) (hj : j ≤ L) (hRT : runT tb L lo hi p = runT tb L lo hi j), L - j < k9 → G κ n ρ 3 [(4, .int wz4), (0, .ref 15), (2, .int (nI lo)), (3, .int (nI hi))] [] I := by
    intro k9
    induction k9 with
    | zero => intro j wz4 hw4 hj hRT hm3; exact absurd hm3 (Nat.not_lt_zero _)
    | succ k9 ih3 =>
      intro j wz4 hw4 hj hRT hm3
      subst hw4
      refine g_iload C (pc := 3) dX10_endOfRun_3 0 rfl ?_
      refine g_if_lt C (pc := 5) 55 dX10_endOfRun_5 (by decide) (fun c5 => ?_) (fun c5 => ?_)
      · exact absurd c5 (nI_pos (by omega))
      · refine g_iload C (pc := 8) dX10_endOfRun_8 0 rfl ?_
        refine g_aload_n C (pc := 10) dX10_endOfRun_10 1 rfl ?_
        refine g_getI C (pc := 11) fl_RX10_22 (by decide) (by first | assumption | rfl | omega) (by first | assumption | rfl | omega) dX10_endOfRun_11 ?_
        refine g_icmp_ge C (pc := 14) 55 dX10_endOfRun_14 (by decide) (fun c14 => ?_) (fun c14 => ?_)
        · rw [hL, nI_leI (by omega) (by omega)] at c14
          have hst9 : ¬ (j < L ∧ lo ≤ tb j ∧ tb j ≤ hi) := by omega
          refine g_iload C (pc := 55) dX10_endOfRun_55 0 rfl ?_
          refine g_iret C hR (pc := 57) rfl dX10_endOfRun_57 ?_
          refine ⟨rfl, _, rfl, ?_⟩
          exact ⟨by rw [hRT, runT_stop hst9], rfl⟩
        · rw [hL, nI_ltI (by omega) (by omega)] at c14
          obtain ⟨hb1, hb2⟩ := htbs j c14
          refine g_iload C (pc := 17) dX10_endOfRun_17 0 rfl ?_
          refine g_aload_n C (pc := 19) dX10_endOfRun_19 1 rfl ?_
          refine g_getR C (pc := 20) fl_RX10_9 (by decide) (by first | assumption | rfl | omega) (by first | assumption | rfl | omega) (by first | assumption | rfl | omega) dX10_endOfRun_20 ?_
          refine g_alen C (pc := 23) 320 (by first | assumption | rfl | omega) (by decide) (by first | assumption | rfl | omega) rfl dX10_endOfRun_23 ?_
          refine g_icmp_ge C (pc := 24) 55 dX10_endOfRun_24 (by decide) (fun c24 => ?_) (fun c24 => ?_)
          · rw [show (320 : Int32) = nI 320 from rfl, nI_leI (by decide) (by omega)] at c24; omega
          · refine g_aload_n C (pc := 27) dX10_endOfRun_27 1 rfl ?_
            refine g_getR C (pc := 28) fl_RX10_9 (by decide) (by first | assumption | rfl | omega) (by first | assumption | rfl | omega) (by first | assumption | rfl | omega) dX10_endOfRun_28 ?_
            refine g_iload C (pc := 31) dX10_endOfRun_31 0 rfl ?_
            refine g_bald C (pc := 33) (by first | assumption | rfl | omega) (by first | assumption | rfl | omega) (vp_in_nI (show j < 320 by omega) (by decide)) dX10_endOfRun_33 ?_
            rw [nI_clamp (by omega), hb1]
            refine g_iload_n C (pc := 34) dX10_endOfRun_34 2 rfl ?_
            refine g_icmp_lt C (pc := 35) 55 dX10_endOfRun_35 (by decide) (fun c35 => ?_) (fun c35 => ?_)
            · have hst9 : ¬ (j < L ∧ lo ≤ tb j ∧ tb j ≤ hi) := fun h9 => absurd c35 (Int32.not_lt.mpr ((cB_ge hb2 hlo).mpr ⟨h9.2.1, by omega⟩))
              refine g_iload C (pc := 55) dX10_endOfRun_55 0 rfl ?_
              refine g_iret C hR (pc := 57) rfl dX10_endOfRun_57 ?_
              refine ⟨rfl, _, rfl, ?_⟩
              exact ⟨by rw [hRT, runT_stop hst9], rfl⟩
            · have hlo9 := (cB_ge hb2 hlo).mp c35
              refine g_aload_n C (pc := 38) dX10_endOfRun_38 1 rfl ?_
              refine g_getR C (pc := 39) fl_RX10_9 (by decide) (by first | assumption | rfl | omega) (by first | assumption | rfl | omega) (by first | assumption | rfl | omega) dX10_endOfRun_39 ?_
              refine g_iload C (pc := 42) dX10_endOfRun_42 0 rfl ?_
              refine g_bald C (pc := 44) (by first | assumption | rfl | omega) (by first | assumption | rfl | omega) (vp_in_nI (show j < 320 by omega) (by decide)) dX10_endOfRun_44 ?_
              rw [nI_clamp (by omega), hb1]
              refine g_iload_n C (pc := 45) dX10_endOfRun_45 3 rfl ?_
              refine g_icmp_gt C (pc := 46) 55 dX10_endOfRun_46 (by decide) (fun c46 => ?_) (fun c46 => ?_)
              · have hst9 : ¬ (j < L ∧ lo ≤ tb j ∧ tb j ≤ hi) := by
                  rw [cB_s _ hlo9.2, nI_ltI (by omega) (by omega)] at c46
                  omega
                refine g_iload C (pc := 55) dX10_endOfRun_55 0 rfl ?_
                refine g_iret C hR (pc := 57) rfl dX10_endOfRun_57 ?_
                refine ⟨rfl, _, rfl, ?_⟩
                exact ⟨by rw [hRT, runT_stop hst9], rfl⟩
              · have hhi9 : tb j ≤ hi := by
                  rw [cB_s _ hlo9.2, nI_leI (by omega) (by omega)] at c46
                  exact c46
                refine g_iinc C (pc := 49) (1) dX10_endOfRun_49 0 rfl (by decide) (by decide) (fun v49 => [(4, .int v49), (0, .ref 15), (2, .int (nI lo)), (3, .int (nI hi))]) (fun _ => rfl) (fun v49 ev49 => ?_)
                refine g_goto C (pc := 52) 3 dX10_endOfRun_52 (by decide) ?_
                refine g_lv C [0, 1, 2, 3] rfl (ih3 (j + 1) _ ?_ ?_ ?_ (by omega))
                · subst_vars; exact nI_1 _
                · omega
                · exact hRT.trans (runT_go ⟨c14, hlo9.1, hhi9⟩)
  refine g_lv C [0, 1, 3, 4] rfl (L3 (_ + 1) p _ ?_ ?_ ?_ (by first | omega | exact Nat.lt_succ_self _))
  · subst_vars; rfl
  · exact hpL
  · rfl
set_option maxHeartbeats 400000 in
theorem c_X10_readToken (n : Nat) (ρ : Rho) (I : Mem) (L : Nat) (tb : Nat → Nat) (p : Nat) (hn9 : n ≤ 999) (hxs : XS n ρ) (htb : TbR I L tb) (hp : I 15 9 = nI p) (hpL : p ≤ L) : MI yX10_readToken cX10_readToken 2 (some .boolean) 1 [.ref 15] n ρ I (fun v I1 => v = bI (¬ (tkK tb L p) = 0) ∧ I1 15 11 = nI (tkF tb L p) ∧ (¬ (tkK tb L p) = 0 → I1 15 9 = nI (tkE tb L p) ∧ I1 15 10 = nI (tkK tb L p) ∧ ((tkK tb L p) = 2 → I1 15 12 = nI (tkV tb L p)) ∧ I1 15 4 = I 15 4) ∧ ((tkK tb L p) = 0 → I1 15 4 = 1 ∧ I1 15 5 = nI (tkF tb L p)) ∧ (∀ z, z = 2 ∨ z = 3 ∨ z = 6 ∨ z = 7 ∨ z = 8 → I1 15 z = I 15 z) ∧ ∀ i, i ≠ 15 → I1 i = I i) := by
  refine MG.of (by decide +kernel) (Nat.le_of_ble_eq_true rfl) hn9 ?_
  intro κ C hR
  show G κ n ρ 0 [(0, .ref 15)] [] I
  obtain ⟨hxc, ⟨xb1, xb2, xb3, xb4, xb5, xb6, xb8⟩, ⟨xi0, xi1, xga, xgb⟩, ⟨xt0, xt1, xgd⟩, hch, ⟨xr0, xr1, xr2⟩, xa0, ⟨xw0, xw1⟩, xst⟩ := id hxs
  obtain ⟨xc0, xcn, xc1, hga, xc7, hss⟩ := id hxc
  have xcz : 0 < n := by omega
  obtain ⟨ga0, ga1, ga2, ga3, ga4, ga5, ga6, ga7, ga8, gan, hrf, hst⟩ := id hga
  have hrf0 := hrf.1
  have hst0 := hst.1
  have hsp := hch.sp
  obtain ⟨hp0, hpn, hp1, hp2, hp3, hp4⟩ := id hsp
  obtain ⟨hL, hL3, htbs⟩ := id htb
  have hF := tkF_le (tb := tb) hpL
  have hEL := tkE_le (tb := tb) hpL
  refine g_aload_n C (pc := 0) dX10_readToken_0 0 rfl ?_
  refine g_aload_n C (pc := 1) dX10_readToken_1 0 rfl ?_
  refine g_aload_n C (pc := 2) dX10_readToken_2 0 rfl ?_
  refine g_getI C (pc := 3) fl_RX10_29 (by decide) (by first | assumption | rfl | omega) (by first | assumption | rfl | omega) dX10_readToken_3 ?_
  refine g_bipush C (pc := 6) 32 dX10_readToken_6 (by decide) ?_
  refine g_bipush C (pc := 8) 32 dX10_readToken_8 (by decide) ?_
  refine g_callVI C (pc := 10) mf_X10_endOfRun lk_RX10_196 (c_X10_endOfRun n ρ I L tb p 32 32 _ _ _ hn9 hxs htb hpL (by decide) (by decide) hp rfl rfl) (by decide) (Nat.le_refl _) rfl (by first | assumption | rfl | omega) rfl (by first | assumption | rfl | omega) (Nat.le_of_ble_eq_true rfl) dX10_readToken_10 (fun v10 I10 h10 => ?_)
  obtain ⟨e10, rfl⟩ := h10
  refine g_putI C (pc := 13) fl_RX10_29 (by decide) fp_9_9 (Or.inl rfl) ⟨rfl, rfl⟩ (by first | assumption | rfl | omega) (by first | assumption | rfl | omega) hn9 dX10_readToken_13 ?_
  refine g_aload_n C (pc := 16) dX10_readToken_16 0 rfl ?_
  refine g_aload_n C (pc := 17) dX10_readToken_17 0 rfl ?_
  refine g_getI C (pc := 18) fl_RX10_29 (by decide) (by first | assumption | rfl | omega) (by first | assumption | rfl | omega) dX10_readToken_18 ?_
  refine g_putI C (pc := 21) fl_RX10_93 (by decide) fp_9_11 (Or.inl rfl) ⟨rfl, rfl⟩ (by first | assumption | rfl | omega) (by first | assumption | rfl | omega) hn9 dX10_readToken_21 ?_
  obtain ⟨J, hJ⟩ : ∃ J, J = wr (wr I 15 9 v10) 15 11 (wr I 15 9 v10 15 9) := ⟨_, rfl⟩
  rw [← hJ]
  have hJ9 : J 15 9 = nI (tkF tb L p) := by rw [hJ, wr_sn (by decide), wr_ss]; exact e10
  have hJ11 : J 15 11 = nI (tkF tb L p) := by rw [hJ, wr_ss, wr_ss]; exact e10
  have hJz : ∀ z, z ≠ 9 → z ≠ 11 → J 15 z = I 15 z := fun z h1 h2 => by rw [hJ, wr_sn h2, wr_sn h1]
  have hJi : ∀ i, i ≠ 15 → J i = I i := fun i h1 => by rw [hJ, wr_n h1, wr_n h1]
  have htbJ : TbR J L tb := ⟨(hJz 2 (by decide) (by decide)).trans hL, hL3, fun i hi => by rw [hJi 16 (by decide)]; exact htbs i hi⟩
  refine g_aload_n C (pc := 24) dX10_readToken_24 0 rfl ?_
  refine g_aload_n C (pc := 25) dX10_readToken_25 0 rfl ?_
  refine g_getI C (pc := 26) fl_RX10_29 (by decide) (by first | assumption | rfl | omega) (by first | assumption | rfl | omega) dX10_readToken_26 ?_
  refine g_callVI C (pc := 29) mf_X10_byteAt lk_RX10_200 (c_X10_byteAt n ρ J L tb (tkF tb L p) _ hn9 hxs htbJ (by omega) hJ9) (by decide) (Nat.le_refl _) rfl (by first | assumption | rfl | omega) rfl (by first | assumption | rfl | omega) (Nat.le_of_ble_eq_true rfl) dX10_readToken_29 (fun v29 I29 h29 => ?_)
  obtain ⟨e29, rfl⟩ := h29
  refine g_istore_n C (pc := 32) dX10_readToken_32 (by decide) (fun v32 => [(1, .int v32), (0, .ref 15)]) (fun _ => rfl) (fun v32 ev32 => ?_)
  refine g_aload_n C (pc := 33) dX10_readToken_33 1 rfl ?_
  refine g_getI C (pc := 34) fl_RX10_29 (by decide) (by first | assumption | rfl | omega) (by first | assumption | rfl | omega) dX10_readToken_34 ?_
  refine g_aload_n C (pc := 37) dX10_readToken_37 1 rfl ?_
  refine g_getI C (pc := 38) fl_RX10_22 (by decide) (by first | assumption | rfl | omega) (by first | assumption | rfl | omega) dX10_readToken_38 ?_
  refine g_icmp_lt C (pc := 41) 52 dX10_readToken_41 (by decide) (fun c41 => ?_) (fun c41 => ?_)
  · have hlt : tkF tb L p < L := by
      rw [hJ9, htbJ.1, nI_ltI (by omega) (by omega)] at c41
      exact c41
    rw [if_pos hlt] at e29
    obtain ⟨hb1, hb2⟩ := htbs _ hlt
    have hnL : ¬ L ≤ tkF tb L p := by omega
    refine g_iload_n C (pc := 52) dX10_readToken_52 0 rfl ?_
    refine g_bipush C (pc := 53) 59 dX10_readToken_53 (by decide) ?_
    refine g_icmp_ne C (pc := 55) 76 dX10_readToken_55 (by decide) (fun c55 => ?_) (fun c55 => ?_)
    · have h59 : ¬ tb (tkF tb L p) = 59 := fun h9 => c55 (by rw [ev32, e29]; exact (cB_eq (c := 59) hb2 (by decide)).mpr h9)
      refine g_iload_n C (pc := 76) dX10_readToken_76 0 rfl ?_
      refine g_bipush C (pc := 77) 97 dX10_readToken_77 (by decide) ?_
      refine g_icmp_lt C (pc := 79) 112 dX10_readToken_79 (by decide) (fun c79 => ?_) (fun c79 => ?_)
      · have hna : ¬ (97 ≤ tb (tkF tb L p) ∧ tb (tkF tb L p) ≤ 122) := fun h9 => by
          rw [ev32, e29] at c79
          exact absurd c79 (Int32.not_lt.mpr ((cB_ge (lo := 97) hb2 (by decide)).mpr ⟨h9.1, by omega⟩))
        refine g_iload_n C (pc := 112) dX10_readToken_112 0 rfl ?_
        refine g_bipush C (pc := 113) 48 dX10_readToken_113 (by decide) ?_
        refine g_icmp_lt C (pc := 115) 217 dX10_readToken_115 (by decide) (fun c115 => ?_) (fun c115 => ?_)
        · have hnd : ¬ (48 ≤ tb (tkF tb L p) ∧ tb (tkF tb L p) ≤ 57) := fun h9 => by
            rw [ev32, e29] at c115
            exact absurd c115 (Int32.not_lt.mpr ((cB_ge (lo := 48) hb2 (by decide)).mpr ⟨h9.1, by omega⟩))
          have hK : (tkK tb L p) = 0 := by unfold tkK; rw [if_neg hnL, if_neg h59, if_neg hna, if_neg hnd]
          refine g_aload_n C (pc := 217) dX10_readToken_217 1 rfl ?_
          refine g_iconst C (pc := 218) 1 dX10_readToken_218 (by decide) ?_
          refine g_aload_n C (pc := 219) dX10_readToken_219 1 rfl ?_
          refine g_getI C (pc := 220) fl_RX10_93 (by decide) (by first | assumption | rfl | omega) (by first | assumption | rfl | omega) dX10_readToken_220 ?_
          refine g_callVI C (pc := 223) mf_X10_fail lk_RX10_96 (c_X10_fail n ρ _ _ _ hn9 hxs) (by decide) (Nat.le_refl _) rfl (by first | assumption | rfl | omega) rfl (by first | assumption | rfl | omega) (Nat.le_of_ble_eq_true rfl) dX10_readToken_223 (fun v223 I223 h223 => ?_)
          obtain ⟨rfl, rfl⟩ := h223
          refine g_zret C hR (pc := 226) rfl rfl dX10_readToken_226 ?_
          refine ⟨rfl, _, rfl, ?_⟩
          refine ⟨?_, ?_, fun h9 => absurd hK h9, fun _ => ⟨?_, ?_⟩, fun z h9 => ?_, fun i h9 => ?_⟩
          · rw [hK]; rfl
          · (repeat (first | rw [wr_ss] | rw [wr_sn (by decide)] | rw [wr_n (by decide)]))
            exact hJ11
          · (repeat (first | rw [wr_ss] | rw [wr_sn (by decide)] | rw [wr_n (by decide)]))
          · (repeat (first | rw [wr_ss] | rw [wr_sn (by decide)] | rw [wr_n (by decide)]))
            first | exact hJ11 | (rw [hJ11])
          · rcases h9 with rfl | rfl | rfl | rfl | rfl
            · (repeat (first | rw [wr_ss] | rw [wr_sn (by decide)] | rw [wr_n (by decide)]))
              exact hJz _ (by decide) (by decide)
            · (repeat (first | rw [wr_ss] | rw [wr_sn (by decide)] | rw [wr_n (by decide)]))
              exact hJz _ (by decide) (by decide)
            · (repeat (first | rw [wr_ss] | rw [wr_sn (by decide)] | rw [wr_n (by decide)]))
              exact hJz _ (by decide) (by decide)
            · (repeat (first | rw [wr_ss] | rw [wr_sn (by decide)] | rw [wr_n (by decide)]))
              exact hJz _ (by decide) (by decide)
            · (repeat (first | rw [wr_ss] | rw [wr_sn (by decide)] | rw [wr_n (by decide)]))
              exact hJz _ (by decide) (by decide)
          · repeat rw [wr_n h9]
            exact hJi i h9
        · have h48 : 48 ≤ tb (tkF tb L p) ∧ tb (tkF tb L p) < 128 := by
            rw [ev32, e29] at c115
            exact (cB_ge (lo := 48) hb2 (by decide)).mp c115
          have hv32 : v32 = nI (tb (tkF tb L p)) := by rw [ev32, e29, cB_s _ h48.2]
          refine g_iload_n C (pc := 118) dX10_readToken_118 0 rfl ?_
          refine g_bipush C (pc := 119) 57 dX10_readToken_119 (by decide) ?_
          refine g_icmp_gt C (pc := 121) 217 dX10_readToken_121 (by decide) (fun c121 => ?_) (fun c121 => ?_)
          · have hnd : ¬ (48 ≤ tb (tkF tb L p) ∧ tb (tkF tb L p) ≤ 57) := fun h9 => by
              rw [hv32, show (57 : Int32) = nI 57 from rfl, nI_ltI (by decide) (by omega)] at c121
              omega
            have hK : (tkK tb L p) = 0 := by unfold tkK; rw [if_neg hnL, if_neg h59, if_neg hna, if_neg hnd]
            refine g_aload_n C (pc := 217) dX10_readToken_217 1 rfl ?_
            refine g_iconst C (pc := 218) 1 dX10_readToken_218 (by decide) ?_
            refine g_aload_n C (pc := 219) dX10_readToken_219 1 rfl ?_
            refine g_getI C (pc := 220) fl_RX10_93 (by decide) (by first | assumption | rfl | omega) (by first | assumption | rfl | omega) dX10_readToken_220 ?_
            refine g_callVI C (pc := 223) mf_X10_fail lk_RX10_96 (c_X10_fail n ρ _ _ _ hn9 hxs) (by decide) (Nat.le_refl _) rfl (by first | assumption | rfl | omega) rfl (by first | assumption | rfl | omega) (Nat.le_of_ble_eq_true rfl) dX10_readToken_223 (fun v223 I223 h223 => ?_)
            obtain ⟨rfl, rfl⟩ := h223
            refine g_zret C hR (pc := 226) rfl rfl dX10_readToken_226 ?_
            refine ⟨rfl, _, rfl, ?_⟩
            refine ⟨?_, ?_, fun h9 => absurd hK h9, fun _ => ⟨?_, ?_⟩, fun z h9 => ?_, fun i h9 => ?_⟩
            · rw [hK]; rfl
            · (repeat (first | rw [wr_ss] | rw [wr_sn (by decide)] | rw [wr_n (by decide)]))
              exact hJ11
            · (repeat (first | rw [wr_ss] | rw [wr_sn (by decide)] | rw [wr_n (by decide)]))
            · (repeat (first | rw [wr_ss] | rw [wr_sn (by decide)] | rw [wr_n (by decide)]))
              first | exact hJ11 | (rw [hJ11])
            · rcases h9 with rfl | rfl | rfl | rfl | rfl
              · (repeat (first | rw [wr_ss] | rw [wr_sn (by decide)] | rw [wr_n (by decide)]))
                exact hJz _ (by decide) (by decide)
              · (repeat (first | rw [wr_ss] | rw [wr_sn (by decide)] | rw [wr_n (by decide)]))
                exact hJz _ (by decide) (by decide)
              · (repeat (first | rw [wr_ss] | rw [wr_sn (by decide)] | rw [wr_n (by decide)]))
                exact hJz _ (by decide) (by decide)
              · (repeat (first | rw [wr_ss] | rw [wr_sn (by decide)] | rw [wr_n (by decide)]))
                exact hJz _ (by decide) (by decide)
              · (repeat (first | rw [wr_ss] | rw [wr_sn (by decide)] | rw [wr_n (by decide)]))
                exact hJz _ (by decide) (by decide)
            · repeat rw [wr_n h9]
              exact hJi i h9
          · have hyd : 48 ≤ tb (tkF tb L p) ∧ tb (tkF tb L p) ≤ 57 := by
              rw [hv32, show (57 : Int32) = nI 57 from rfl, nI_leI (by omega) (by decide)] at c121
              exact ⟨h48.1, c121⟩
            have hE : tkE tb L p = runT tb L 48 57 (tkF tb L p) := by unfold tkE; rw [if_neg hnL, if_neg h59, if_neg hna]
            have hgo1 : runT tb L 48 57 (tkF tb L p) = runT tb L 48 57 (tkF tb L p + 1) := runT_go ⟨hlt, hyd⟩
            have hr1 := runT_le (tb := tb) (lo := 48) (hi := 57) (show tkF tb L p + 1 ≤ L by omega)
            refine g_aload_n C (pc := 124) dX10_readToken_124 1 rfl ?_
            refine g_iconst C (pc := 125) 2 dX10_readToken_125 (by decide) ?_
            refine g_putI C (pc := 126) fl_RX10_55 (by decide) fp_9_10 (Or.inl rfl) ⟨rfl, rfl⟩ (by first | assumption | rfl | omega) (by first | assumption | rfl | omega) hn9 dX10_readToken_126 ?_
            refine g_aload_n C (pc := 129) dX10_readToken_129 1 rfl ?_
            refine g_aload_n C (pc := 130) dX10_readToken_130 1 rfl ?_
            refine g_aload_n C (pc := 131) dX10_readToken_131 1 rfl ?_
            refine g_getI C (pc := 132) fl_RX10_29 (by decide) (by first | assumption | rfl | omega) (by first | assumption | rfl | omega) dX10_readToken_132 ?_
            refine g_bipush C (pc := 135) 48 dX10_readToken_135 (by decide) ?_
            refine g_bipush C (pc := 137) 57 dX10_readToken_137 (by decide) ?_
            refine g_callVI C (pc := 139) mf_X10_endOfRun lk_RX10_196 (c_X10_endOfRun n ρ _ L tb (tkF tb L p) 48 57 _ _ _ hn9 hxs (htbJ.w1 (by decide) trivial) hF.2 (by decide) (by decide) (by rw [wr_sn (by decide)]; exact hJ9) rfl rfl) (by decide) (Nat.le_refl _) rfl (by first | assumption | rfl | omega) rfl (by first | assumption | rfl | omega) (Nat.le_of_ble_eq_true rfl) dX10_readToken_139 (fun v139 I139 h139 => ?_)
            obtain ⟨e139, rfl⟩ := h139
            refine g_putI C (pc := 142) fl_RX10_29 (by decide) fp_9_9 (Or.inl rfl) ⟨rfl, rfl⟩ (by first | assumption | rfl | omega) (by first | assumption | rfl | omega) hn9 dX10_readToken_142 ?_
            have hRE : v139 = nI (tkE tb L p) := by rw [e139, hE]
            refine g_aload_n C (pc := 145) dX10_readToken_145 1 rfl ?_
            refine g_getI C (pc := 146) fl_RX10_29 (by decide) (by first | assumption | rfl | omega) (by first | assumption | rfl | omega) dX10_readToken_146 ?_
            refine g_aload_n C (pc := 149) dX10_readToken_149 1 rfl ?_
            refine g_getI C (pc := 150) fl_RX10_93 (by decide) (by first | assumption | rfl | omega) (by first | assumption | rfl | omega) dX10_readToken_150 ?_
            refine g_isub C (pc := 153) dX10_readToken_153 ?_
            refine g_iconst C (pc := 154) 2 dX10_readToken_154 (by decide) ?_
            refine g_icmp_le C (pc := 155) 168 dX10_readToken_155 (by decide) (fun c155 => ?_) (fun c155 => ?_)
            · have hle2 : runT tb L 48 57 (tkF tb L p) - tkF tb L p ≤ 2 := by
                (repeat (first | rw [wr_ss] at c155 | rw [wr_sn (by decide)] at c155 | rw [wr_n (by decide)] at c155))
                rw [hRE, hJ11, hE, pk_sub (by omega), show (2 : Int32) = nI 2 from rfl, nI_leI (by omega) (by decide)] at c155
                exact c155
              have hK : (tkK tb L p) = 2 := by unfold tkK; rw [if_neg hnL, if_neg h59, if_neg hna, if_pos hyd, if_pos hle2]
              refine g_aload_n C (pc := 168) dX10_readToken_168 1 rfl ?_
              refine g_iload_n C (pc := 169) dX10_readToken_169 0 rfl ?_
              refine g_bipush C (pc := 170) 48 dX10_readToken_170 (by decide) ?_
              refine g_isub C (pc := 172) dX10_readToken_172 ?_
              refine g_putI C (pc := 173) fl_RX10_107 (by decide) fp_9_12 (Or.inl rfl) ⟨rfl, rfl⟩ (by first | assumption | rfl | omega) (by first | assumption | rfl | omega) hn9 dX10_readToken_173 ?_
              refine g_aload_n C (pc := 176) dX10_readToken_176 1 rfl ?_
              refine g_getI C (pc := 177) fl_RX10_29 (by decide) (by first | assumption | rfl | omega) (by first | assumption | rfl | omega) dX10_readToken_177 ?_
              refine g_aload_n C (pc := 180) dX10_readToken_180 1 rfl ?_
              refine g_getI C (pc := 181) fl_RX10_93 (by decide) (by first | assumption | rfl | omega) (by first | assumption | rfl | omega) dX10_readToken_181 ?_
              refine g_isub C (pc := 184) dX10_readToken_184 ?_
              refine g_iconst C (pc := 185) 2 dX10_readToken_185 (by decide) ?_
              refine g_icmp_ne C (pc := 186) 227 dX10_readToken_186 (by decide) (fun c186 => ?_) (fun c186 => ?_)
              · have hn2 : ¬ runT tb L 48 57 (tkF tb L p) - tkF tb L p = 2 := fun h9 => c186 (by
                  (repeat (first | rw [wr_ss] | rw [wr_sn (by decide)] | rw [wr_n (by decide)]))
                  rw [hRE, hJ11, hE, pk_sub (by omega), h9]; rfl)
                refine g_iconst C (pc := 227) 1 dX10_readToken_227 (by decide) ?_
                refine g_zret C hR (pc := 228) rfl rfl dX10_readToken_228 ?_
                refine ⟨rfl, _, rfl, ?_⟩
                refine ⟨?_, ?_, fun h9 => ⟨?_, ?_, fun h8 => ?_, ?_⟩, fun h9 => ⟨?_, ?_⟩, fun z h9 => ?_, fun i h9 => ?_⟩
                · rw [hK]; decide
                · (repeat (first | rw [wr_ss] | rw [wr_sn (by decide)] | rw [wr_n (by decide)]))
                  exact hJ11
                · (repeat (first | rw [wr_ss] | rw [wr_sn (by decide)] | rw [wr_n (by decide)]))
                  first | (rw [hE]; first | exact hJ9 | (rw [hJ9]; exact nI_1 _) | exact e103) | exact hRE
                · (repeat (first | rw [wr_ss] | rw [wr_sn (by decide)] | rw [wr_n (by decide)]))
                  rw [hK]; rfl
                · rw [hK] at h8
                  first | exact absurd h8 (by decide) | ((repeat (first | rw [wr_ss] | rw [wr_sn (by decide)] | rw [wr_n (by decide)])); unfold tkV; rw [if_neg hn2, hv32, show (48 : Int32) = nI 48 from rfl, pk_sub (by omega)]) | ((repeat (first | rw [wr_ss] | rw [wr_sn (by decide)] | rw [wr_n (by decide)])); unfold tkV; rw [if_pos hy2, e204, hv32, show (48 : Int32) = nI 48 from rfl, pk_sub (by omega), show (10 : Int32) = nI 10 from rfl, pk_mul, nI_add, pk_sub (by omega)]; congr 1; omega)
                · (repeat (first | rw [wr_ss] | rw [wr_sn (by decide)] | rw [wr_n (by decide)]))
                  exact hJz 4 (by decide) (by decide)
                · rw [hK] at h9; exact absurd h9 (by decide)
                · rw [hK] at h9; exact absurd h9 (by decide)
                · rcases h9 with rfl | rfl | rfl | rfl | rfl
                  · (repeat (first | rw [wr_ss] | rw [wr_sn (by decide)] | rw [wr_n (by decide)]))
                    exact hJz _ (by decide) (by decide)
                  · (repeat (first | rw [wr_ss] | rw [wr_sn (by decide)] | rw [wr_n (by decide)]))
                    exact hJz _ (by decide) (by decide)
                  · (repeat (first | rw [wr_ss] | rw [wr_sn (by decide)] | rw [wr_n (by decide)]))
                    exact hJz _ (by decide) (by decide)
                  · (repeat (first | rw [wr_ss] | rw [wr_sn (by decide)] | rw [wr_n (by decide)]))
                    exact hJz _ (by decide) (by decide)
                  · (repeat (first | rw [wr_ss] | rw [wr_sn (by decide)] | rw [wr_n (by decide)]))
                    exact hJz _ (by decide) (by decide)
                · repeat rw [wr_n h9]
                  exact hJi i h9
              · have hy2 : runT tb L 48 57 (tkF tb L p) - tkF tb L p = 2 := by
                  (repeat (first | rw [wr_ss] at c186 | rw [wr_sn (by decide)] at c186 | rw [wr_n (by decide)] at c186))
                  rw [hRE, hJ11, hE, pk_sub (by omega)] at c186
                  exact (nI_eq (b := 2) (by omega) (by decide)).mp c186
                have hsec : tkF tb L p + 1 < L ∧ 48 ≤ tb (tkF tb L p + 1) ∧ tb (tkF tb L p + 1) ≤ 57 := by
                  by_cases h9 : tkF tb L p + 1 < L ∧ 48 ≤ tb (tkF tb L p + 1) ∧ tb (tkF tb L p + 1) ≤ 57
                  · exact h9
                  · rw [hgo1, runT_stop h9] at hy2; omega
                refine g_aload_n C (pc := 189) dX10_readToken_189 1 rfl ?_
                refine g_bipush C (pc := 190) 10 dX10_readToken_190 (by decide) ?_
                refine g_aload_n C (pc := 192) dX10_readToken_192 1 rfl ?_
                refine g_getI C (pc := 193) fl_RX10_107 (by decide) (by first | assumption | rfl | omega) (by first | assumption | rfl | omega) dX10_readToken_193 ?_
                refine g_imul C (pc := 196) dX10_readToken_196 ?_
                refine g_aload_n C (pc := 197) dX10_readToken_197 1 rfl ?_
                refine g_aload_n C (pc := 198) dX10_readToken_198 1 rfl ?_
                refine g_getI C (pc := 199) fl_RX10_29 (by decide) (by first | assumption | rfl | omega) (by first | assumption | rfl | omega) dX10_readToken_199 ?_
                refine g_iconst C (pc := 202) 1 dX10_readToken_202 (by decide) ?_
                refine g_isub C (pc := 203) dX10_readToken_203 ?_
                refine g_callVI C (pc := 204) mf_X10_byteAt lk_RX10_200 (c_X10_byteAt n ρ _ L tb (tkF tb L p + 1) _ hn9 hxs (((htbJ.w1 (by decide) trivial).w1 (by decide) trivial).w1 (by decide) trivial) (by omega) (by (repeat (first | rw [wr_ss] | rw [wr_sn (by decide)] | rw [wr_n (by decide)])); rw [hRE, hE]; exact (pk_sub (b := 1) (by omega)).trans (congrArg nI (by omega)))) (by decide) (Nat.le_refl _) rfl (by first | assumption | rfl | omega) rfl (by first | assumption | rfl | omega) (Nat.le_of_ble_eq_true rfl) dX10_readToken_204 (fun v204 I204 h204 => ?_)
                obtain ⟨e204, rfl⟩ := h204
                rw [if_pos hsec.1, cB_s _ (by omega)] at e204
                refine g_iadd C (pc := 207) dX10_readToken_207 ?_
                refine g_bipush C (pc := 208) 48 dX10_readToken_208 (by decide) ?_
                refine g_isub C (pc := 210) dX10_readToken_210 ?_
                refine g_putI C (pc := 211) fl_RX10_107 (by decide) fp_9_12 (Or.inl rfl) ⟨rfl, rfl⟩ (by first | assumption | rfl | omega) (by first | assumption | rfl | omega) hn9 dX10_readToken_211 ?_
                refine g_goto C (pc := 214) 227 dX10_readToken_214 (by decide) ?_
                refine g_iconst C (pc := 227) 1 dX10_readToken_227 (by decide) ?_
                refine g_zret C hR (pc := 228) rfl rfl dX10_readToken_228 ?_
                refine ⟨rfl, _, rfl, ?_⟩
                refine ⟨?_, ?_, fun h9 => ⟨?_, ?_, fun h8 => ?_, ?_⟩, fun h9 => ⟨?_, ?_⟩, fun z h9 => ?_, fun i h9 => ?_⟩
                · rw [hK]; decide
                · (repeat (first | rw [wr_ss] | rw [wr_sn (by decide)] | rw [wr_n (by decide)]))
                  exact hJ11
                · (repeat (first | rw [wr_ss] | rw [wr_sn (by decide)] | rw [wr_n (by decide)]))
                  first | (rw [hE]; first | exact hJ9 | (rw [hJ9]; exact nI_1 _) | exact e103) | exact hRE
                · (repeat (first | rw [wr_ss] | rw [wr_sn (by decide)] | rw [wr_n (by decide)]))
                  rw [hK]; rfl
                · rw [hK] at h8
                  first | exact absurd h8 (by decide) | ((repeat (first | rw [wr_ss] | rw [wr_sn (by decide)] | rw [wr_n (by decide)])); unfold tkV; rw [if_neg hn2, hv32, show (48 : Int32) = nI 48 from rfl, pk_sub (by omega)]) | ((repeat (first | rw [wr_ss] | rw [wr_sn (by decide)] | rw [wr_n (by decide)])); unfold tkV; rw [if_pos hy2, e204, hv32, show (48 : Int32) = nI 48 from rfl, pk_sub (by omega), show (10 : Int32) = nI 10 from rfl, pk_mul, nI_add, pk_sub (by omega)]; congr 1; omega)
                · (repeat (first | rw [wr_ss] | rw [wr_sn (by decide)] | rw [wr_n (by decide)]))
                  exact hJz 4 (by decide) (by decide)
                · rw [hK] at h9; exact absurd h9 (by decide)
                · rw [hK] at h9; exact absurd h9 (by decide)
                · rcases h9 with rfl | rfl | rfl | rfl | rfl
                  · (repeat (first | rw [wr_ss] | rw [wr_sn (by decide)] | rw [wr_n (by decide)]))
                    exact hJz _ (by decide) (by decide)
                  · (repeat (first | rw [wr_ss] | rw [wr_sn (by decide)] | rw [wr_n (by decide)]))
                    exact hJz _ (by decide) (by decide)
                  · (repeat (first | rw [wr_ss] | rw [wr_sn (by decide)] | rw [wr_n (by decide)]))
                    exact hJz _ (by decide) (by decide)
                  · (repeat (first | rw [wr_ss] | rw [wr_sn (by decide)] | rw [wr_n (by decide)]))
                    exact hJz _ (by decide) (by decide)
                  · (repeat (first | rw [wr_ss] | rw [wr_sn (by decide)] | rw [wr_n (by decide)]))
                    exact hJz _ (by decide) (by decide)
                · repeat rw [wr_n h9]
                  exact hJi i h9
            · have hgt2 : ¬ runT tb L 48 57 (tkF tb L p) - tkF tb L p ≤ 2 := by
                (repeat (first | rw [wr_ss] at c155 | rw [wr_sn (by decide)] at c155 | rw [wr_n (by decide)] at c155))
                rw [hRE, hJ11, hE, pk_sub (by omega), show (2 : Int32) = nI 2 from rfl, nI_ltI (by decide) (by omega)] at c155
                omega
              have hK : (tkK tb L p) = 0 := by unfold tkK; rw [if_neg hnL, if_neg h59, if_neg hna, if_pos hyd, if_neg hgt2]
              refine g_aload_n C (pc := 158) dX10_readToken_158 1 rfl ?_
              refine g_iconst C (pc := 159) 1 dX10_readToken_159 (by decide) ?_
              refine g_aload_n C (pc := 160) dX10_readToken_160 1 rfl ?_
              refine g_getI C (pc := 161) fl_RX10_93 (by decide) (by first | assumption | rfl | omega) (by first | assumption | rfl | omega) dX10_readToken_161 ?_
              refine g_callVI C (pc := 164) mf_X10_fail lk_RX10_96 (c_X10_fail n ρ _ _ _ hn9 hxs) (by decide) (Nat.le_refl _) rfl (by first | assumption | rfl | omega) rfl (by first | assumption | rfl | omega) (Nat.le_of_ble_eq_true rfl) dX10_readToken_164 (fun v164 I164 h164 => ?_)
              obtain ⟨rfl, rfl⟩ := h164
              refine g_zret C hR (pc := 167) rfl rfl dX10_readToken_167 ?_
              refine ⟨rfl, _, rfl, ?_⟩
              refine ⟨?_, ?_, fun h9 => absurd hK h9, fun _ => ⟨?_, ?_⟩, fun z h9 => ?_, fun i h9 => ?_⟩
              · rw [hK]; rfl
              · (repeat (first | rw [wr_ss] | rw [wr_sn (by decide)] | rw [wr_n (by decide)]))
                exact hJ11
              · (repeat (first | rw [wr_ss] | rw [wr_sn (by decide)] | rw [wr_n (by decide)]))
              · (repeat (first | rw [wr_ss] | rw [wr_sn (by decide)] | rw [wr_n (by decide)]))
                first | exact hJ11 | (rw [hJ11])
              · rcases h9 with rfl | rfl | rfl | rfl | rfl
                · (repeat (first | rw [wr_ss] | rw [wr_sn (by decide)] | rw [wr_n (by decide)]))
                  exact hJz _ (by decide) (by decide)
                · (repeat (first | rw [wr_ss] | rw [wr_sn (by decide)] | rw [wr_n (by decide)]))
                  exact hJz _ (by decide) (by decide)
                · (repeat (first | rw [wr_ss] | rw [wr_sn (by decide)] | rw [wr_n (by decide)]))
                  exact hJz _ (by decide) (by decide)
                · (repeat (first | rw [wr_ss] | rw [wr_sn (by decide)] | rw [wr_n (by decide)]))
                  exact hJz _ (by decide) (by decide)
                · (repeat (first | rw [wr_ss] | rw [wr_sn (by decide)] | rw [wr_n (by decide)]))
                  exact hJz _ (by decide) (by decide)
              · repeat rw [wr_n h9]
                exact hJi i h9
      · have h97 : 97 ≤ tb (tkF tb L p) ∧ tb (tkF tb L p) < 128 := by
          rw [ev32, e29] at c79
          exact (cB_ge (lo := 97) hb2 (by decide)).mp c79
        have hv32 : v32 = nI (tb (tkF tb L p)) := by rw [ev32, e29, cB_s _ h97.2]
        refine g_iload_n C (pc := 82) dX10_readToken_82 0 rfl ?_
        refine g_bipush C (pc := 83) 122 dX10_readToken_83 (by decide) ?_
        refine g_icmp_gt C (pc := 85) 112 dX10_readToken_85 (by decide) (fun c85 => ?_) (fun c85 => ?_)
        · have hna : ¬ (97 ≤ tb (tkF tb L p) ∧ tb (tkF tb L p) ≤ 122) := fun h9 => by
            rw [hv32, show (122 : Int32) = nI 122 from rfl, nI_ltI (by decide) (by omega)] at c85
            omega
          refine g_iload_n C (pc := 112) dX10_readToken_112 0 rfl ?_
          refine g_bipush C (pc := 113) 48 dX10_readToken_113 (by decide) ?_
          refine g_icmp_lt C (pc := 115) 217 dX10_readToken_115 (by decide) (fun c115 => ?_) (fun c115 => ?_)
          · have hnd : ¬ (48 ≤ tb (tkF tb L p) ∧ tb (tkF tb L p) ≤ 57) := fun h9 => by
              rw [ev32, e29] at c115
              exact absurd c115 (Int32.not_lt.mpr ((cB_ge (lo := 48) hb2 (by decide)).mpr ⟨h9.1, by omega⟩))
            have hK : (tkK tb L p) = 0 := by unfold tkK; rw [if_neg hnL, if_neg h59, if_neg hna, if_neg hnd]
            refine g_aload_n C (pc := 217) dX10_readToken_217 1 rfl ?_
            refine g_iconst C (pc := 218) 1 dX10_readToken_218 (by decide) ?_
            refine g_aload_n C (pc := 219) dX10_readToken_219 1 rfl ?_
            refine g_getI C (pc := 220) fl_RX10_93 (by decide) (by first | assumption | rfl | omega) (by first | assumption | rfl | omega) dX10_readToken_220 ?_
            refine g_callVI C (pc := 223) mf_X10_fail lk_RX10_96 (c_X10_fail n ρ _ _ _ hn9 hxs) (by decide) (Nat.le_refl _) rfl (by first | assumption | rfl | omega) rfl (by first | assumption | rfl | omega) (Nat.le_of_ble_eq_true rfl) dX10_readToken_223 (fun v223 I223 h223 => ?_)
            obtain ⟨rfl, rfl⟩ := h223
            refine g_zret C hR (pc := 226) rfl rfl dX10_readToken_226 ?_
            refine ⟨rfl, _, rfl, ?_⟩
            refine ⟨?_, ?_, fun h9 => absurd hK h9, fun _ => ⟨?_, ?_⟩, fun z h9 => ?_, fun i h9 => ?_⟩
            · rw [hK]; rfl
            · (repeat (first | rw [wr_ss] | rw [wr_sn (by decide)] | rw [wr_n (by decide)]))
              exact hJ11
            · (repeat (first | rw [wr_ss] | rw [wr_sn (by decide)] | rw [wr_n (by decide)]))
            · (repeat (first | rw [wr_ss] | rw [wr_sn (by decide)] | rw [wr_n (by decide)]))
              first | exact hJ11 | (rw [hJ11])
            · rcases h9 with rfl | rfl | rfl | rfl | rfl
              · (repeat (first | rw [wr_ss] | rw [wr_sn (by decide)] | rw [wr_n (by decide)]))
                exact hJz _ (by decide) (by decide)
              · (repeat (first | rw [wr_ss] | rw [wr_sn (by decide)] | rw [wr_n (by decide)]))
                exact hJz _ (by decide) (by decide)
              · (repeat (first | rw [wr_ss] | rw [wr_sn (by decide)] | rw [wr_n (by decide)]))
                exact hJz _ (by decide) (by decide)
              · (repeat (first | rw [wr_ss] | rw [wr_sn (by decide)] | rw [wr_n (by decide)]))
                exact hJz _ (by decide) (by decide)
              · (repeat (first | rw [wr_ss] | rw [wr_sn (by decide)] | rw [wr_n (by decide)]))
                exact hJz _ (by decide) (by decide)
            · repeat rw [wr_n h9]
              exact hJi i h9
          · have h48 : 48 ≤ tb (tkF tb L p) ∧ tb (tkF tb L p) < 128 := by
              rw [ev32, e29] at c115
              exact (cB_ge (lo := 48) hb2 (by decide)).mp c115
            have hv32 : v32 = nI (tb (tkF tb L p)) := by rw [ev32, e29, cB_s _ h48.2]
            refine g_iload_n C (pc := 118) dX10_readToken_118 0 rfl ?_
            refine g_bipush C (pc := 119) 57 dX10_readToken_119 (by decide) ?_
            refine g_icmp_gt C (pc := 121) 217 dX10_readToken_121 (by decide) (fun c121 => ?_) (fun c121 => ?_)
            · have hnd : ¬ (48 ≤ tb (tkF tb L p) ∧ tb (tkF tb L p) ≤ 57) := fun h9 => by
                rw [hv32, show (57 : Int32) = nI 57 from rfl, nI_ltI (by decide) (by omega)] at c121
                omega
              have hK : (tkK tb L p) = 0 := by unfold tkK; rw [if_neg hnL, if_neg h59, if_neg hna, if_neg hnd]
              refine g_aload_n C (pc := 217) dX10_readToken_217 1 rfl ?_
              refine g_iconst C (pc := 218) 1 dX10_readToken_218 (by decide) ?_
              refine g_aload_n C (pc := 219) dX10_readToken_219 1 rfl ?_
              refine g_getI C (pc := 220) fl_RX10_93 (by decide) (by first | assumption | rfl | omega) (by first | assumption | rfl | omega) dX10_readToken_220 ?_
              refine g_callVI C (pc := 223) mf_X10_fail lk_RX10_96 (c_X10_fail n ρ _ _ _ hn9 hxs) (by decide) (Nat.le_refl _) rfl (by first | assumption | rfl | omega) rfl (by first | assumption | rfl | omega) (Nat.le_of_ble_eq_true rfl) dX10_readToken_223 (fun v223 I223 h223 => ?_)
              obtain ⟨rfl, rfl⟩ := h223
              refine g_zret C hR (pc := 226) rfl rfl dX10_readToken_226 ?_
              refine ⟨rfl, _, rfl, ?_⟩
              refine ⟨?_, ?_, fun h9 => absurd hK h9, fun _ => ⟨?_, ?_⟩, fun z h9 => ?_, fun i h9 => ?_⟩
              · rw [hK]; rfl
              · (repeat (first | rw [wr_ss] | rw [wr_sn (by decide)] | rw [wr_n (by decide)]))
                exact hJ11
              · (repeat (first | rw [wr_ss] | rw [wr_sn (by decide)] | rw [wr_n (by decide)]))
              · (repeat (first | rw [wr_ss] | rw [wr_sn (by decide)] | rw [wr_n (by decide)]))
                first | exact hJ11 | (rw [hJ11])
              · rcases h9 with rfl | rfl | rfl | rfl | rfl
                · (repeat (first | rw [wr_ss] | rw [wr_sn (by decide)] | rw [wr_n (by decide)]))
                  exact hJz _ (by decide) (by decide)
                · (repeat (first | rw [wr_ss] | rw [wr_sn (by decide)] | rw [wr_n (by decide)]))
                  exact hJz _ (by decide) (by decide)
                · (repeat (first | rw [wr_ss] | rw [wr_sn (by decide)] | rw [wr_n (by decide)]))
                  exact hJz _ (by decide) (by decide)
                · (repeat (first | rw [wr_ss] | rw [wr_sn (by decide)] | rw [wr_n (by decide)]))
                  exact hJz _ (by decide) (by decide)
                · (repeat (first | rw [wr_ss] | rw [wr_sn (by decide)] | rw [wr_n (by decide)]))
                  exact hJz _ (by decide) (by decide)
              · repeat rw [wr_n h9]
                exact hJi i h9
            · have hyd : 48 ≤ tb (tkF tb L p) ∧ tb (tkF tb L p) ≤ 57 := by
                rw [hv32, show (57 : Int32) = nI 57 from rfl, nI_leI (by omega) (by decide)] at c121
                exact ⟨h48.1, c121⟩
              have hE : tkE tb L p = runT tb L 48 57 (tkF tb L p) := by unfold tkE; rw [if_neg hnL, if_neg h59, if_neg hna]
              have hgo1 : runT tb L 48 57 (tkF tb L p) = runT tb L 48 57 (tkF tb L p + 1) := runT_go ⟨hlt, hyd⟩
              have hr1 := runT_le (tb := tb) (lo := 48) (hi := 57) (show tkF tb L p + 1 ≤ L by omega)
              refine g_aload_n C (pc := 124) dX10_readToken_124 1 rfl ?_
              refine g_iconst C (pc := 125) 2 dX10_readToken_125 (by decide) ?_
              refine g_putI C (pc := 126) fl_RX10_55 (by decide) fp_9_10 (Or.inl rfl) ⟨rfl, rfl⟩ (by first | assumption | rfl | omega) (by first | assumption | rfl | omega) hn9 dX10_readToken_126 ?_
              refine g_aload_n C (pc := 129) dX10_readToken_129 1 rfl ?_
              refine g_aload_n C (pc := 130) dX10_readToken_130 1 rfl ?_
              refine g_aload_n C (pc := 131) dX10_readToken_131 1 rfl ?_
              refine g_getI C (pc := 132) fl_RX10_29 (by decide) (by first | assumption | rfl | omega) (by first | assumption | rfl | omega) dX10_readToken_132 ?_
              refine g_bipush C (pc := 135) 48 dX10_readToken_135 (by decide) ?_
              refine g_bipush C (pc := 137) 57 dX10_readToken_137 (by decide) ?_
              refine g_callVI C (pc := 139) mf_X10_endOfRun lk_RX10_196 (c_X10_endOfRun n ρ _ L tb (tkF tb L p) 48 57 _ _ _ hn9 hxs (htbJ.w1 (by decide) trivial) hF.2 (by decide) (by decide) (by rw [wr_sn (by decide)]; exact hJ9) rfl rfl) (by decide) (Nat.le_refl _) rfl (by first | assumption | rfl | omega) rfl (by first | assumption | rfl | omega) (Nat.le_of_ble_eq_true rfl) dX10_readToken_139 (fun v139 I139 h139 => ?_)
              obtain ⟨e139, rfl⟩ := h139
              refine g_putI C (pc := 142) fl_RX10_29 (by decide) fp_9_9 (Or.inl rfl) ⟨rfl, rfl⟩ (by first | assumption | rfl | omega) (by first | assumption | rfl | omega) hn9 dX10_readToken_142 ?_
              have hRE : v139 = nI (tkE tb L p) := by rw [e139, hE]
              refine g_aload_n C (pc := 145) dX10_readToken_145 1 rfl ?_
              refine g_getI C (pc := 146) fl_RX10_29 (by decide) (by first | assumption | rfl | omega) (by first | assumption | rfl | omega) dX10_readToken_146 ?_
              refine g_aload_n C (pc := 149) dX10_readToken_149 1 rfl ?_
              refine g_getI C (pc := 150) fl_RX10_93 (by decide) (by first | assumption | rfl | omega) (by first | assumption | rfl | omega) dX10_readToken_150 ?_
              refine g_isub C (pc := 153) dX10_readToken_153 ?_
              refine g_iconst C (pc := 154) 2 dX10_readToken_154 (by decide) ?_
              refine g_icmp_le C (pc := 155) 168 dX10_readToken_155 (by decide) (fun c155 => ?_) (fun c155 => ?_)
              · have hle2 : runT tb L 48 57 (tkF tb L p) - tkF tb L p ≤ 2 := by
                  (repeat (first | rw [wr_ss] at c155 | rw [wr_sn (by decide)] at c155 | rw [wr_n (by decide)] at c155))
                  rw [hRE, hJ11, hE, pk_sub (by omega), show (2 : Int32) = nI 2 from rfl, nI_leI (by omega) (by decide)] at c155
                  exact c155
                have hK : (tkK tb L p) = 2 := by unfold tkK; rw [if_neg hnL, if_neg h59, if_neg hna, if_pos hyd, if_pos hle2]
                refine g_aload_n C (pc := 168) dX10_readToken_168 1 rfl ?_
                refine g_iload_n C (pc := 169) dX10_readToken_169 0 rfl ?_
                refine g_bipush C (pc := 170) 48 dX10_readToken_170 (by decide) ?_
                refine g_isub C (pc := 172) dX10_readToken_172 ?_
                refine g_putI C (pc := 173) fl_RX10_107 (by decide) fp_9_12 (Or.inl rfl) ⟨rfl, rfl⟩ (by first | assumption | rfl | omega) (by first | assumption | rfl | omega) hn9 dX10_readToken_173 ?_
                refine g_aload_n C (pc := 176) dX10_readToken_176 1 rfl ?_
                refine g_getI C (pc := 177) fl_RX10_29 (by decide) (by first | assumption | rfl | omega) (by first | assumption | rfl | omega) dX10_readToken_177 ?_
                refine g_aload_n C (pc := 180) dX10_readToken_180 1 rfl ?_
                refine g_getI C (pc := 181) fl_RX10_93 (by decide) (by first | assumption | rfl | omega) (by first | assumption | rfl | omega) dX10_readToken_181 ?_
                refine g_isub C (pc := 184) dX10_readToken_184 ?_
                refine g_iconst C (pc := 185) 2 dX10_readToken_185 (by decide) ?_
                refine g_icmp_ne C (pc := 186) 227 dX10_readToken_186 (by decide) (fun c186 => ?_) (fun c186 => ?_)
                · have hn2 : ¬ runT tb L 48 57 (tkF tb L p) - tkF tb L p = 2 := fun h9 => c186 (by
                    (repeat (first | rw [wr_ss] | rw [wr_sn (by decide)] | rw [wr_n (by decide)]))
                    rw [hRE, hJ11, hE, pk_sub (by omega), h9]; rfl)
                  refine g_iconst C (pc := 227) 1 dX10_readToken_227 (by decide) ?_
                  refine g_zret C hR (pc := 228) rfl rfl dX10_readToken_228 ?_
                  refine ⟨rfl, _, rfl, ?_⟩
                  refine ⟨?_, ?_, fun h9 => ⟨?_, ?_, fun h8 => ?_, ?_⟩, fun h9 => ⟨?_, ?_⟩, fun z h9 => ?_, fun i h9 => ?_⟩
                  · rw [hK]; decide
                  · (repeat (first | rw [wr_ss] | rw [wr_sn (by decide)] | rw [wr_n (by decide)]))
                    exact hJ11
                  · (repeat (first | rw [wr_ss] | rw [wr_sn (by decide)] | rw [wr_n (by decide)]))
                    first | (rw [hE]; first | exact hJ9 | (rw [hJ9]; exact nI_1 _) | exact e103) | exact hRE
                  · (repeat (first | rw [wr_ss] | rw [wr_sn (by decide)] | rw [wr_n (by decide)]))
                    rw [hK]; rfl
                  · rw [hK] at h8
                    first | exact absurd h8 (by decide) | ((repeat (first | rw [wr_ss] | rw [wr_sn (by decide)] | rw [wr_n (by decide)])); unfold tkV; rw [if_neg hn2, hv32, show (48 : Int32) = nI 48 from rfl, pk_sub (by omega)]) | ((repeat (first | rw [wr_ss] | rw [wr_sn (by decide)] | rw [wr_n (by decide)])); unfold tkV; rw [if_pos hy2, e204, hv32, show (48 : Int32) = nI 48 from rfl, pk_sub (by omega), show (10 : Int32) = nI 10 from rfl, pk_mul, nI_add, pk_sub (by omega)]; congr 1; omega)
                  · (repeat (first | rw [wr_ss] | rw [wr_sn (by decide)] | rw [wr_n (by decide)]))
                    exact hJz 4 (by decide) (by decide)
                  · rw [hK] at h9; exact absurd h9 (by decide)
                  · rw [hK] at h9; exact absurd h9 (by decide)
                  · rcases h9 with rfl | rfl | rfl | rfl | rfl
                    · (repeat (first | rw [wr_ss] | rw [wr_sn (by decide)] | rw [wr_n (by decide)]))
                      exact hJz _ (by decide) (by decide)
                    · (repeat (first | rw [wr_ss] | rw [wr_sn (by decide)] | rw [wr_n (by decide)]))
                      exact hJz _ (by decide) (by decide)
                    · (repeat (first | rw [wr_ss] | rw [wr_sn (by decide)] | rw [wr_n (by decide)]))
                      exact hJz _ (by decide) (by decide)
                    · (repeat (first | rw [wr_ss] | rw [wr_sn (by decide)] | rw [wr_n (by decide)]))
                      exact hJz _ (by decide) (by decide)
                    · (repeat (first | rw [wr_ss] | rw [wr_sn (by decide)] | rw [wr_n (by decide)]))
                      exact hJz _ (by decide) (by decide)
                  · repeat rw [wr_n h9]
                    exact hJi i h9
                · have hy2 : runT tb L 48 57 (tkF tb L p) - tkF tb L p = 2 := by
                    (repeat (first | rw [wr_ss] at c186 | rw [wr_sn (by decide)] at c186 | rw [wr_n (by decide)] at c186))
                    rw [hRE, hJ11, hE, pk_sub (by omega)] at c186
                    exact (nI_eq (b := 2) (by omega) (by decide)).mp c186
                  have hsec : tkF tb L p + 1 < L ∧ 48 ≤ tb (tkF tb L p + 1) ∧ tb (tkF tb L p + 1) ≤ 57 := by
                    by_cases h9 : tkF tb L p + 1 < L ∧ 48 ≤ tb (tkF tb L p + 1) ∧ tb (tkF tb L p + 1) ≤ 57
                    · exact h9
                    · rw [hgo1, runT_stop h9] at hy2; omega
                  refine g_aload_n C (pc := 189) dX10_readToken_189 1 rfl ?_
                  refine g_bipush C (pc := 190) 10 dX10_readToken_190 (by decide) ?_
                  refine g_aload_n C (pc := 192) dX10_readToken_192 1 rfl ?_
                  refine g_getI C (pc := 193) fl_RX10_107 (by decide) (by first | assumption | rfl | omega) (by first | assumption | rfl | omega) dX10_readToken_193 ?_
                  refine g_imul C (pc := 196) dX10_readToken_196 ?_
                  refine g_aload_n C (pc := 197) dX10_readToken_197 1 rfl ?_
                  refine g_aload_n C (pc := 198) dX10_readToken_198 1 rfl ?_
                  refine g_getI C (pc := 199) fl_RX10_29 (by decide) (by first | assumption | rfl | omega) (by first | assumption | rfl | omega) dX10_readToken_199 ?_
                  refine g_iconst C (pc := 202) 1 dX10_readToken_202 (by decide) ?_
                  refine g_isub C (pc := 203) dX10_readToken_203 ?_
                  refine g_callVI C (pc := 204) mf_X10_byteAt lk_RX10_200 (c_X10_byteAt n ρ _ L tb (tkF tb L p + 1) _ hn9 hxs (((htbJ.w1 (by decide) trivial).w1 (by decide) trivial).w1 (by decide) trivial) (by omega) (by (repeat (first | rw [wr_ss] | rw [wr_sn (by decide)] | rw [wr_n (by decide)])); rw [hRE, hE]; exact (pk_sub (b := 1) (by omega)).trans (congrArg nI (by omega)))) (by decide) (Nat.le_refl _) rfl (by first | assumption | rfl | omega) rfl (by first | assumption | rfl | omega) (Nat.le_of_ble_eq_true rfl) dX10_readToken_204 (fun v204 I204 h204 => ?_)
                  obtain ⟨e204, rfl⟩ := h204
                  rw [if_pos hsec.1, cB_s _ (by omega)] at e204
                  refine g_iadd C (pc := 207) dX10_readToken_207 ?_
                  refine g_bipush C (pc := 208) 48 dX10_readToken_208 (by decide) ?_
                  refine g_isub C (pc := 210) dX10_readToken_210 ?_
                  refine g_putI C (pc := 211) fl_RX10_107 (by decide) fp_9_12 (Or.inl rfl) ⟨rfl, rfl⟩ (by first | assumption | rfl | omega) (by first | assumption | rfl | omega) hn9 dX10_readToken_211 ?_
                  refine g_goto C (pc := 214) 227 dX10_readToken_214 (by decide) ?_
                  refine g_iconst C (pc := 227) 1 dX10_readToken_227 (by decide) ?_
                  refine g_zret C hR (pc := 228) rfl rfl dX10_readToken_228 ?_
                  refine ⟨rfl, _, rfl, ?_⟩
                  refine ⟨?_, ?_, fun h9 => ⟨?_, ?_, fun h8 => ?_, ?_⟩, fun h9 => ⟨?_, ?_⟩, fun z h9 => ?_, fun i h9 => ?_⟩
                  · rw [hK]; decide
                  · (repeat (first | rw [wr_ss] | rw [wr_sn (by decide)] | rw [wr_n (by decide)]))
                    exact hJ11
                  · (repeat (first | rw [wr_ss] | rw [wr_sn (by decide)] | rw [wr_n (by decide)]))
                    first | (rw [hE]; first | exact hJ9 | (rw [hJ9]; exact nI_1 _) | exact e103) | exact hRE
                  · (repeat (first | rw [wr_ss] | rw [wr_sn (by decide)] | rw [wr_n (by decide)]))
                    rw [hK]; rfl
                  · rw [hK] at h8
                    first | exact absurd h8 (by decide) | ((repeat (first | rw [wr_ss] | rw [wr_sn (by decide)] | rw [wr_n (by decide)])); unfold tkV; rw [if_neg hn2, hv32, show (48 : Int32) = nI 48 from rfl, pk_sub (by omega)]) | ((repeat (first | rw [wr_ss] | rw [wr_sn (by decide)] | rw [wr_n (by decide)])); unfold tkV; rw [if_pos hy2, e204, hv32, show (48 : Int32) = nI 48 from rfl, pk_sub (by omega), show (10 : Int32) = nI 10 from rfl, pk_mul, nI_add, pk_sub (by omega)]; congr 1; omega)
                  · (repeat (first | rw [wr_ss] | rw [wr_sn (by decide)] | rw [wr_n (by decide)]))
                    exact hJz 4 (by decide) (by decide)
                  · rw [hK] at h9; exact absurd h9 (by decide)
                  · rw [hK] at h9; exact absurd h9 (by decide)
                  · rcases h9 with rfl | rfl | rfl | rfl | rfl
                    · (repeat (first | rw [wr_ss] | rw [wr_sn (by decide)] | rw [wr_n (by decide)]))
                      exact hJz _ (by decide) (by decide)
                    · (repeat (first | rw [wr_ss] | rw [wr_sn (by decide)] | rw [wr_n (by decide)]))
                      exact hJz _ (by decide) (by decide)
                    · (repeat (first | rw [wr_ss] | rw [wr_sn (by decide)] | rw [wr_n (by decide)]))
                      exact hJz _ (by decide) (by decide)
                    · (repeat (first | rw [wr_ss] | rw [wr_sn (by decide)] | rw [wr_n (by decide)]))
                      exact hJz _ (by decide) (by decide)
                    · (repeat (first | rw [wr_ss] | rw [wr_sn (by decide)] | rw [wr_n (by decide)]))
                      exact hJz _ (by decide) (by decide)
                  · repeat rw [wr_n h9]
                    exact hJi i h9
              · have hgt2 : ¬ runT tb L 48 57 (tkF tb L p) - tkF tb L p ≤ 2 := by
                  (repeat (first | rw [wr_ss] at c155 | rw [wr_sn (by decide)] at c155 | rw [wr_n (by decide)] at c155))
                  rw [hRE, hJ11, hE, pk_sub (by omega), show (2 : Int32) = nI 2 from rfl, nI_ltI (by decide) (by omega)] at c155
                  omega
                have hK : (tkK tb L p) = 0 := by unfold tkK; rw [if_neg hnL, if_neg h59, if_neg hna, if_pos hyd, if_neg hgt2]
                refine g_aload_n C (pc := 158) dX10_readToken_158 1 rfl ?_
                refine g_iconst C (pc := 159) 1 dX10_readToken_159 (by decide) ?_
                refine g_aload_n C (pc := 160) dX10_readToken_160 1 rfl ?_
                refine g_getI C (pc := 161) fl_RX10_93 (by decide) (by first | assumption | rfl | omega) (by first | assumption | rfl | omega) dX10_readToken_161 ?_
                refine g_callVI C (pc := 164) mf_X10_fail lk_RX10_96 (c_X10_fail n ρ _ _ _ hn9 hxs) (by decide) (Nat.le_refl _) rfl (by first | assumption | rfl | omega) rfl (by first | assumption | rfl | omega) (Nat.le_of_ble_eq_true rfl) dX10_readToken_164 (fun v164 I164 h164 => ?_)
                obtain ⟨rfl, rfl⟩ := h164
                refine g_zret C hR (pc := 167) rfl rfl dX10_readToken_167 ?_
                refine ⟨rfl, _, rfl, ?_⟩
                refine ⟨?_, ?_, fun h9 => absurd hK h9, fun _ => ⟨?_, ?_⟩, fun z h9 => ?_, fun i h9 => ?_⟩
                · rw [hK]; rfl
                · (repeat (first | rw [wr_ss] | rw [wr_sn (by decide)] | rw [wr_n (by decide)]))
                  exact hJ11
                · (repeat (first | rw [wr_ss] | rw [wr_sn (by decide)] | rw [wr_n (by decide)]))
                · (repeat (first | rw [wr_ss] | rw [wr_sn (by decide)] | rw [wr_n (by decide)]))
                  first | exact hJ11 | (rw [hJ11])
                · rcases h9 with rfl | rfl | rfl | rfl | rfl
                  · (repeat (first | rw [wr_ss] | rw [wr_sn (by decide)] | rw [wr_n (by decide)]))
                    exact hJz _ (by decide) (by decide)
                  · (repeat (first | rw [wr_ss] | rw [wr_sn (by decide)] | rw [wr_n (by decide)]))
                    exact hJz _ (by decide) (by decide)
                  · (repeat (first | rw [wr_ss] | rw [wr_sn (by decide)] | rw [wr_n (by decide)]))
                    exact hJz _ (by decide) (by decide)
                  · (repeat (first | rw [wr_ss] | rw [wr_sn (by decide)] | rw [wr_n (by decide)]))
                    exact hJz _ (by decide) (by decide)
                  · (repeat (first | rw [wr_ss] | rw [wr_sn (by decide)] | rw [wr_n (by decide)]))
                    exact hJz _ (by decide) (by decide)
                · repeat rw [wr_n h9]
                  exact hJi i h9
        · have hya : 97 ≤ tb (tkF tb L p) ∧ tb (tkF tb L p) ≤ 122 := by
            rw [hv32, show (122 : Int32) = nI 122 from rfl, nI_leI (by omega) (by decide)] at c85
            exact ⟨h97.1, c85⟩
          have hK : (tkK tb L p) = 1 := by unfold tkK; rw [if_neg hnL, if_neg h59, if_pos hya]
          have hE : tkE tb L p = runT tb L 97 122 (tkF tb L p) := by unfold tkE; rw [if_neg hnL, if_neg h59, if_pos hya]
          refine g_aload_n C (pc := 88) dX10_readToken_88 1 rfl ?_
          refine g_iconst C (pc := 89) 1 dX10_readToken_89 (by decide) ?_
          refine g_putI C (pc := 90) fl_RX10_55 (by decide) fp_9_10 (Or.inl rfl) ⟨rfl, rfl⟩ (by first | assumption | rfl | omega) (by first | assumption | rfl | omega) hn9 dX10_readToken_90 ?_
          refine g_aload_n C (pc := 93) dX10_readToken_93 1 rfl ?_
          refine g_aload_n C (pc := 94) dX10_readToken_94 1 rfl ?_
          refine g_aload_n C (pc := 95) dX10_readToken_95 1 rfl ?_
          refine g_getI C (pc := 96) fl_RX10_29 (by decide) (by first | assumption | rfl | omega) (by first | assumption | rfl | omega) dX10_readToken_96 ?_
          refine g_bipush C (pc := 99) 97 dX10_readToken_99 (by decide) ?_
          refine g_bipush C (pc := 101) 122 dX10_readToken_101 (by decide) ?_
          refine g_callVI C (pc := 103) mf_X10_endOfRun lk_RX10_196 (c_X10_endOfRun n ρ _ L tb (tkF tb L p) 97 122 _ _ _ hn9 hxs (htbJ.w1 (by decide) trivial) hF.2 (by decide) (by decide) (by rw [wr_sn (by decide)]; exact hJ9) rfl rfl) (by decide) (Nat.le_refl _) rfl (by first | assumption | rfl | omega) rfl (by first | assumption | rfl | omega) (Nat.le_of_ble_eq_true rfl) dX10_readToken_103 (fun v103 I103 h103 => ?_)
          obtain ⟨e103, rfl⟩ := h103
          refine g_putI C (pc := 106) fl_RX10_29 (by decide) fp_9_9 (Or.inl rfl) ⟨rfl, rfl⟩ (by first | assumption | rfl | omega) (by first | assumption | rfl | omega) hn9 dX10_readToken_106 ?_
          refine g_goto C (pc := 109) 227 dX10_readToken_109 (by decide) ?_
          refine g_iconst C (pc := 227) 1 dX10_readToken_227 (by decide) ?_
          refine g_zret C hR (pc := 228) rfl rfl dX10_readToken_228 ?_
          refine ⟨rfl, _, rfl, ?_⟩
          refine ⟨?_, ?_, fun h9 => ⟨?_, ?_, fun h8 => ?_, ?_⟩, fun h9 => ⟨?_, ?_⟩, fun z h9 => ?_, fun i h9 => ?_⟩
          · rw [hK]; decide
          · (repeat (first | rw [wr_ss] | rw [wr_sn (by decide)] | rw [wr_n (by decide)]))
            exact hJ11
          · (repeat (first | rw [wr_ss] | rw [wr_sn (by decide)] | rw [wr_n (by decide)]))
            first | (rw [hE]; first | exact hJ9 | (rw [hJ9]; exact nI_1 _) | exact e103) | exact hRE
          · (repeat (first | rw [wr_ss] | rw [wr_sn (by decide)] | rw [wr_n (by decide)]))
            rw [hK]; rfl
          · rw [hK] at h8
            first | exact absurd h8 (by decide) | ((repeat (first | rw [wr_ss] | rw [wr_sn (by decide)] | rw [wr_n (by decide)])); unfold tkV; rw [if_neg hn2, hv32, show (48 : Int32) = nI 48 from rfl, pk_sub (by omega)]) | ((repeat (first | rw [wr_ss] | rw [wr_sn (by decide)] | rw [wr_n (by decide)])); unfold tkV; rw [if_pos hy2, e204, hv32, show (48 : Int32) = nI 48 from rfl, pk_sub (by omega), show (10 : Int32) = nI 10 from rfl, pk_mul, nI_add, pk_sub (by omega)]; congr 1; omega)
          · (repeat (first | rw [wr_ss] | rw [wr_sn (by decide)] | rw [wr_n (by decide)]))
            exact hJz 4 (by decide) (by decide)
          · rw [hK] at h9; exact absurd h9 (by decide)
          · rw [hK] at h9; exact absurd h9 (by decide)
          · rcases h9 with rfl | rfl | rfl | rfl | rfl
            · (repeat (first | rw [wr_ss] | rw [wr_sn (by decide)] | rw [wr_n (by decide)]))
              exact hJz _ (by decide) (by decide)
            · (repeat (first | rw [wr_ss] | rw [wr_sn (by decide)] | rw [wr_n (by decide)]))
              exact hJz _ (by decide) (by decide)
            · (repeat (first | rw [wr_ss] | rw [wr_sn (by decide)] | rw [wr_n (by decide)]))
              exact hJz _ (by decide) (by decide)
            · (repeat (first | rw [wr_ss] | rw [wr_sn (by decide)] | rw [wr_n (by decide)]))
              exact hJz _ (by decide) (by decide)
            · (repeat (first | rw [wr_ss] | rw [wr_sn (by decide)] | rw [wr_n (by decide)]))
              exact hJz _ (by decide) (by decide)
          · repeat rw [wr_n h9]
            exact hJi i h9
    · have h59 : tb (tkF tb L p) = 59 := by
        rw [ev32, e29] at c55
        exact (cB_eq hb2 (by decide)).mp c55
      have hK : (tkK tb L p) = 3 := by unfold tkK; rw [if_neg hnL, if_pos h59]
      have hE : tkE tb L p = tkF tb L p + 1 := by unfold tkE; rw [if_neg hnL, if_pos h59]
      refine g_aload_n C (pc := 58) dX10_readToken_58 1 rfl ?_
      refine g_iconst C (pc := 59) 3 dX10_readToken_59 (by decide) ?_
      refine g_putI C (pc := 60) fl_RX10_55 (by decide) fp_9_10 (Or.inl rfl) ⟨rfl, rfl⟩ (by first | assumption | rfl | omega) (by first | assumption | rfl | omega) hn9 dX10_readToken_60 ?_
      refine g_aload_n C (pc := 63) dX10_readToken_63 1 rfl ?_
      refine g_dup C (pc := 64) dX10_readToken_64 rfl ?_
      refine g_getI C (pc := 65) fl_RX10_29 (by decide) (by first | assumption | rfl | omega) (by first | assumption | rfl | omega) dX10_readToken_65 ?_
      refine g_iconst C (pc := 68) 1 dX10_readToken_68 (by decide) ?_
      refine g_iadd C (pc := 69) dX10_readToken_69 ?_
      refine g_putI C (pc := 70) fl_RX10_29 (by decide) fp_9_9 (Or.inl rfl) ⟨rfl, rfl⟩ (by first | assumption | rfl | omega) (by first | assumption | rfl | omega) hn9 dX10_readToken_70 ?_
      refine g_goto C (pc := 73) 227 dX10_readToken_73 (by decide) ?_
      refine g_iconst C (pc := 227) 1 dX10_readToken_227 (by decide) ?_
      refine g_zret C hR (pc := 228) rfl rfl dX10_readToken_228 ?_
      refine ⟨rfl, _, rfl, ?_⟩
      refine ⟨?_, ?_, fun h9 => ⟨?_, ?_, fun h8 => ?_, ?_⟩, fun h9 => ⟨?_, ?_⟩, fun z h9 => ?_, fun i h9 => ?_⟩
      · rw [hK]; decide
      · (repeat (first | rw [wr_ss] | rw [wr_sn (by decide)] | rw [wr_n (by decide)]))
        exact hJ11
      · (repeat (first | rw [wr_ss] | rw [wr_sn (by decide)] | rw [wr_n (by decide)]))
        first | (rw [hE]; first | exact hJ9 | (rw [hJ9]; exact nI_1 _) | exact e103) | exact hRE
      · (repeat (first | rw [wr_ss] | rw [wr_sn (by decide)] | rw [wr_n (by decide)]))
        rw [hK]; rfl
      · rw [hK] at h8
        first | exact absurd h8 (by decide) | ((repeat (first | rw [wr_ss] | rw [wr_sn (by decide)] | rw [wr_n (by decide)])); unfold tkV; rw [if_neg hn2, hv32, show (48 : Int32) = nI 48 from rfl, pk_sub (by omega)]) | ((repeat (first | rw [wr_ss] | rw [wr_sn (by decide)] | rw [wr_n (by decide)])); unfold tkV; rw [if_pos hy2, e204, hv32, show (48 : Int32) = nI 48 from rfl, pk_sub (by omega), show (10 : Int32) = nI 10 from rfl, pk_mul, nI_add, pk_sub (by omega)]; congr 1; omega)
      · (repeat (first | rw [wr_ss] | rw [wr_sn (by decide)] | rw [wr_n (by decide)]))
        exact hJz 4 (by decide) (by decide)
      · rw [hK] at h9; exact absurd h9 (by decide)
      · rw [hK] at h9; exact absurd h9 (by decide)
      · rcases h9 with rfl | rfl | rfl | rfl | rfl
        · (repeat (first | rw [wr_ss] | rw [wr_sn (by decide)] | rw [wr_n (by decide)]))
          exact hJz _ (by decide) (by decide)
        · (repeat (first | rw [wr_ss] | rw [wr_sn (by decide)] | rw [wr_n (by decide)]))
          exact hJz _ (by decide) (by decide)
        · (repeat (first | rw [wr_ss] | rw [wr_sn (by decide)] | rw [wr_n (by decide)]))
          exact hJz _ (by decide) (by decide)
        · (repeat (first | rw [wr_ss] | rw [wr_sn (by decide)] | rw [wr_n (by decide)]))
          exact hJz _ (by decide) (by decide)
        · (repeat (first | rw [wr_ss] | rw [wr_sn (by decide)] | rw [wr_n (by decide)]))
          exact hJz _ (by decide) (by decide)
      · repeat rw [wr_n h9]
        exact hJi i h9
  · have hge : L ≤ tkF tb L p := by
      rw [hJ9, htbJ.1, nI_leI (by omega) (by omega)] at c41
      exact c41
    have hK : (tkK tb L p) = 4 := by unfold tkK; rw [if_pos hge]
    have hE : tkE tb L p = tkF tb L p := by unfold tkE; rw [if_pos hge]
    refine g_aload_n C (pc := 44) dX10_readToken_44 1 rfl ?_
    refine g_iconst C (pc := 45) 4 dX10_readToken_45 (by decide) ?_
    refine g_putI C (pc := 46) fl_RX10_55 (by decide) fp_9_10 (Or.inl rfl) ⟨rfl, rfl⟩ (by first | assumption | rfl | omega) (by first | assumption | rfl | omega) hn9 dX10_readToken_46 ?_
    refine g_goto C (pc := 49) 227 dX10_readToken_49 (by decide) ?_
    refine g_iconst C (pc := 227) 1 dX10_readToken_227 (by decide) ?_
    refine g_zret C hR (pc := 228) rfl rfl dX10_readToken_228 ?_
    refine ⟨rfl, _, rfl, ?_⟩
    refine ⟨?_, ?_, fun h9 => ⟨?_, ?_, fun h8 => ?_, ?_⟩, fun h9 => ⟨?_, ?_⟩, fun z h9 => ?_, fun i h9 => ?_⟩
    · rw [hK]; decide
    · (repeat (first | rw [wr_ss] | rw [wr_sn (by decide)] | rw [wr_n (by decide)]))
      exact hJ11
    · (repeat (first | rw [wr_ss] | rw [wr_sn (by decide)] | rw [wr_n (by decide)]))
      first | (rw [hE]; first | exact hJ9 | (rw [hJ9]; exact nI_1 _) | exact e103) | exact hRE
    · (repeat (first | rw [wr_ss] | rw [wr_sn (by decide)] | rw [wr_n (by decide)]))
      rw [hK]; rfl
    · rw [hK] at h8
      first | exact absurd h8 (by decide) | ((repeat (first | rw [wr_ss] | rw [wr_sn (by decide)] | rw [wr_n (by decide)])); unfold tkV; rw [if_neg hn2, hv32, show (48 : Int32) = nI 48 from rfl, pk_sub (by omega)]) | ((repeat (first | rw [wr_ss] | rw [wr_sn (by decide)] | rw [wr_n (by decide)])); unfold tkV; rw [if_pos hy2, e204, hv32, show (48 : Int32) = nI 48 from rfl, pk_sub (by omega), show (10 : Int32) = nI 10 from rfl, pk_mul, nI_add, pk_sub (by omega)]; congr 1; omega)
    · (repeat (first | rw [wr_ss] | rw [wr_sn (by decide)] | rw [wr_n (by decide)]))
      exact hJz 4 (by decide) (by decide)
    · rw [hK] at h9; exact absurd h9 (by decide)
    · rw [hK] at h9; exact absurd h9 (by decide)
    · rcases h9 with rfl | rfl | rfl | rfl | rfl
      · (repeat (first | rw [wr_ss] | rw [wr_sn (by decide)] | rw [wr_n (by decide)]))
        exact hJz _ (by decide) (by decide)
      · (repeat (first | rw [wr_ss] | rw [wr_sn (by decide)] | rw [wr_n (by decide)]))
        exact hJz _ (by decide) (by decide)
      · (repeat (first | rw [wr_ss] | rw [wr_sn (by decide)] | rw [wr_n (by decide)]))
        exact hJz _ (by decide) (by decide)
      · (repeat (first | rw [wr_ss] | rw [wr_sn (by decide)] | rw [wr_n (by decide)]))
        exact hJz _ (by decide) (by decide)
      · (repeat (first | rw [wr_ss] | rw [wr_sn (by decide)] | rw [wr_n (by decide)]))
        exact hJz _ (by decide) (by decide)
    · repeat rw [wr_n h9]
      exact hJi i h9
