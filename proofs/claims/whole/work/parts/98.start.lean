/-! ===== what the start gives ===== -/
def gN : List Cond := flatC (Jvm.Cond.and given_1 narrow_1)
def tmS (i : Nat) : Term := .string "WeatherChess$Tape" ([64, 73, 78, 83, 88, 163, 165, 167, 169].getD i 0)
def posS (i : Nat) : Nat := [9, 18, 30, 95, 110, 41, 52, 63, 78].getD i 0
def posD (i j : Nat) : Nat := ([[0, 29, 39, 103, 118, 49, 59, 73, 89], [0, 0, 40, 104, 119, 50, 60, 74, 90], [0, 0, 0, 105, 120, 51, 61, 75, 91], [0, 0, 0, 0, 125, 0, 0, 0, 0], [0, 0, 0, 0, 0, 0, 0, 0, 0], [0, 0, 0, 106, 121, 0, 62, 76, 92], [0, 0, 0, 107, 122, 0, 0, 77, 93], [0, 0, 0, 108, 123, 0, 0, 0, 94], [0, 0, 0, 109, 124, 0, 0, 0, 0]].getD i []).getD j 0
theorem gn_ex : ∀ i, i < 9 → gN[posS i]? = some (Cond.exactly (tmS i) "java/lang/String") := by decide +kernel
theorem gn_co : ∀ i, i < 9 → gN[posS i + 1]? = some (Cond.eq (.field (tmS i) "java/lang/String" "coder" "B") (.int 0)) := by decide +kernel
theorem gn_ar : ∀ i, i < 9 → gN[posS i + 2]? = some (Cond.arrayOf (.field (tmS i) "java/lang/String" "value" "[B") .byte) := by decide +kernel
theorem gn_le : ∀ i, i < 9 → gN[posS i + 3]? = some (Cond.eq (.length (.field (tmS i) "java/lang/String" "value" "[B")) (.int (Int32.ofNat (strN.getD i 0)))) := by decide +kernel
theorem gn_el : ∀ i, i < 9 → ∀ j, j < strN.getD i 0 → gN[posS i + 4 + j]? = some (Cond.eq (.elem (.field (tmS i) "java/lang/String" "value" "[B") (.int (Int32.ofNat j))) (.int ((strB.getD i []).getD j 0))) := by decide +kernel
theorem gn_ne : ∀ i, i < 9 → ∀ j, j < 9 → i ≠ j → gN[posD i j]? = some (Cond.not (Cond.eq (tmS i) (tmS j))) ∨ gN[posD j i]? = some (Cond.not (Cond.eq (tmS j) (tmS i))) := by decide +kernel
theorem gn_cs : gN[4]? = some (Cond.eq (.static "java/lang/String" "COMPACT_STRINGS" "Z") (.int 1)) := by decide +kernel
theorem gn_pf : gN[5]? = some (Cond.isRef (.static "jdk/internal/util/Preconditions" "SIOOBE_FORMATTER" "Ljava/util/function/BiFunction;")) := by decide +kernel
theorem gn_n : ∀ i, i < 9 → strN.getD i 0 < 2 ^ 31 := by decide +kernel
set_option maxRecDepth 50000 in
theorem nest_tbl : ∀ q ∈ nestL, Cond.methodLinkNest q.1 q.2.1 q.2.2.1 q.2.2.2 ∈ lw_tbl := List.forall_mem_cons.mpr ⟨List.mem_of_getElem? (i := 111) rfl, List.forall_mem_cons.mpr ⟨List.mem_of_getElem? (i := 117) rfl, List.forall_mem_cons.mpr ⟨List.mem_of_getElem? (i := 160) rfl, List.forall_mem_cons.mpr ⟨List.mem_of_getElem? (i := 223) rfl, List.forall_mem_cons.mpr ⟨List.mem_of_getElem? (i := 228) rfl, List.forall_mem_cons.mpr ⟨List.mem_of_getElem? (i := 286) rfl, List.forall_mem_cons.mpr ⟨List.mem_of_getElem? (i := 313) rfl, List.forall_mem_cons.mpr ⟨List.mem_of_getElem? (i := 319) rfl, List.forall_mem_cons.mpr ⟨List.mem_of_getElem? (i := 322) rfl, List.forall_mem_cons.mpr ⟨List.mem_of_getElem? (i := 335) rfl, List.forall_mem_cons.mpr ⟨List.mem_of_getElem? (i := 338) rfl, List.forall_mem_cons.mpr ⟨List.mem_of_getElem? (i := 374) rfl, List.forall_mem_cons.mpr ⟨List.mem_of_getElem? (i := 408) rfl, List.forall_mem_cons.mpr ⟨List.mem_of_getElem? (i := 437) rfl, List.forall_mem_cons.mpr ⟨List.mem_of_getElem? (i := 908) rfl, List.forall_mem_cons.mpr ⟨List.mem_of_getElem? (i := 966) rfl, List.forall_mem_cons.mpr ⟨List.mem_of_getElem? (i := 991) rfl, List.forall_mem_cons.mpr ⟨List.mem_of_getElem? (i := 1004) rfl, List.forall_mem_cons.mpr ⟨List.mem_of_getElem? (i := 1045) rfl, fun _ h => absurd h List.not_mem_nil⟩⟩⟩⟩⟩⟩⟩⟩⟩⟩⟩⟩⟩⟩⟩⟩⟩⟩⟩
set_option maxRecDepth 50000 in
theorem str_tbl : ∀ i q, strL[i]? = some q → Cond.stringRef "WeatherChess$Tape" q.1 q.2 ∈ lw_tbl ∧ tmS i = .string "WeatherChess$Tape" q.1 := by
  intro i q hq
  have hi : i < 9 := (List.getElem?_eq_some_iff.mp hq).1
  have hc : i = 0 ∨ i = 1 ∨ i = 2 ∨ i = 3 ∨ i = 4 ∨ i = 5 ∨ i = 6 ∨ i = 7 ∨ i = 8 := by omega
  rcases hc with rfl | rfl | rfl | rfl | rfl | rfl | rfl | rfl | rfl
  · obtain rfl : (64, "board") = q := Option.some.inj hq
    exact ⟨List.mem_of_getElem? (i := 554) rfl, rfl⟩
  · obtain rfl : (73, "steeple") = q := Option.some.inj hq
    exact ⟨List.mem_of_getElem? (i := 619) rfl, rfl⟩
  · obtain rfl : (78, "piece") = q := Option.some.inj hq
    exact ⟨List.mem_of_getElem? (i := 640) rfl, rfl⟩
  · obtain rfl : (83, "odds") = q := Option.some.inj hq
    exact ⟨List.mem_of_getElem? (i := 654) rfl, rfl⟩
  · obtain rfl : (88, "turn") = q := Option.some.inj hq
    exact ⟨List.mem_of_getElem? (i := 667) rfl, rfl⟩
  · obtain rfl : (163, "king") = q := Option.some.inj hq
    exact ⟨List.mem_of_getElem? (i := 649) rfl, rfl⟩
  · obtain rfl : (165, "man") = q := Option.some.inj hq
    exact ⟨List.mem_of_getElem? (i := 650) rfl, rfl⟩
  · obtain rfl : (167, "runner") = q := Option.some.inj hq
    exact ⟨List.mem_of_getElem? (i := 651) rfl, rfl⟩
  · obtain rfl : (169, "sparrow") = q := Option.some.inj hq
    exact ⟨List.mem_of_getElem? (i := 652) rfl, rfl⟩
theorem cls_at {s : State} {args : Array Value} (hts : ∀ w ∈ GW, w.before args s = true) : ∀ k : Nat, ∃ z : ClassId × (Nat → Nat), ∀ q : vw_C, vwCl[k]? = some q → u_Kn s q.1 q.2.1 q.2.2 z.1 z.2 := by
  intro k
  rcases Nat.lt_or_ge k 12 with hk | hk
  · have hc : k = 0 ∨ k = 1 ∨ k = 2 ∨ k = 3 ∨ k = 4 ∨ k = 5 ∨ k = 6 ∨ k = 7 ∨ k = 8 ∨ k = 9 ∨ k = 10 ∨ k = 11 := by omega
    rcases hc with rfl | rfl | rfl | rfl | rfl | rfl | rfl | rfl | rfl | rfl | rfl | rfl
    · obtain ⟨cC, iS, h⟩ := u_known (C := RX0) (T := TX0) (N := 2) (n := 2) hts gin_0 (hts _ gIN_RX0)
      exact ⟨(cC, iS), fun q hq => by obtain rfl : (RX0, TX0, 2) = q := Option.some.inj hq; exact h⟩
    · obtain ⟨cC, iS, h⟩ := u_known (C := RX1) (T := TX1) (N := 3) (n := 3) hts gin_1 (hts _ gIN_RX1)
      exact ⟨(cC, iS), fun q hq => by obtain rfl : (RX1, TX1, 3) = q := Option.some.inj hq; exact h⟩
    · obtain ⟨cC, iS, h⟩ := u_known (C := RX3) (T := TX3) (N := 8) (n := 8) hts gin_3 (hts _ gIN_RX3)
      exact ⟨(cC, iS), fun q hq => by obtain rfl : (RX3, TX3, 8) = q := Option.some.inj hq; exact h⟩
    · obtain ⟨cC, iS, h⟩ := u_known (C := RX4) (T := TX4) (N := 2) (n := 2) hts gin_4 (hts _ gIN_RX4)
      exact ⟨(cC, iS), fun q hq => by obtain rfl : (RX4, TX4, 2) = q := Option.some.inj hq; exact h⟩
    · obtain ⟨cC, iS, h⟩ := u_known (C := RX5) (T := TX5) (N := 7) (n := 7) hts gin_5 (hts _ gIN_RX5)
      exact ⟨(cC, iS), fun q hq => by obtain rfl : (RX5, TX5, 7) = q := Option.some.inj hq; exact h⟩
    · obtain ⟨cC, iS, h⟩ := u_known (C := RX6) (T := TX6) (N := 7) (n := 7) hts gin_6 (hts _ gIN_RX6)
      exact ⟨(cC, iS), fun q hq => by obtain rfl : (RX6, TX6, 7) = q := Option.some.inj hq; exact h⟩
    · obtain ⟨cC, iS, h⟩ := u_known (C := RX7) (T := TX7) (N := 3) (n := 3) hts gin_7 (hts _ gIN_RX7)
      exact ⟨(cC, iS), fun q hq => by obtain rfl : (RX7, TX7, 3) = q := Option.some.inj hq; exact h⟩
    · obtain ⟨cC, iS, h⟩ := u_known (C := RX8) (T := TX8) (N := 4) (n := 4) hts gin_8 (hts _ gIN_RX8)
      exact ⟨(cC, iS), fun q hq => by obtain rfl : (RX8, TX8, 4) = q := Option.some.inj hq; exact h⟩
    · obtain ⟨cC, iS, h⟩ := u_known (C := RX9) (T := TX9) (N := 5) (n := 5) hts gin_9 (hts _ gIN_RX9)
      exact ⟨(cC, iS), fun q hq => by obtain rfl : (RX9, TX9, 5) = q := Option.some.inj hq; exact h⟩
    · obtain ⟨cC, iS, h⟩ := u_known (C := RX10) (T := TX10) (N := 13) (n := 13) hts gin_10 (hts _ gIN_RX10)
      exact ⟨(cC, iS), fun q hq => by obtain rfl : (RX10, TX10, 13) = q := Option.some.inj hq; exact h⟩
    · obtain ⟨cC, iS, h⟩ := u_known (C := RX11) (T := TX11) (N := 11) (n := 11) hts gin_11 (hts _ gIN_RX11)
      exact ⟨(cC, iS), fun q hq => by obtain rfl : (RX11, TX11, 11) = q := Option.some.inj hq; exact h⟩
    · obtain ⟨cC, iS, h⟩ := u_known (C := RX12) (T := TX12) (N := 43) (n := 43) hts gin_12 (hts _ gIN_RX12)
      exact ⟨(cC, iS), fun q hq => by obtain rfl : (RX12, TX12, 43) = q := Option.some.inj hq; exact h⟩
  · exact ⟨(0, fun _ => 0), fun q hq => by have := (List.getElem?_eq_some_iff.mp hq).1; exact absurd this (Nat.not_lt.mpr hk)⟩
theorem arr_at {s : State} {args : Array Value} {ty : FieldType} (hty : ∀ C, ty ≠ .object C) (h : (Cond.arrayClass ty).before args s = true) : ∃ cA, ArrOfT s cA ty ∧ va_RA s cA ty := by
  obtain ⟨cA, kA, comp, h1, h2, h3⟩ := Cond.arrayClass_spec h
  refine ⟨cA, fun n z => ⟨fun k h9 => (by cases h9), kA, h2, comp, h3⟩, ?_⟩
  cases ty with
  | object C => exact absurd rfl (hty C)
  | _ => exact h1
theorem arr_obj {s : State} {args : Array Value} {C : String} (h : (Cond.arrayOver (.object C)).before args s = true) : ∃ cA, ArrOfT s cA (.object C) ∧ va_RA s cA (.object C) := by
  obtain ⟨comp, cA, kA, h1, h2, h3, h4, h5⟩ := Cond.arrayOver_spec h
  exact ⟨cA, fun n z => ⟨fun k h9 => (by cases h9), kA, h3, comp, h4⟩, kA, comp, h3, h4, h1, h5⟩
theorem arr_arr {s : State} {args : Array Value} {ty : FieldType} (h : (Cond.arrayOver (.array ty)).before args s = true) : ∃ cA, ArrOfT s cA (.array ty) ∧ va_RA s cA (.array ty) := by
  obtain ⟨comp, cA, kA, h1, h2, h3, h4, h5⟩ := arrayOverA_spec h
  exact ⟨cA, fun n z => ⟨fun k h9 => (by cases h9), kA, h3, comp, h4⟩, h5⟩
/-! THE CLAIM OUT OF ONE WALK OF THE LAW'S BODY. Your part is whole_start (and what it stands on); all else here is the same for every law, but numbers. -/
def R_law : String := "WeatherChessLaw"
def lw_P (b : Addr) (xs : List Int32) (args : Array Value) (s : State) : Prop := args = #[.ref b] ∧ s.IntsAt b xs ∧ xs.length ≤ 320 ∧ (Jvm.Cond.and given_1 narrow_1).before args s = true
def lw_Q (_ : Array Value) (s : State) (o : Outcome) (t : State) : Prop := o = .returned (some (.int 1)) ∧ Framed s o t [] 600000 7302249
def lw_Z (below : List Frame) (a : Array Value) (s : State) : State → Prop := fun t => ∃ o, t.status = .running ∧ Ended t below o ∧ lw_Q a s o t
/-- the law's own end, with 1 on the stack, nothing written that was there before, its room as the claim has it -/
theorem lw_ret {p : Program} {l : Launch} {e : Env} {s : State} {m : MethodId} {below : List Frame} {meth : Method} {c : Code} {b : Nat} (hx : p.tables.exec = Jvm.exec) (hb : c.code = code) (hr : meth.sig.returnType = ret) (hlocks : meth.locks = false) {pc : Nat} {H : Heap} {ls : Array Slot} (hdg : decode code pc = .ok (.ireturn, 1)) : W p l e room_1 s m #[Value.ref b] below meth c H [] 600000 7302249 (lw_Z below #[Value.ref b] s) (F0 m pc ls [.int 1]) := by
  intro T hT X
  obtain ⟨fs, hret, hrun, hended, hW, hframe⟩ := X.leave (v := some (.int 1)) (hlocks := hlocks) (fun h => by rw [hr] at h; cases h)
  have hmeth' : T.vm.method? m = some meth := X.method'
  refine ⟨T.setFrames fs, ?_, .returned (some (.int 1)), hrun, hended, rfl, ⟨_, rfl⟩, hW, hframe⟩
  jvm_step X.here [X.here.top, hx, hb, hdg, hmeth', hr, ret, narrow_b1]
  (try refine ⟨rfl, ?_⟩); (try refine ⟨rfl, ?_⟩)
  first | (intro acts; rw [hret _ acts rfl rfl rfl]) | rw [hret _ _ rfl rfl rfl]
  exact Steps.refl _
/-- what holds at the law's entry: the machine, the code, the tables' words (any of lw_tbl by 'hts w (by decide +kernel)'), the script of L ints xs at the cell b, what the Statement gives of the start (any of its parts by flat_of_before) -/
def lw_At (p : Program) (s : State) (m : MethodId) (meth : Method) (c : Code) (b L : Nat) (xs : Nat → Int32) : Prop :=
  p.tables.exec = Jvm.exec ∧ c.code = code ∧ meth.sig.returnType = ret ∧ c.maxLocals = 4 ∧ s.vm.findClass R_law = some m.cls ∧ (∀ w ∈ lw_tbl, w.before #[Value.ref b] s = true) ∧ va_X b L xs s s.heap ∧ b < s.heap.size ∧ meth.locks = false ∧ (Jvm.Cond.and given_1 narrow_1).before #[Value.ref b] s = true
theorem sl_all : sl 119 ≤ 7302249 := by decide +kernel
set_option maxRecDepth 50000 in
set_option maxHeartbeats 1000000 in
theorem whole_start {p : Program} {e : Env} {s : State} {m : MethodId} {below : List Frame} {meth : Method} {c : Code} (l : Launch) (hflags : l.flags = flags0) {b L : Nat} {xs : Nat → Int32} (hL : L ≤ 320) (C0 : lw_At p s m meth c b L xs) : W p l e room_1 s m #[Value.ref b] below meth c s.heap [] 0 0 (lw_Z below #[Value.ref b] s) (entryFrame m ([Value.ref b] : List Value).toArray 4) := by
  obtain ⟨hx, hb, hr, hml, hown, hts, hX, hbl, hlocks, hgv⟩ := id C0
  have hgw : ∀ w ∈ GW, w.before #[Value.ref b] s = true := fun w hw => hts w (GW_tbl hw)
  have hgn : ∀ w ∈ gN, w.before #[Value.ref b] s = true := flat_of_before _ hgv
  have hat : ∀ (k : Nat) (w : Cond), gN[k]? = some w → w.before #[Value.ref b] s = true := fun k w h => hgn w (List.mem_of_getElem? h)
  have hA : ∀ a : Nat, a < s.heap.size → ¬ (fun q : Nat => s.heap.size ≤ q) a := fun a ha => Nat.not_le.mpr ha
  obtain ⟨zc, hzc⟩ := Classical.axiomOfChoice (cls_at hgw)
  obtain ⟨a0, b0⟩ := arr_at (ty := .int) (fun C h => by cases h) (hgw _ gAC_int)
  obtain ⟨a1, b1⟩ := arr_at (ty := .boolean) (fun C h => by cases h) (hgw _ gAC_boolean)
  obtain ⟨a2, b2⟩ := arr_at (ty := .byte) (fun C h => by cases h) (hgw _ gAC_byte)
  have hov : (Cond.arrayOver (.object "WeatherChess$Game")).before #[Value.ref b] s = true := hts _ (List.mem_of_getElem? (i := 220) rfl)
  have hoa : (Cond.arrayOver (.array .int)).before #[Value.ref b] s = true := hts _ (List.mem_of_getElem? (i := 396) rfl)
  obtain ⟨a3, b3⟩ := arr_obj hov
  obtain ⟨a4, b4⟩ := arr_arr hoa
  obtain ⟨dA, d0, d1, d2, d3, d4⟩ : ∃ dA : Nat → ClassId, dA 0 = a0 ∧ dA 1 = a1 ∧ dA 2 = a2 ∧ dA 3 = a3 ∧ dA 4 = a4 := ⟨fun k => [a0, a1, a2, a3, a4].getD k 0, rfl, rfl, rfl, rfl, rfl⟩
  obtain ⟨adK, adV, hS, hev⟩ := vk_Sof (args := #[Value.ref b]) (s := s) (N := 9) (tm := tmS) (len := strN) (byt := strB) (A := fun q : Nat => s.heap.size ≤ q) gn_n (fun i hi => hat _ _ (gn_ex i hi)) (fun i hi => hat _ _ (gn_co i hi)) (fun i hi => hat _ _ (gn_ar i hi)) (fun i hi => hat _ _ (gn_le i hi)) (fun i hi j hj => hat _ _ (gn_el i hi j hj)) (fun i j hi hj hij => (gn_ne i hi j hj hij).imp (hat _ _) (hat _ _)) hA
  have hcs := va_Zof (A := fun q : Nat => s.heap.size ≤ q) (hts (.laysStatic "java/lang/String" "COMPACT_STRINGS" "Z") (List.mem_of_getElem? (i := 568) rfl)) (hts (.initialized "java/lang/String") (List.mem_of_getElem? (i := 94) rfl)) (va_eqt (hat _ _ gn_cs)) hA
  have hpf := va_Zqof (A := fun q : Nat => s.heap.size ≤ q) (hts (.laysStatic "jdk/internal/util/Preconditions" "SIOOBE_FORMATTER" "Ljava/util/function/BiFunction;") (List.mem_of_getElem? (i := 584) rfl)) (hts (.initialized "jdk/internal/util/Preconditions") (List.mem_of_getElem? (i := 96) rfl)) (hat _ _ gn_pf) hA
  obtain ⟨pr, hpr⟩ : ∃ pr : Nat, va_Z "jdk/internal/util/Preconditions" "SIOOBE_FORMATTER" "Ljava/util/function/BiFunction;" .null (fun q : Nat => s.heap.size ≤ q) s s.heap ∨ va_Z "jdk/internal/util/Preconditions" "SIOOBE_FORMATTER" "Ljava/util/function/BiFunction;" (.ref pr) (fun q : Nat => s.heap.size ≤ q) s s.heap := by
    rcases hpf with h | ⟨t, h⟩
    · exact ⟨0, Or.inl h⟩
    · exact ⟨t, Or.inr h⟩
  obtain ⟨ad, had⟩ : ∃ ad : Nat → Nat, ∀ i, ad i = if i < 1000 then s.heap.size + i else if i < 1100 then adK (i - 1000) else if i < 1200 then adV (i - 1100) else if i = 1200 then pr else b := ⟨_, fun _ => rfl⟩
  have ad0 : ad 0 = s.heap.size := by rw [had, if_pos (by decide)]; rfl
  have adi : ∀ i, i < 1000 → ad i = ad 0 + i := fun i hi => by rw [ad0, had, if_pos hi]
  have adk : ∀ i, i < 9 → ad (1000 + i) = adK i := fun i hi => by rw [had, if_neg (by omega), if_pos (by omega), show 1000 + i - 1000 = i by omega]
  have adv : ∀ i, i < 9 → ad (1100 + i) = adV i := fun i hi => by rw [had, if_neg (by omega), if_neg (by omega), if_pos (by omega), show 1100 + i - 1100 = i by omega]
  have adp : ad 1200 = pr := by rw [had, if_neg (by decide), if_neg (by decide), if_neg (by decide), if_pos rfl]
  have adb : ad 2000 = b := by rw [had, if_neg (by decide), if_neg (by decide), if_neg (by decide), if_neg (by decide)]
  have eA : (fun q : Nat => ad 0 ≤ q) = fun q : Nat => s.heap.size ≤ q := by funext q; rw [ad0]
  have hK : va_K (fun k => (zc k).1, fun k => (zc k).2) vwCl (tysOf dA) s := by
    refine ⟨fun k q hq => hzc k q hq, fun k q hq => ?_⟩
    have hk : k < 5 := (List.getElem?_eq_some_iff.mp hq).1
    have hc : k = 0 ∨ k = 1 ∨ k = 2 ∨ k = 3 ∨ k = 4 := by omega
    rcases hc with rfl | rfl | rfl | rfl | rfl
    · obtain rfl : (dA 0, FieldType.int) = q := Option.some.inj hq
      rw [d0]; exact b0
    · obtain rfl : (dA 1, FieldType.boolean) = q := Option.some.inj hq
      rw [d1]; exact b1
    · obtain rfl : (dA 2, FieldType.byte) = q := Option.some.inj hq
      rw [d2]; exact b2
    · obtain rfl : (dA 3, FieldType.object "WeatherChess$Game") = q := Option.some.inj hq
      rw [d3]; exact b3
    · obtain rfl : (dA 4, FieldType.array .int) = q := Option.some.inj hq
      rw [d4]; exact b4
  have hKt : Kt (fun k => (zc k).1) (fun k => (zc k).2) dA ad s := by
    refine ⟨hK, fun i q hq => ?_, fun q hq => va_Nw.of rfl (hts _ (nest_tbl q hq)), va_Nw.of rfl (hts (.declares declN) (List.mem_of_getElem? (i := 912) rfl)), va_AO.of hov, hoa, adi⟩
    have hi : i < 9 := (List.getElem?_eq_some_iff.mp hq).1
    obtain ⟨g1, g2⟩ := str_tbl i q hq
    refine vk_R.of (hts _ g1) ?_
    rw [adk i hi, ← g2]
    exact hev i hi
  have hSt : StrH ad s s.heap := by
    unfold StrH
    rw [eA, adp]
    refine ⟨⟨fun i hi => ?_, fun i j hi hj h => ?_⟩, hcs, hpr⟩
    · show va_O "java/lang/String" (ad (1000 + i)) _ s s.heap ∧ va_OF "java/lang/String" "coder" "B" (.int 0) (ad (1000 + i)) _ s s.heap ∧ va_OF "java/lang/String" "value" "[B" (.ref (ad (1100 + i))) (ad (1000 + i)) _ s s.heap ∧ va_T .byte (ad (1100 + i)) _ _ _ s s.heap
      rw [adk i hi, adv i hi]
      exact hS.1 i hi
    · have h9 : ad (1000 + i) = ad (1000 + j) := h
      rw [adk i hi, adk j hj] at h9
      exact hS.2 i j hi hj h9
  have hl := lv_entry ([.ref b]) (n := 4) (Nat.le_of_ble_eq_true rfl)
  rw [lg_entry_eq]
  generalize (lg_sl ([.ref b]) ++ List.replicate (4 - (lg_sl ([.ref b])).length) Slot.unset).toArray = ls at hl ⊢
  have hl : lv_has ls 4 [(0, .ref b)] := hl
  have C : Cx (p, l, e, room_1, s, m, #[Value.ref b], below, meth, c, lw_Z below #[Value.ref b] s, (fun k => (zc k).1), (fun k => (zc k).2), dA, ad, 0) (yl meth.name) cL_law 4 30 119 :=
    ⟨hx, hb, hml, hown, hgw, hlocks, rfl, hKt, hSt, Nat.zero_le _, by decide, Nat.le_of_ble_eq_true rfl, Nat.le_trans (Nat.sub_le _ _) sl_all, Nat.le_of_ble_eq_true rfl, Nat.le_of_ble_eq_true rfl, by rw [ad0]; exact Nat.le_refl _⟩
  have S : Scr (p, l, e, room_1, s, m, #[Value.ref b], below, meth, c, lw_Z below #[Value.ref b] s, (fun k => (zc k).1), (fun k => (zc k).2), dA, ad, 0) L xs := ⟨by rw [adb]; exact hX, by rw [adb]; exact hbl, ad0⟩
  have KE : ∀ (i : Nat) (ρ : Rho) (I : Mem), G (p, l, e, room_1, s, m, #[Value.ref b], below, meth, c, lw_Z below #[Value.ref b] s, (fun k => (zc k).1), (fun k => (zc k).2), dA, ad, 0) 119 ρ 1294 (LV i) [] I := by
    intro i ρ I
    refine g_iconst C (pc := 1294) 1 dL_law_1294 (by decide) ?_
    intro h0 H locs ls hW hS9 hl9
    refine va_forget (fun q hq => by have := hS9.2.2 q hq; rw [← ad0]; exact this) ?_
    refine W.widen (k := 600000) (n := 7302249) (Nat.le_of_ble_eq_true rfl) (Nat.le_trans (Nat.sub_le _ _) sl_all) ?_
    exact lw_ret hx hb hr hlocks dL_law_1295
  have hlv : lv_has ls c.maxLocals (lvc ad [(0, .ref 2000)]) := by
    rw [hml]
    show lv_has ls 4 [(0, .ref (ad 2000))]
    rw [adb]
    exact hl
  have hG := law_start C S hL KE (fun _ _ => none) (fun _ _ => 0) (Nat.le_refl 0) s.heap [] ls ⟨ad0.symm, fun i hi => absurd hi (Nat.not_lt_zero i)⟩ va_S.rf hlv
  exact hG
