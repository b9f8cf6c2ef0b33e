/-! ===== the abstract machine: objects by their numbers, contents by two functions; a row an instruction, over the kit's rows ===== -/
def GW : List Cond := lw_tbl.filter goodWord
theorem GW_in {w : Cond} (i : Nat) (h : lw_tbl[i]? = some w) (hg : goodWord w = true) : w ∈ GW := List.mem_filter.mpr ⟨List.mem_of_getElem? h, hg⟩
theorem GW_tbl {w : Cond} (h : w ∈ GW) : w ∈ lw_tbl := (List.mem_filter.mp h).1
theorem GW_good {w : Cond} (h : w ∈ GW) : (w.onTables && w.keeps) = true ∨ ∃ ty, w = .arrayClass ty := good_of_word (List.mem_filter.mp h).2
def nestL : List (String × Nat × MethodName × String) := [("WeatherChess", 9, ⟨"WeatherChess$Game", "<init>", "()V"⟩, "WeatherChess"), ("WeatherChess$Game", 11, ⟨"WeatherChess$Roofs", "<init>", "()V"⟩, "WeatherChess"), ("WeatherChess$Game", 20, ⟨"WeatherChess$Stand", "<init>", "()V"⟩, "WeatherChess"), ("WeatherChess", 26, ⟨"WeatherChess$Tape", "<init>", "()V"⟩, "WeatherChess"), ("WeatherChess$Tape", 17, ⟨"WeatherChess$Game", "<init>", "()V"⟩, "WeatherChess"), ("WeatherChess$Step", 11, ⟨"WeatherChess$Stand", "<init>", "()V"⟩, "WeatherChess"), ("WeatherChess", 41, ⟨"WeatherChess$Rows", "<init>", "()V"⟩, "WeatherChess"), ("WeatherChess$Rows", 11, ⟨"WeatherChess$Reached", "<init>", "()V"⟩, "WeatherChess"), ("WeatherChess$Reached", 3, ⟨"WeatherChess$Ending", "<init>", "()V"⟩, "WeatherChess"), ("WeatherChess$Rows", 20, ⟨"WeatherChess$AsSeen", "<init>", "()V"⟩, "WeatherChess"), ("WeatherChess$AsSeen", 3, ⟨"WeatherChess$Ending", "<init>", "()V"⟩, "WeatherChess"), ("WeatherChess", 48, ⟨"WeatherChess$Blowing", "<init>", "()V"⟩, "WeatherChess"), ("WeatherChess", 62, ⟨"WeatherChess$Stand", "<init>", "()V"⟩, "WeatherChess"), ("WeatherChess$Stand", 37, ⟨"WeatherChess", "isSide", "(I)Z"⟩, "WeatherChess"), ("WeatherChess$Rows", 53, ⟨"WeatherChess", "countRows", "(LWeatherChess$Rows;LWeatherChess$Ending;LWeatherChess$Roofs;LWeatherChess$Step;I)I"⟩, "WeatherChess"), ("WeatherChess$AsSeen", 36, ⟨"WeatherChess", "isSide", "(I)Z"⟩, "WeatherChess"), ("WeatherChess$Blowing", 27, ⟨"WeatherChess", "power", "(II)J"⟩, "WeatherChess"), ("WeatherChess$Blowing", 55, ⟨"WeatherChess", "canTake", "(LWeatherChess$Roofs;ILWeatherChess$Step;[III)Z"⟩, "WeatherChess"), ("WeatherChess$Sheets", 23, ⟨"WeatherChess", "isSheet", "(I)Z"⟩, "WeatherChess")]
def declN : MethodName := ⟨"WeatherChess$Ending", "mayCome", "(LWeatherChess$Stand;I)Z"⟩
abbrev Mem : Type := Nat → Nat → Int32
abbrev Rho : Type := Nat → Nat → Option Nat
def SH : List (Nat × Nat) := [(20, 11), (12, 8), (14, 7), (0, 6), (0, 6), (0, 5), (17, 4), (0, 6), (0, 6), (0, 2), (0, 8), (0, 8), (0, 3), (3, 2), (1, 2), (19, 13), (2, 320), (12, 8), (14, 7), (0, 6), (0, 6), (0, 5), (17, 4), (0, 6), (0, 6), (0, 2), (0, 8), (0, 8), (0, 3), (18, 5), (17, 4), (0, 6), (0, 6), (0, 2), (0, 24), (18, 5), (17, 4), (0, 6), (0, 6), (0, 2), (0, 24), (18, 5), (17, 4), (0, 6), (0, 6), (0, 2), (0, 24), (18, 5), (17, 4), (0, 6), (0, 6), (0, 2), (0, 24), (15, 7), (13, 2), (10, 2), (0, 2), (0, 3), (11, 3), (0, 3), (0, 3), (16, 3), (0, 4), (0, 4), (4, 4), (0, 40), (0, 40), (0, 40), (0, 40), (17, 4), (0, 6), (0, 6), (0, 2), (12, 8), (14, 7), (0, 6), (0, 6), (0, 5), (17, 4), (0, 6), (0, 6), (0, 2), (0, 8), (0, 8), (0, 3), (12, 8), (14, 7), (0, 6), (0, 6), (0, 5), (17, 4), (0, 6), (0, 6), (0, 2), (0, 8), (0, 8), (0, 3), (21, 43), (0, 123), (1, 2), (0, 6), (0, 6), (0, 41), (0, 6), (0, 6), (0, 320), (0, 6), (0, 6), (0, 256), (0, 4), (0, 52), (0, 3), (0, 3), (0, 3), (0, 3), (0, 4), (0, 4), (0, 160), (0, 20)]
def shp (i : Nat) : Nat × Nat := SH.getD i (9, 0)
def refL : List (Nat × Nat) := [(0, 0), (1, 0), (1, 1), (2, 0), (2, 1), (2, 2), (2, 3), (2, 4), (3, 0), (3, 1), (4, 0), (4, 1), (4, 2), (5, 0), (5, 1), (5, 2), (5, 3), (6, 0), (6, 1), (6, 2), (7, 0), (7, 1), (7, 2), (8, 0), (8, 1), (8, 2), (9, 0), (9, 1), (10, 0), (10, 1), (10, 2), (10, 3), (10, 4), (10, 5), (10, 6), (10, 7), (10, 8), (11, 0), (11, 1), (11, 5), (11, 6), (11, 7), (11, 11), (11, 12), (11, 15), (11, 23), (11, 24), (11, 26), (11, 27), (11, 28), (11, 30), (11, 31), (11, 32), (11, 33), (11, 38), (11, 39), (11, 40), (11, 42)]
def refF (c k : Nat) : Bool := decide ((c, k) ∈ refL)
def sl (n : Nat) : Nat := ((SH.take n).map (fun q => q.2)).sum
def wrA (I : Mem) (i : Nat) (f : Nat → Int32) : Mem := fun a => if a = i then f else I a
def wr (I : Mem) (i k : Nat) (x : Int32) : Mem := wrA I i (upd (I i) k x)
def rwr (ρ : Rho) (i k : Nat) (v : Option Nat) : Rho := fun a b => if a = i ∧ b = k then v else ρ a b
theorem wrA_s {I : Mem} {i : Nat} {f : Nat → Int32} : wrA I i f i = f := if_pos rfl
theorem wrA_n {I : Mem} {i a : Nat} {f : Nat → Int32} (h : a ≠ i) : wrA I i f a = I a := if_neg h
theorem wr_s {I : Mem} {i k : Nat} {x : Int32} : wr I i k x i = upd (I i) k x := if_pos rfl
theorem wr_n {I : Mem} {i a k : Nat} {x : Int32} (h : a ≠ i) : wr I i k x a = I a := if_neg h
theorem wr_ss {I : Mem} {i k : Nat} {x : Int32} : wr I i k x i k = x := by rw [wr_s]; exact if_pos rfl
theorem wr_sn {I : Mem} {i k j : Nat} {x : Int32} (h : j ≠ k) : wr I i k x i j = I i j := by rw [wr_s]; exact if_neg h
theorem rwr_s {ρ : Rho} {i k : Nat} {v : Option Nat} : rwr ρ i k v i k = v := if_pos ⟨rfl, rfl⟩
theorem rwr_n {ρ : Rho} {i k a b : Nat} {v : Option Nat} (h : ¬ (a = i ∧ b = k)) : rwr ρ i k v a b = ρ a b := if_neg h
theorem upd_s {f : Nat → Int32} {k : Nat} {x : Int32} : upd f k x k = x := if_pos rfl
theorem upd_n {f : Nat → Int32} {k j : Nat} {x : Int32} (h : j ≠ k) : upd f k x j = f j := if_neg h
/-- an object, as the heap holds it -/
def atI (dC : Nat → ClassId) (dI : Nat → Nat → Nat) (dA : Nat → ClassId) (ad : Nat → Nat) (ρ : Rho) (I : Mem) (i : Nat) (H : Heap) : Prop :=
  if (shp i).1 < 3 then H[ad i]? = some (arrV (dA (shp i).1) (shp i).2 (fun j => .int (I i j)))
  else if (shp i).1 < 10 then H[ad i]? = some (arrV (dA (shp i).1) (shp i).2 (fun j => va_rf ((ρ i j).map ad)))
  else t_OB (ad i) (dC ((shp i).1 - 10)) (shp i).2 (dI ((shp i).1 - 10)) H (fun k => if refF ((shp i).1 - 10) k = true then va_rf ((ρ i k).map ad) else .int (I i k))
def Wo (dC : Nat → ClassId) (dI : Nat → Nat → Nat) (dA : Nat → ClassId) (ad : Nat → Nat) (n : Nat) (ρ : Rho) (I : Mem) (H : Heap) : Prop :=
  H.size = ad n ∧ ∀ i, i < n → atI dC dI dA ad ρ I i H
def tysOf (dA : Nat → ClassId) : List (ClassId × FieldType) := [(dA 0, .int), (dA 1, .boolean), (dA 2, .byte), (dA 3, .object "WeatherChess$Game"), (dA 4, .array .int)]
def strL : List (Nat × String) := [(64, "board"), (73, "steeple"), (78, "piece"), (83, "odds"), (88, "turn"), (163, "king"), (165, "man"), (167, "runner"), (169, "sparrow")]
/-- what the machine's state gives throughout: the classes, the words of calls between nest mates, where the world lies -/
def Kt (dC : Nat → ClassId) (dI : Nat → Nat → Nat) (dA : Nat → ClassId) (ad : Nat → Nat) (U : State) : Prop :=
  va_K (dC, dI) vwCl (tysOf dA) U ∧ (∀ i q, strL[i]? = some q → vk_R "WeatherChess$Tape" q.1 q.2 (ad (1000 + i)) U) ∧ (∀ q ∈ nestL, va_Nw (.methodLinkNest q.1 q.2.1 q.2.2.1 q.2.2.2) U) ∧ va_Nw (.declares declN) U ∧ va_AO "WeatherChess$Game" U ∧ va_Nw (.arrayOver (.array .int)) U ∧ (∀ i, i < 1000 → ad i = ad 0 + i)
def strN : List Nat := strL.map (fun q => q.2.toList.length)
def strB : List (List Int32) := strL.map (fun q => q.2.toList.map (fun ch => Int32.ofNat ch.toNat))
/-- the String constants, as the heap holds them *below* the world -/
def StrH (ad : Nat → Nat) (U : State) (H : Heap) : Prop := vk_S 9 strN strB (fun i => ad (1000 + i)) (fun i => ad (1100 + i)) (fun q => ad 0 ≤ q) U H ∧ va_Z "java/lang/String" "COMPACT_STRINGS" "Z" (.int 1) (fun q => ad 0 ≤ q) U H ∧ (va_Z "jdk/internal/util/Preconditions" "SIOOBE_FORMATTER" "Ljava/util/function/BiFunction;" .null (fun q => ad 0 ≤ q) U H ∨ va_Z "jdk/internal/util/Preconditions" "SIOOBE_FORMATTER" "Ljava/util/function/BiFunction;" (.ref (ad 1200)) (fun q => ad 0 ≤ q) U H)
def cvV (ad : Nat → Nat) : Value → Value
  | .ref i => .ref (ad i)
  | v => v
theorem cvV_cat (ad : Nat → Nat) (v : Value) : (cvV ad v).category = v.category := by cases v <;> rfl
theorem cvV_rf (ad : Nat → Nat) (r : Option Nat) : va_rf (r.map ad) = cvV ad (va_rf r) := by cases r <;> rfl
abbrev Kap : Type := Program × Launch × Env × Room × State × MethodId × Array Value × List Frame × Method × Code × (State → Prop) × (Nat → ClassId) × (Nat → Nat → Nat) × (Nat → ClassId) × (Nat → Nat) × Nat
def lvc (ad : Nat → Nat) (lv : List (Nat × Value)) : List (Nat × Value) := lv.map (fun q => (q.1, cvV ad q.2))
/-- the machine at pc, with these locals, this stack, this world, comes to its end -/
def G : Kap → Nat → Rho → Nat → List (Nat × Value) → List Value → Mem → Prop
  | (p, l, e, R, s, m, args, below, meth, c, Q, dC, dI, dA, ad, n0), n, ρ, pc, lv, st, I =>
    n0 ≤ n → ∀ (H : Heap) (locs : List Loc) (ls : Array Slot), Wo dC dI dA ad n ρ I H → va_S (fun q => ad 0 ≤ q) s.heap H locs → lv_has ls c.maxLocals (lvc ad lv) →
      W p l e R s m args below meth c H locs (n - n0) (sl n - sl n0) Q (F0 m pc ls (st.map (cvV ad)))
/-- what holds throughout a method -/
def Cx : Kap → MethodName → ByteArray → Nat → Nat → Nat → Prop
  | (p, l, e, R, s, m, args, below, meth, c, Q, dC, dI, dA, ad, n0), y, cc, nL, d, n1 =>
    p.tables.exec = Jvm.exec ∧ c.code = cc ∧ c.maxLocals = nL ∧ s.vm.findClass y.cls = some m.cls ∧ (∀ w ∈ GW, w.before args s = true) ∧ meth.locks = false ∧ meth.name = y.name ∧ Kt dC dI dA ad s ∧ StrH ad s s.heap ∧
    n0 ≤ n1 ∧ n1 ≤ 999 ∧ n1 - n0 ≤ R.cells ∧ sl n1 - sl n0 ≤ R.slots ∧ d + 1 ≤ R.frames ∧ 40 * (d + 1) ≤ R.locals ∧ ad 0 ≤ s.heap.size
section GR
variable {κ : Kap} {y : MethodName} {cc : ByteArray} {nL d n1 n : Nat} {ρ : Rho} {pc : Nat} {lv : List (Nat × Value)} {st : List Value} {I : Mem}
theorem lvc_at {ad : Nat → Nat} {lv : List (Nat × Value)} {ls : Array Slot} {nL : Nat} (h : lv_has ls nL (lvc ad lv)) (k : Nat) {i : Nat} {v : Value} (hk : lv[k]? = some (i, v)) : ls[i]? = some (.val (cvV ad v)) :=
  lv_at h k (by unfold lvc; rw [List.getElem?_map, hk]; rfl)
theorem g_iconst (C : Cx κ y cc nL d n1) {z : Int} (v : Int32) (dg : decode cc pc = .ok (.iconst z, 1)) (hv : Int32.ofInt z = v) (K : G κ n ρ (pc + 1) lv (.int v :: st) I) : G κ n ρ pc lv st I := by
  obtain ⟨p, l, e, R, s, m, args, below, meth, c, Q, dC, dI, dA, ad, n0⟩ := κ
  obtain ⟨hx, hb, hml, -⟩ := C
  exact fun h0 H locs ls hW hS hl => lv_iconst hx hb dg hv (K h0 H locs ls hW hS hl)
theorem g_bipush (C : Cx κ y cc nL d n1) {z : Int} (v : Int32) (dg : decode cc pc = .ok (.bipush z, 2)) (hv : (Int8.ofInt z).toInt32 = v) (K : G κ n ρ (pc + 2) lv (.int v :: st) I) : G κ n ρ pc lv st I := by
  obtain ⟨p, l, e, R, s, m, args, below, meth, c, Q, dC, dI, dA, ad, n0⟩ := κ
  obtain ⟨hx, hb, hml, -⟩ := C
  exact fun h0 H locs ls hW hS hl => lv_bipush hx hb dg hv (K h0 H locs ls hW hS hl)
theorem g_sipush (C : Cx κ y cc nL d n1) {z : Int} (v : Int32) (dg : decode cc pc = .ok (.sipush z, 3)) (hv : (Int16.ofInt z).toInt32 = v) (K : G κ n ρ (pc + 3) lv (.int v :: st) I) : G κ n ρ pc lv st I := by
  obtain ⟨p, l, e, R, s, m, args, below, meth, c, Q, dC, dI, dA, ad, n0⟩ := κ
  obtain ⟨hx, hb, hml, -⟩ := C
  exact fun h0 H locs ls hW hS hl => lv_sipush hx hb dg hv (K h0 H locs ls hW hS hl)
theorem g_lconst (C : Cx κ y cc nL d n1) {z : Fin 2} (v : Int64) (dg : decode cc pc = .ok (.lconst z, 1)) (hv : Int64.ofNat (z : Nat) = v) (K : G κ n ρ (pc + 1) lv (.long v :: st) I) : G κ n ρ pc lv st I := by
  obtain ⟨p, l, e, R, s, m, args, below, meth, c, Q, dC, dI, dA, ad, n0⟩ := κ
  obtain ⟨hx, hb, hml, -⟩ := C
  exact fun h0 H locs ls hW hS hl => lv_lconst hx hb dg hv (K h0 H locs ls hW hS hl)
theorem g_iload_n (C : Cx κ y cc nL d n1) {k : Fin 4} {x : Int32} (dg : decode cc pc = .ok (.iload_n k, 1)) (j : Nat) (hl : lv[j]? = some ((k : Nat), .int x)) (K : G κ n ρ (pc + 1) lv (.int x :: st) I) : G κ n ρ pc lv st I := by
  obtain ⟨p, l, e, R, s, m, args, below, meth, c, Q, dC, dI, dA, ad, n0⟩ := κ
  obtain ⟨hx, hb, hml, -⟩ := C
  exact fun h0 H locs ls hW hS h => lv_iload_n hx hb dg rfl (lvc_at h j hl) (K h0 H locs ls hW hS h)
theorem g_iload (C : Cx κ y cc nL d n1) {i : Nat} {x : Int32} (dg : decode cc pc = .ok (.iload i, 2)) (j : Nat) (hl : lv[j]? = some (i, .int x)) (K : G κ n ρ (pc + 2) lv (.int x :: st) I) : G κ n ρ pc lv st I := by
  obtain ⟨p, l, e, R, s, m, args, below, meth, c, Q, dC, dI, dA, ad, n0⟩ := κ
  obtain ⟨hx, hb, hml, -⟩ := C
  exact fun h0 H locs ls hW hS h => lv_iload hx hb dg (lvc_at h j hl) (K h0 H locs ls hW hS h)
theorem g_lload_n (C : Cx κ y cc nL d n1) {k : Fin 4} {x : Int64} (dg : decode cc pc = .ok (.lload_n k, 1)) (j : Nat) (hl : lv[j]? = some ((k : Nat), .long x)) (K : G κ n ρ (pc + 1) lv (.long x :: st) I) : G κ n ρ pc lv st I := by
  obtain ⟨p, l, e, R, s, m, args, below, meth, c, Q, dC, dI, dA, ad, n0⟩ := κ
  obtain ⟨hx, hb, hml, -⟩ := C
  exact fun h0 H locs ls hW hS h => lv_lload_n hx hb dg rfl (lvc_at h j hl) (K h0 H locs ls hW hS h)
theorem g_lload (C : Cx κ y cc nL d n1) {i : Nat} {x : Int64} (dg : decode cc pc = .ok (.lload i, 2)) (j : Nat) (hl : lv[j]? = some (i, .long x)) (K : G κ n ρ (pc + 2) lv (.long x :: st) I) : G κ n ρ pc lv st I := by
  obtain ⟨p, l, e, R, s, m, args, below, meth, c, Q, dC, dI, dA, ad, n0⟩ := κ
  obtain ⟨hx, hb, hml, -⟩ := C
  exact fun h0 H locs ls hW hS h => lv_lload hx hb dg (lvc_at h j hl) (K h0 H locs ls hW hS h)
theorem g_aload_n (C : Cx κ y cc nL d n1) {k : Fin 4} {x : Nat} (dg : decode cc pc = .ok (.aload_n k, 1)) (j : Nat) (hl : lv[j]? = some ((k : Nat), .ref x)) (K : G κ n ρ (pc + 1) lv (.ref x :: st) I) : G κ n ρ pc lv st I := by
  obtain ⟨p, l, e, R, s, m, args, below, meth, c, Q, dC, dI, dA, ad, n0⟩ := κ
  obtain ⟨hx, hb, hml, -⟩ := C
  exact fun h0 H locs ls hW hS h => lv_aload_n hx hb dg rfl (lvc_at h j hl) (K h0 H locs ls hW hS h)
theorem g_aload (C : Cx κ y cc nL d n1) {i : Nat} {x : Nat} (dg : decode cc pc = .ok (.aload i, 2)) (j : Nat) (hl : lv[j]? = some (i, .ref x)) (K : G κ n ρ (pc + 2) lv (.ref x :: st) I) : G κ n ρ pc lv st I := by
  obtain ⟨p, l, e, R, s, m, args, below, meth, c, Q, dC, dI, dA, ad, n0⟩ := κ
  obtain ⟨hx, hb, hml, -⟩ := C
  exact fun h0 H locs ls hW hS h => lv_aload hx hb dg (lvc_at h j hl) (K h0 H locs ls hW hS h)
theorem lvc_f1 (ad : Nat → Nat) (lv : List (Nat × Value)) (i : Nat) : (lvc ad lv).filter (fun q => !(q.1 == i) && !(q.1 + 1 == i && q.2.category == 2)) = lvc ad (lv.filter (fun q => !(q.1 == i) && !(q.1 + 1 == i && q.2.category == 2))) := by
  unfold lvc
  rw [List.filter_map]
  congr 1
  apply List.filter_congr
  intro q _
  simp only [Function.comp_apply, cvV_cat]
theorem lvc_f2 (ad : Nat → Nat) (lv : List (Nat × Value)) (i : Nat) : (lvc ad lv).filter (fun q => !(q.1 == i) && (!(q.1 == i + 1) && !(q.1 + 1 == i && q.2.category == 2))) = lvc ad (lv.filter (fun q => !(q.1 == i) && (!(q.1 == i + 1) && !(q.1 + 1 == i && q.2.category == 2)))) := by
  unfold lvc
  rw [List.filter_map]
  congr 1
  apply List.filter_congr
  intro q _
  simp only [Function.comp_apply, cvV_cat]
/-- the locals behind a store of one word, of two words -/
def st1 (lv : List (Nat × Value)) (i : Nat) (v : Value) : List (Nat × Value) := (i, v) :: lv.filter (fun q => !(q.1 == i) && !(q.1 + 1 == i && q.2.category == 2))
def st2 (lv : List (Nat × Value)) (i : Nat) (v : Value) : List (Nat × Value) := (i, v) :: lv.filter (fun q => !(q.1 == i) && (!(q.1 == i + 1) && !(q.1 + 1 == i && q.2.category == 2)))
theorem g_istore_n (C : Cx κ y cc nL d n1) {k : Fin 4} {x : Int32} (dg : decode cc pc = .ok (.istore_n k, 1)) (hn : (k : Nat) < nL) (lv' : Int32 → List (Nat × Value)) (hl : ∀ v, st1 lv k (.int v) = lv' v) (K : ∀ v, v = x → G κ n ρ (pc + 1) (lv' v) st I) : G κ n ρ pc lv (.int x :: st) I := by
  obtain ⟨p, l, e, R, s, m, args, below, meth, c, Q, dC, dI, dA, ad, n0⟩ := κ
  obtain ⟨hx, hb, hml, -⟩ := C
  refine fun h0 H locs ls hW hS h => lv_istore_n hx hb dg rfl h (by rw [hml]; exact hn) rfl fun ls' h' => K x rfl h0 H locs ls' hW hS ?_
  rw [← hl x]; rw [lvc_f1] at h'; exact h'
theorem g_istore (C : Cx κ y cc nL d n1) {i : Nat} {x : Int32} (dg : decode cc pc = .ok (.istore i, 2)) (hn : i < nL) (lv' : Int32 → List (Nat × Value)) (hl : ∀ v, st1 lv i (.int v) = lv' v) (K : ∀ v, v = x → G κ n ρ (pc + 2) (lv' v) st I) : G κ n ρ pc lv (.int x :: st) I := by
  obtain ⟨p, l, e, R, s, m, args, below, meth, c, Q, dC, dI, dA, ad, n0⟩ := κ
  obtain ⟨hx, hb, hml, -⟩ := C
  refine fun h0 H locs ls hW hS h => lv_istore hx hb dg h (by rw [hml]; exact hn) rfl fun ls' h' => K x rfl h0 H locs ls' hW hS ?_
  rw [← hl x]; rw [lvc_f1] at h'; exact h'
theorem g_lstore_n (C : Cx κ y cc nL d n1) {k : Fin 4} {x : Int64} (dg : decode cc pc = .ok (.lstore_n k, 1)) (hn : (k : Nat) + 1 < nL) (lv' : Int64 → List (Nat × Value)) (hl : ∀ v, st2 lv k (.long v) = lv' v) (K : ∀ v, v = x → G κ n ρ (pc + 1) (lv' v) st I) : G κ n ρ pc lv (.long x :: st) I := by
  obtain ⟨p, l, e, R, s, m, args, below, meth, c, Q, dC, dI, dA, ad, n0⟩ := κ
  obtain ⟨hx, hb, hml, -⟩ := C
  refine fun h0 H locs ls hW hS h => lv_lstore_n hx hb dg rfl h (by rw [hml]; exact hn) rfl fun ls' h' => K x rfl h0 H locs ls' hW hS ?_
  rw [← hl x]; rw [lvc_f2] at h'; exact h'
theorem g_lstore (C : Cx κ y cc nL d n1) {i : Nat} {x : Int64} (dg : decode cc pc = .ok (.lstore i, 2)) (hn : i + 1 < nL) (lv' : Int64 → List (Nat × Value)) (hl : ∀ v, st2 lv i (.long v) = lv' v) (K : ∀ v, v = x → G κ n ρ (pc + 2) (lv' v) st I) : G κ n ρ pc lv (.long x :: st) I := by
  obtain ⟨p, l, e, R, s, m, args, below, meth, c, Q, dC, dI, dA, ad, n0⟩ := κ
  obtain ⟨hx, hb, hml, -⟩ := C
  refine fun h0 H locs ls hW hS h => lv_lstore hx hb dg h (by rw [hml]; exact hn) rfl fun ls' h' => K x rfl h0 H locs ls' hW hS ?_
  rw [← hl x]; rw [lvc_f2] at h'; exact h'
theorem g_astore_n (C : Cx κ y cc nL d n1) {k : Fin 4} {x : Nat} (dg : decode cc pc = .ok (.astore_n k, 1)) (hn : (k : Nat) < nL) {lv' : List (Nat × Value)} (hl : st1 lv k (.ref x) = lv') (K : G κ n ρ (pc + 1) lv' st I) : G κ n ρ pc lv (.ref x :: st) I := by
  obtain ⟨p, l, e, R, s, m, args, below, meth, c, Q, dC, dI, dA, ad, n0⟩ := κ
  obtain ⟨hx, hb, hml, -⟩ := C
  refine fun h0 H locs ls hW hS h => lv_astore_n hx hb dg rfl h (by rw [hml]; exact hn) rfl fun ls' h' => K h0 H locs ls' hW hS ?_
  rw [← hl]; rw [lvc_f1] at h'; exact h'
theorem g_astore (C : Cx κ y cc nL d n1) {i : Nat} {x : Nat} (dg : decode cc pc = .ok (.astore i, 2)) (hn : i < nL) {lv' : List (Nat × Value)} (hl : st1 lv i (.ref x) = lv') (K : G κ n ρ (pc + 2) lv' st I) : G κ n ρ pc lv (.ref x :: st) I := by
  obtain ⟨p, l, e, R, s, m, args, below, meth, c, Q, dC, dI, dA, ad, n0⟩ := κ
  obtain ⟨hx, hb, hml, -⟩ := C
  refine fun h0 H locs ls hW hS h => lv_astore hx hb dg h (by rw [hml]; exact hn) rfl fun ls' h' => K h0 H locs ls' hW hS ?_
  rw [← hl]; rw [lvc_f1] at h'; exact h'
theorem g_iinc (C : Cx κ y cc nL d n1) {i : Nat} {z : Int} {x : Int32} (w : Int32) (dg : decode cc pc = .ok (.iinc i z, 3)) (j : Nat) (hj : lv[j]? = some (i, .int x)) (hw : Int32.ofInt z = w) (hn : i < nL) (lv' : Int32 → List (Nat × Value)) (hl : ∀ v, st1 lv i (.int v) = lv' v) (K : ∀ v, v = x + w → G κ n ρ (pc + 3) (lv' v) st I) : G κ n ρ pc lv st I := by
  obtain ⟨p, l, e, R, s, m, args, below, meth, c, Q, dC, dI, dA, ad, n0⟩ := κ
  obtain ⟨hx, hb, hml, -⟩ := C
  refine fun h0 H locs ls hW hS h => lv_iinc (k := j) (x := x) hx hb dg h (by unfold lvc; rw [List.getElem?_map, hj]; rfl) rfl (by rw [hml]; exact hn) rfl fun ls' h' => K (x + Int32.ofInt z) (by rw [hw]) h0 H locs ls' hW hS ?_
  rw [← hl]; rw [lvc_f1] at h'; exact h'
theorem g_iadd (C : Cx κ y cc nL d n1) {x y0 : Int32} (dg : decode cc pc = .ok (.iadd, 1)) (K : G κ n ρ (pc + 1) lv (.int (x + y0) :: st) I) : G κ n ρ pc lv (.int y0 :: .int x :: st) I := by
  obtain ⟨p, l, e, R, s, m, args, below, meth, c, Q, dC, dI, dA, ad, n0⟩ := κ
  obtain ⟨hx, hb, hml, -⟩ := C
  exact fun h0 H locs ls hW hS hl => lv_iadd hx hb dg (K h0 H locs ls hW hS hl)
theorem g_isub (C : Cx κ y cc nL d n1) {x y0 : Int32} (dg : decode cc pc = .ok (.isub, 1)) (K : G κ n ρ (pc + 1) lv (.int (x - y0) :: st) I) : G κ n ρ pc lv (.int y0 :: .int x :: st) I := by
  obtain ⟨p, l, e, R, s, m, args, below, meth, c, Q, dC, dI, dA, ad, n0⟩ := κ
  obtain ⟨hx, hb, hml, -⟩ := C
  exact fun h0 H locs ls hW hS hl => lv_isub hx hb dg (K h0 H locs ls hW hS hl)
theorem g_imul (C : Cx κ y cc nL d n1) {x y0 : Int32} (dg : decode cc pc = .ok (.imul, 1)) (K : G κ n ρ (pc + 1) lv (.int (x * y0) :: st) I) : G κ n ρ pc lv (.int y0 :: .int x :: st) I := by
  obtain ⟨p, l, e, R, s, m, args, below, meth, c, Q, dC, dI, dA, ad, n0⟩ := κ
  obtain ⟨hx, hb, hml, -⟩ := C
  exact fun h0 H locs ls hW hS hl => lv_imul hx hb dg (K h0 H locs ls hW hS hl)
theorem g_iand (C : Cx κ y cc nL d n1) {x y0 : Int32} (dg : decode cc pc = .ok (.iand, 1)) (K : G κ n ρ (pc + 1) lv (.int (x &&& y0) :: st) I) : G κ n ρ pc lv (.int y0 :: .int x :: st) I := by
  obtain ⟨p, l, e, R, s, m, args, below, meth, c, Q, dC, dI, dA, ad, n0⟩ := κ
  obtain ⟨hx, hb, hml, -⟩ := C
  exact fun h0 H locs ls hW hS hl => lv_iand hx hb dg (K h0 H locs ls hW hS hl)
theorem g_ior (C : Cx κ y cc nL d n1) {x y0 : Int32} (dg : decode cc pc = .ok (.ior, 1)) (K : G κ n ρ (pc + 1) lv (.int (x ||| y0) :: st) I) : G κ n ρ pc lv (.int y0 :: .int x :: st) I := by
  obtain ⟨p, l, e, R, s, m, args, below, meth, c, Q, dC, dI, dA, ad, n0⟩ := κ
  obtain ⟨hx, hb, hml, -⟩ := C
  exact fun h0 H locs ls hW hS hl => lv_ior hx hb dg (K h0 H locs ls hW hS hl)
theorem g_ixor (C : Cx κ y cc nL d n1) {x y0 : Int32} (dg : decode cc pc = .ok (.ixor, 1)) (K : G κ n ρ (pc + 1) lv (.int (x ^^^ y0) :: st) I) : G κ n ρ pc lv (.int y0 :: .int x :: st) I := by
  obtain ⟨p, l, e, R, s, m, args, below, meth, c, Q, dC, dI, dA, ad, n0⟩ := κ
  obtain ⟨hx, hb, hml, -⟩ := C
  exact fun h0 H locs ls hW hS hl => lv_ixor hx hb dg (K h0 H locs ls hW hS hl)
theorem g_ladd (C : Cx κ y cc nL d n1) {x y0 : Int64} (dg : decode cc pc = .ok (.ladd, 1)) (K : G κ n ρ (pc + 1) lv (.long (x + y0) :: st) I) : G κ n ρ pc lv (.long y0 :: .long x :: st) I := by
  obtain ⟨p, l, e, R, s, m, args, below, meth, c, Q, dC, dI, dA, ad, n0⟩ := κ
  obtain ⟨hx, hb, hml, -⟩ := C
  exact fun h0 H locs ls hW hS hl => lv_ladd hx hb dg (K h0 H locs ls hW hS hl)
theorem g_lsub (C : Cx κ y cc nL d n1) {x y0 : Int64} (dg : decode cc pc = .ok (.lsub, 1)) (K : G κ n ρ (pc + 1) lv (.long (x - y0) :: st) I) : G κ n ρ pc lv (.long y0 :: .long x :: st) I := by
  obtain ⟨p, l, e, R, s, m, args, below, meth, c, Q, dC, dI, dA, ad, n0⟩ := κ
  obtain ⟨hx, hb, hml, -⟩ := C
  exact fun h0 H locs ls hW hS hl => lv_lsub hx hb dg (K h0 H locs ls hW hS hl)
theorem g_lmul (C : Cx κ y cc nL d n1) {x y0 : Int64} (dg : decode cc pc = .ok (.lmul, 1)) (K : G κ n ρ (pc + 1) lv (.long (x * y0) :: st) I) : G κ n ρ pc lv (.long y0 :: .long x :: st) I := by
  obtain ⟨p, l, e, R, s, m, args, below, meth, c, Q, dC, dI, dA, ad, n0⟩ := κ
  obtain ⟨hx, hb, hml, -⟩ := C
  exact fun h0 H locs ls hW hS hl => lv_lmul hx hb dg (K h0 H locs ls hW hS hl)
theorem g_land (C : Cx κ y cc nL d n1) {x y0 : Int64} (dg : decode cc pc = .ok (.land, 1)) (K : G κ n ρ (pc + 1) lv (.long (x &&& y0) :: st) I) : G κ n ρ pc lv (.long y0 :: .long x :: st) I := by
  obtain ⟨p, l, e, R, s, m, args, below, meth, c, Q, dC, dI, dA, ad, n0⟩ := κ
  obtain ⟨hx, hb, hml, -⟩ := C
  exact fun h0 H locs ls hW hS hl => lv_land hx hb dg (K h0 H locs ls hW hS hl)
theorem g_lor (C : Cx κ y cc nL d n1) {x y0 : Int64} (dg : decode cc pc = .ok (.lor, 1)) (K : G κ n ρ (pc + 1) lv (.long (x ||| y0) :: st) I) : G κ n ρ pc lv (.long y0 :: .long x :: st) I := by
  obtain ⟨p, l, e, R, s, m, args, below, meth, c, Q, dC, dI, dA, ad, n0⟩ := κ
  obtain ⟨hx, hb, hml, -⟩ := C
  exact fun h0 H locs ls hW hS hl => lv_lor hx hb dg (K h0 H locs ls hW hS hl)
theorem g_idiv (C : Cx κ y cc nL d n1) {x y0 : Int32} (dg : decode cc pc = .ok (.idiv, 1)) (hne : ¬ y0 = 0) (K : G κ n ρ (pc + 1) lv (.int (x / y0) :: st) I) : G κ n ρ pc lv (.int y0 :: .int x :: st) I := by
  obtain ⟨p, l, e, R, s, m, args, below, meth, c, Q, dC, dI, dA, ad, n0⟩ := κ
  obtain ⟨hx, hb, hml, -⟩ := C
  exact fun h0 H locs ls hW hS hl => lv_idiv hx hb dg hne (K h0 H locs ls hW hS hl)
theorem g_irem (C : Cx κ y cc nL d n1) {x y0 : Int32} (dg : decode cc pc = .ok (.irem, 1)) (hne : ¬ y0 = 0) (K : G κ n ρ (pc + 1) lv (.int (x - x / y0 * y0) :: st) I) : G κ n ρ pc lv (.int y0 :: .int x :: st) I := by
  obtain ⟨p, l, e, R, s, m, args, below, meth, c, Q, dC, dI, dA, ad, n0⟩ := κ
  obtain ⟨hx, hb, hml, -⟩ := C
  exact fun h0 H locs ls hW hS hl => lv_irem hx hb dg hne (K h0 H locs ls hW hS hl)
theorem g_ldiv (C : Cx κ y cc nL d n1) {x y0 : Int64} (dg : decode cc pc = .ok (.ldiv, 1)) (hne : ¬ y0 = 0) (K : G κ n ρ (pc + 1) lv (.long (x / y0) :: st) I) : G κ n ρ pc lv (.long y0 :: .long x :: st) I := by
  obtain ⟨p, l, e, R, s, m, args, below, meth, c, Q, dC, dI, dA, ad, n0⟩ := κ
  obtain ⟨hx, hb, hml, -⟩ := C
  exact fun h0 H locs ls hW hS hl => lv_ldiv hx hb dg hne (K h0 H locs ls hW hS hl)
theorem g_lrem (C : Cx κ y cc nL d n1) {x y0 : Int64} (dg : decode cc pc = .ok (.lrem, 1)) (hne : ¬ y0 = 0) (K : G κ n ρ (pc + 1) lv (.long (x - x / y0 * y0) :: st) I) : G κ n ρ pc lv (.long y0 :: .long x :: st) I := by
  obtain ⟨p, l, e, R, s, m, args, below, meth, c, Q, dC, dI, dA, ad, n0⟩ := κ
  obtain ⟨hx, hb, hml, -⟩ := C
  exact fun h0 H locs ls hW hS hl => lv_lrem hx hb dg hne (K h0 H locs ls hW hS hl)
theorem g_ineg (C : Cx κ y cc nL d n1) {x : Int32} (dg : decode cc pc = .ok (.ineg, 1)) (K : G κ n ρ (pc + 1) lv (.int (-x) :: st) I) : G κ n ρ pc lv (.int x :: st) I := by
  obtain ⟨p, l, e, R, s, m, args, below, meth, c, Q, dC, dI, dA, ad, n0⟩ := κ
  obtain ⟨hx, hb, hml, -⟩ := C
  exact fun h0 H locs ls hW hS hl => lv_ineg hx hb dg (K h0 H locs ls hW hS hl)
theorem g_ishl (C : Cx κ y cc nL d n1) {x y0 : Int32} (dg : decode cc pc = .ok (.ishl, 1)) (K : G κ n ρ (pc + 1) lv (.int (x <<< (y0 &&& 31)) :: st) I) : G κ n ρ pc lv (.int y0 :: .int x :: st) I := by
  obtain ⟨p, l, e, R, s, m, args, below, meth, c, Q, dC, dI, dA, ad, n0⟩ := κ
  obtain ⟨hx, hb, hml, -⟩ := C
  exact fun h0 H locs ls hW hS hl => lv_ishl hx hb dg (K h0 H locs ls hW hS hl)
theorem g_ishr (C : Cx κ y cc nL d n1) {x y0 : Int32} (dg : decode cc pc = .ok (.ishr, 1)) (K : G κ n ρ (pc + 1) lv (.int (x >>> (y0 &&& 31)) :: st) I) : G κ n ρ pc lv (.int y0 :: .int x :: st) I := by
  obtain ⟨p, l, e, R, s, m, args, below, meth, c, Q, dC, dI, dA, ad, n0⟩ := κ
  obtain ⟨hx, hb, hml, -⟩ := C
  exact fun h0 H locs ls hW hS hl => lv_ishr hx hb dg (K h0 H locs ls hW hS hl)
theorem g_iushr (C : Cx κ y cc nL d n1) {x y0 : Int32} (dg : decode cc pc = .ok (.iushr, 1)) (K : G κ n ρ (pc + 1) lv (.int (x.toUInt32 >>> (y0.toUInt32 &&& Int32.toUInt32 31)).toInt32 :: st) I) : G κ n ρ pc lv (.int y0 :: .int x :: st) I := by
  obtain ⟨p, l, e, R, s, m, args, below, meth, c, Q, dC, dI, dA, ad, n0⟩ := κ
  obtain ⟨hx, hb, hml, -⟩ := C
  exact fun h0 H locs ls hW hS hl => lv_iushr hx hb dg rfl (K h0 H locs ls hW hS hl)
theorem g_lushr (C : Cx κ y cc nL d n1) {x : Int64} {y0 : Int32} (dg : decode cc pc = .ok (.lushr, 1)) (K : G κ n ρ (pc + 1) lv (.long (x.toUInt64 >>> (y0.toInt64.toUInt64 &&& Int64.toUInt64 63)).toInt64 :: st) I) : G κ n ρ pc lv (.int y0 :: .long x :: st) I := by
  obtain ⟨p, l, e, R, s, m, args, below, meth, c, Q, dC, dI, dA, ad, n0⟩ := κ
  obtain ⟨hx, hb, hml, -⟩ := C
  exact fun h0 H locs ls hW hS hl => lv_lushr hx hb dg rfl (K h0 H locs ls hW hS hl)
theorem g_lshl (C : Cx κ y cc nL d n1) {x : Int64} {y0 : Int32} (dg : decode cc pc = .ok (.lshl, 1)) (K : G κ n ρ (pc + 1) lv (.long (x <<< (y0.toInt64 &&& 63)) :: st) I) : G κ n ρ pc lv (.int y0 :: .long x :: st) I := by
  obtain ⟨p, l, e, R, s, m, args, below, meth, c, Q, dC, dI, dA, ad, n0⟩ := κ
  obtain ⟨hx, hb, hml, -⟩ := C
  exact fun h0 H locs ls hW hS hl => lv_lshl hx hb dg rfl (K h0 H locs ls hW hS hl)
theorem g_lshr (C : Cx κ y cc nL d n1) {x : Int64} {y0 : Int32} (dg : decode cc pc = .ok (.lshr, 1)) (K : G κ n ρ (pc + 1) lv (.long (x >>> (y0.toInt64 &&& 63)) :: st) I) : G κ n ρ pc lv (.int y0 :: .long x :: st) I := by
  obtain ⟨p, l, e, R, s, m, args, below, meth, c, Q, dC, dI, dA, ad, n0⟩ := κ
  obtain ⟨hx, hb, hml, -⟩ := C
  exact fun h0 H locs ls hW hS hl => lv_lshr hx hb dg rfl (K h0 H locs ls hW hS hl)
theorem g_i2l (C : Cx κ y cc nL d n1) {x : Int32} (dg : decode cc pc = .ok (.i2l, 1)) (K : G κ n ρ (pc + 1) lv (.long x.toInt64 :: st) I) : G κ n ρ pc lv (.int x :: st) I := by
  obtain ⟨p, l, e, R, s, m, args, below, meth, c, Q, dC, dI, dA, ad, n0⟩ := κ
  obtain ⟨hx, hb, hml, -⟩ := C
  exact fun h0 H locs ls hW hS hl => lv_i2l hx hb dg rfl (K h0 H locs ls hW hS hl)
theorem g_l2i (C : Cx κ y cc nL d n1) {x : Int64} (dg : decode cc pc = .ok (.l2i, 1)) (K : G κ n ρ (pc + 1) lv (.int x.toInt32 :: st) I) : G κ n ρ pc lv (.long x :: st) I := by
  obtain ⟨p, l, e, R, s, m, args, below, meth, c, Q, dC, dI, dA, ad, n0⟩ := κ
  obtain ⟨hx, hb, hml, -⟩ := C
  exact fun h0 H locs ls hW hS hl => lv_l2i hx hb dg rfl (K h0 H locs ls hW hS hl)
theorem g_i2b (C : Cx κ y cc nL d n1) {x : Int32} (dg : decode cc pc = .ok (.i2b, 1)) (K : G κ n ρ (pc + 1) lv (.int x.toInt8.toInt32 :: st) I) : G κ n ρ pc lv (.int x :: st) I := by
  obtain ⟨p, l, e, R, s, m, args, below, meth, c, Q, dC, dI, dA, ad, n0⟩ := κ
  obtain ⟨hx, hb, hml, -⟩ := C
  exact fun h0 H locs ls hW hS hl => lv_i2b hx hb dg rfl (K h0 H locs ls hW hS hl)
theorem g_i2s (C : Cx κ y cc nL d n1) {x : Int32} (dg : decode cc pc = .ok (.i2s, 1)) (K : G κ n ρ (pc + 1) lv (.int x.toInt16.toInt32 :: st) I) : G κ n ρ pc lv (.int x :: st) I := by
  obtain ⟨p, l, e, R, s, m, args, below, meth, c, Q, dC, dI, dA, ad, n0⟩ := κ
  obtain ⟨hx, hb, hml, -⟩ := C
  exact fun h0 H locs ls hW hS hl => lv_i2s hx hb dg rfl (K h0 H locs ls hW hS hl)
theorem g_dup (C : Cx κ y cc nL d n1) {va : Value} (dg : decode cc pc = .ok (.dup, 1)) (hc : va.category = 1) (K : G κ n ρ (pc + 1) lv (va :: va :: st) I) : G κ n ρ pc lv (va :: st) I := by
  obtain ⟨p, l, e, R, s, m, args, below, meth, c, Q, dC, dI, dA, ad, n0⟩ := κ
  obtain ⟨hx, hb, hml, -⟩ := C
  exact fun h0 H locs ls hW hS hl => lv_dup hx hb dg ((cvV_cat ad va).trans hc) (K h0 H locs ls hW hS hl)
theorem g_pop (C : Cx κ y cc nL d n1) {va : Value} (dg : decode cc pc = .ok (.pop, 1)) (hc : va.category = 1) (K : G κ n ρ (pc + 1) lv st I) : G κ n ρ pc lv (va :: st) I := by
  obtain ⟨p, l, e, R, s, m, args, below, meth, c, Q, dC, dI, dA, ad, n0⟩ := κ
  obtain ⟨hx, hb, hml, -⟩ := C
  exact fun h0 H locs ls hW hS hl => lv_pop hx hb dg ((cvV_cat ad va).trans hc) (K h0 H locs ls hW hS hl)
theorem g_pop2 (C : Cx κ y cc nL d n1) {va : Value} (dg : decode cc pc = .ok (.pop2, 1)) (hc : va.category = 2) (K : G κ n ρ (pc + 1) lv st I) : G κ n ρ pc lv (va :: st) I := by
  obtain ⟨p, l, e, R, s, m, args, below, meth, c, Q, dC, dI, dA, ad, n0⟩ := κ
  obtain ⟨hx, hb, hml, -⟩ := C
  exact fun h0 H locs ls hW hS hl => lv_pop2_2 hx hb dg ((cvV_cat ad va).trans hc) (K h0 H locs ls hW hS hl)
theorem g_dup2 (C : Cx κ y cc nL d n1) {va vb : Value} (dg : decode cc pc = .ok (.dup2, 1)) (hc : va.category = 1) (hc2 : vb.category = 1) (K : G κ n ρ (pc + 1) lv (va :: vb :: va :: vb :: st) I) : G κ n ρ pc lv (va :: vb :: st) I := by
  obtain ⟨p, l, e, R, s, m, args, below, meth, c, Q, dC, dI, dA, ad, n0⟩ := κ
  obtain ⟨hx, hb, hml, -⟩ := C
  exact fun h0 H locs ls hW hS hl => lv_dup2_11 hx hb dg ((cvV_cat ad va).trans hc) ((cvV_cat ad vb).trans hc2) (K h0 H locs ls hW hS hl)
theorem g_dup_x1 (C : Cx κ y cc nL d n1) {va vb : Value} (dg : decode cc pc = .ok (.dup_x1, 1)) (hc : va.category = 1) (hc2 : vb.category = 1) (K : G κ n ρ (pc + 1) lv (va :: vb :: va :: st) I) : G κ n ρ pc lv (va :: vb :: st) I := by
  obtain ⟨p, l, e, R, s, m, args, below, meth, c, Q, dC, dI, dA, ad, n0⟩ := κ
  obtain ⟨hx, hb, hml, -⟩ := C
  exact fun h0 H locs ls hW hS hl => lv_dup_x1 hx hb dg ((cvV_cat ad va).trans hc) ((cvV_cat ad vb).trans hc2) (K h0 H locs ls hW hS hl)
theorem g_if_eq (C : Cx κ y cc nL d n1) {x : Int32} {off : Int} (tgt : Nat) (dg : decode cc pc = .ok (.ifCond .eq off, 3)) (ht : (pc : Int) + off = (tgt : Int)) (KT : x = 0 → G κ n ρ tgt lv st I) (KF : x ≠ 0 → G κ n ρ (pc + 3) lv st I) : G κ n ρ pc lv (.int x :: st) I := by
  obtain ⟨p, l, e, R, s, m, args, below, meth, c, Q, dC, dI, dA, ad, n0⟩ := κ
  obtain ⟨hx, hb, hml, -⟩ := C
  exact fun h0 H locs ls hW hS hl => lv_if_eq hx hb dg ht (fun h9 => KT h9 h0 H locs ls hW hS hl) (fun h9 => KF h9 h0 H locs ls hW hS hl)
theorem g_icmp_eq (C : Cx κ y cc nL d n1) {x y0 : Int32} {off : Int} (tgt : Nat) (dg : decode cc pc = .ok (.if_icmp .eq off, 3)) (ht : (pc : Int) + off = (tgt : Int)) (KT : x = y0 → G κ n ρ tgt lv st I) (KF : x ≠ y0 → G κ n ρ (pc + 3) lv st I) : G κ n ρ pc lv (.int y0 :: .int x :: st) I := by
  obtain ⟨p, l, e, R, s, m, args, below, meth, c, Q, dC, dI, dA, ad, n0⟩ := κ
  obtain ⟨hx, hb, hml, -⟩ := C
  exact fun h0 H locs ls hW hS hl => lv_icmp_eq hx hb dg ht (fun h9 => KT h9 h0 H locs ls hW hS hl) (fun h9 => KF h9 h0 H locs ls hW hS hl)
theorem g_if_ne (C : Cx κ y cc nL d n1) {x : Int32} {off : Int} (tgt : Nat) (dg : decode cc pc = .ok (.ifCond .ne off, 3)) (ht : (pc : Int) + off = (tgt : Int)) (KT : x ≠ 0 → G κ n ρ tgt lv st I) (KF : x = 0 → G κ n ρ (pc + 3) lv st I) : G κ n ρ pc lv (.int x :: st) I := by
  obtain ⟨p, l, e, R, s, m, args, below, meth, c, Q, dC, dI, dA, ad, n0⟩ := κ
  obtain ⟨hx, hb, hml, -⟩ := C
  exact fun h0 H locs ls hW hS hl => lv_if_ne hx hb dg ht (fun h9 => KT h9 h0 H locs ls hW hS hl) (fun h9 => KF h9 h0 H locs ls hW hS hl)
theorem g_icmp_ne (C : Cx κ y cc nL d n1) {x y0 : Int32} {off : Int} (tgt : Nat) (dg : decode cc pc = .ok (.if_icmp .ne off, 3)) (ht : (pc : Int) + off = (tgt : Int)) (KT : x ≠ y0 → G κ n ρ tgt lv st I) (KF : x = y0 → G κ n ρ (pc + 3) lv st I) : G κ n ρ pc lv (.int y0 :: .int x :: st) I := by
  obtain ⟨p, l, e, R, s, m, args, below, meth, c, Q, dC, dI, dA, ad, n0⟩ := κ
  obtain ⟨hx, hb, hml, -⟩ := C
  exact fun h0 H locs ls hW hS hl => lv_icmp_ne hx hb dg ht (fun h9 => KT h9 h0 H locs ls hW hS hl) (fun h9 => KF h9 h0 H locs ls hW hS hl)
theorem g_if_lt (C : Cx κ y cc nL d n1) {x : Int32} {off : Int} (tgt : Nat) (dg : decode cc pc = .ok (.ifCond .lt off, 3)) (ht : (pc : Int) + off = (tgt : Int)) (KT : x < 0 → G κ n ρ tgt lv st I) (KF : 0 ≤ x → G κ n ρ (pc + 3) lv st I) : G κ n ρ pc lv (.int x :: st) I := by
  obtain ⟨p, l, e, R, s, m, args, below, meth, c, Q, dC, dI, dA, ad, n0⟩ := κ
  obtain ⟨hx, hb, hml, -⟩ := C
  exact fun h0 H locs ls hW hS hl => lv_if_lt hx hb dg ht (fun h9 => KT h9 h0 H locs ls hW hS hl) (fun h9 => KF (Int32.not_lt.mp h9) h0 H locs ls hW hS hl)
theorem g_icmp_lt (C : Cx κ y cc nL d n1) {x y0 : Int32} {off : Int} (tgt : Nat) (dg : decode cc pc = .ok (.if_icmp .lt off, 3)) (ht : (pc : Int) + off = (tgt : Int)) (KT : x < y0 → G κ n ρ tgt lv st I) (KF : y0 ≤ x → G κ n ρ (pc + 3) lv st I) : G κ n ρ pc lv (.int y0 :: .int x :: st) I := by
  obtain ⟨p, l, e, R, s, m, args, below, meth, c, Q, dC, dI, dA, ad, n0⟩ := κ
  obtain ⟨hx, hb, hml, -⟩ := C
  exact fun h0 H locs ls hW hS hl => lv_icmp_lt hx hb dg ht (fun h9 => KT h9 h0 H locs ls hW hS hl) (fun h9 => KF (Int32.not_lt.mp h9) h0 H locs ls hW hS hl)
theorem g_if_ge (C : Cx κ y cc nL d n1) {x : Int32} {off : Int} (tgt : Nat) (dg : decode cc pc = .ok (.ifCond .ge off, 3)) (ht : (pc : Int) + off = (tgt : Int)) (KT : 0 ≤ x → G κ n ρ tgt lv st I) (KF : x < 0 → G κ n ρ (pc + 3) lv st I) : G κ n ρ pc lv (.int x :: st) I := by
  obtain ⟨p, l, e, R, s, m, args, below, meth, c, Q, dC, dI, dA, ad, n0⟩ := κ
  obtain ⟨hx, hb, hml, -⟩ := C
  exact fun h0 H locs ls hW hS hl => lv_if_ge hx hb dg ht (fun h9 => KT h9 h0 H locs ls hW hS hl) (fun h9 => KF (Int32.not_le.mp h9) h0 H locs ls hW hS hl)
theorem g_icmp_ge (C : Cx κ y cc nL d n1) {x y0 : Int32} {off : Int} (tgt : Nat) (dg : decode cc pc = .ok (.if_icmp .ge off, 3)) (ht : (pc : Int) + off = (tgt : Int)) (KT : y0 ≤ x → G κ n ρ tgt lv st I) (KF : x < y0 → G κ n ρ (pc + 3) lv st I) : G κ n ρ pc lv (.int y0 :: .int x :: st) I := by
  obtain ⟨p, l, e, R, s, m, args, below, meth, c, Q, dC, dI, dA, ad, n0⟩ := κ
  obtain ⟨hx, hb, hml, -⟩ := C
  exact fun h0 H locs ls hW hS hl => lv_icmp_ge hx hb dg ht (fun h9 => KT h9 h0 H locs ls hW hS hl) (fun h9 => KF (Int32.not_le.mp h9) h0 H locs ls hW hS hl)
theorem g_if_gt (C : Cx κ y cc nL d n1) {x : Int32} {off : Int} (tgt : Nat) (dg : decode cc pc = .ok (.ifCond .gt off, 3)) (ht : (pc : Int) + off = (tgt : Int)) (KT : 0 < x → G κ n ρ tgt lv st I) (KF : x ≤ 0 → G κ n ρ (pc + 3) lv st I) : G κ n ρ pc lv (.int x :: st) I := by
  obtain ⟨p, l, e, R, s, m, args, below, meth, c, Q, dC, dI, dA, ad, n0⟩ := κ
  obtain ⟨hx, hb, hml, -⟩ := C
  exact fun h0 H locs ls hW hS hl => lv_if_gt hx hb dg ht (fun h9 => KT h9 h0 H locs ls hW hS hl) (fun h9 => KF (Int32.not_lt.mp h9) h0 H locs ls hW hS hl)
theorem g_icmp_gt (C : Cx κ y cc nL d n1) {x y0 : Int32} {off : Int} (tgt : Nat) (dg : decode cc pc = .ok (.if_icmp .gt off, 3)) (ht : (pc : Int) + off = (tgt : Int)) (KT : y0 < x → G κ n ρ tgt lv st I) (KF : x ≤ y0 → G κ n ρ (pc + 3) lv st I) : G κ n ρ pc lv (.int y0 :: .int x :: st) I := by
  obtain ⟨p, l, e, R, s, m, args, below, meth, c, Q, dC, dI, dA, ad, n0⟩ := κ
  obtain ⟨hx, hb, hml, -⟩ := C
  exact fun h0 H locs ls hW hS hl => lv_icmp_gt hx hb dg ht (fun h9 => KT h9 h0 H locs ls hW hS hl) (fun h9 => KF (Int32.not_lt.mp h9) h0 H locs ls hW hS hl)
theorem g_if_le (C : Cx κ y cc nL d n1) {x : Int32} {off : Int} (tgt : Nat) (dg : decode cc pc = .ok (.ifCond .le off, 3)) (ht : (pc : Int) + off = (tgt : Int)) (KT : x ≤ 0 → G κ n ρ tgt lv st I) (KF : 0 < x → G κ n ρ (pc + 3) lv st I) : G κ n ρ pc lv (.int x :: st) I := by
  obtain ⟨p, l, e, R, s, m, args, below, meth, c, Q, dC, dI, dA, ad, n0⟩ := κ
  obtain ⟨hx, hb, hml, -⟩ := C
  exact fun h0 H locs ls hW hS hl => lv_if_le hx hb dg ht (fun h9 => KT h9 h0 H locs ls hW hS hl) (fun h9 => KF (Int32.not_le.mp h9) h0 H locs ls hW hS hl)
theorem g_icmp_le (C : Cx κ y cc nL d n1) {x y0 : Int32} {off : Int} (tgt : Nat) (dg : decode cc pc = .ok (.if_icmp .le off, 3)) (ht : (pc : Int) + off = (tgt : Int)) (KT : x ≤ y0 → G κ n ρ tgt lv st I) (KF : y0 < x → G κ n ρ (pc + 3) lv st I) : G κ n ρ pc lv (.int y0 :: .int x :: st) I := by
  obtain ⟨p, l, e, R, s, m, args, below, meth, c, Q, dC, dI, dA, ad, n0⟩ := κ
  obtain ⟨hx, hb, hml, -⟩ := C
  exact fun h0 H locs ls hW hS hl => lv_icmp_le hx hb dg ht (fun h9 => KT h9 h0 H locs ls hW hS hl) (fun h9 => KF (Int32.not_le.mp h9) h0 H locs ls hW hS hl)
theorem g_goto (C : Cx κ y cc nL d n1) {off : Int} (tgt : Nat) (dg : decode cc pc = .ok (.goto off, 3)) (ht : (pc : Int) + off = (tgt : Int)) (K : G κ n ρ tgt lv st I) : G κ n ρ pc lv st I := by
  obtain ⟨p, l, e, R, s, m, args, below, meth, c, Q, dC, dI, dA, ad, n0⟩ := κ
  obtain ⟨hx, hb, hml, -⟩ := C
  exact fun h0 H locs ls hW hS hl => lv_goto hx hb dg ht (K h0 H locs ls hW hS hl)
theorem g_lcmp (C : Cx κ y cc nL d n1) {x y0 : Int64} (dg : decode cc pc = .ok (.lcmp, 1)) (K : G κ n ρ (pc + 1) lv (.int (lg_cmp x y0) :: st) I) : G κ n ρ pc lv (.long y0 :: .long x :: st) I := by
  obtain ⟨p, l, e, R, s, m, args, below, meth, c, Q, dC, dI, dA, ad, n0⟩ := κ
  obtain ⟨hx, hb, hml, -⟩ := C
  exact fun h0 H locs ls hW hS hl => W.lcmp hx hb dg (K h0 H locs ls hW hS hl)
theorem g_ifnonnull (C : Cx κ y cc nL d n1) {x : Nat} {off : Int} (tgt : Nat) (dg : decode cc pc = .ok (.ifnonnull off, 3)) (ht : (pc : Int) + off = (tgt : Int)) (K : G κ n ρ tgt lv st I) : G κ n ρ pc lv (.ref x :: st) I := by
  obtain ⟨p, l, e, R, s, m, args, below, meth, c, Q, dC, dI, dA, ad, n0⟩ := κ
  obtain ⟨hx, hb, hml, -⟩ := C
  exact fun h0 H locs ls hW hS hl => lv_ifnonnull hx hb dg ht (K h0 H locs ls hW hS hl)
theorem g_ifnull (C : Cx κ y cc nL d n1) {x : Nat} {off : Int} (dg : decode cc pc = .ok (.ifnull off, 3)) (K : G κ n ρ (pc + 3) lv st I) : G κ n ρ pc lv (.ref x :: st) I := by
  obtain ⟨p, l, e, R, s, m, args, below, meth, c, Q, dC, dI, dA, ad, n0⟩ := κ
  obtain ⟨hx, hb, hml, -⟩ := C
  exact fun h0 H locs ls hW hS hl => lv_ifnull hx hb dg (K h0 H locs ls hW hS hl)
/-- weaker locals, by places -/
theorem g_lv (C : Cx κ y cc nL d n1) {lv' : List (Nat × Value)} (ks : List Nat) (hl : lv_pick lv ks = lv') (K : G κ n ρ pc lv' st I) : G κ n ρ pc lv st I := by
  obtain ⟨p, l, e, R, s, m, args, below, meth, c, Q, dC, dI, dA, ad, n0⟩ := κ
  intro h0 H locs ls hW hS h
  refine K h0 H locs ls hW hS (lv_sub h ks ?_)
  rw [← hl]
  unfold lv_pick lvc
  rw [List.map_filterMap]
  congr 1
  funext k
  rw [List.getElem?_map]
end GR
