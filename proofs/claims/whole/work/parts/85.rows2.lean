/-! ===== a row of rows made at once ===== -/
def mrO (cA : ClassId) (N h i : Nat) : Cell := arrV cA N (fun j => if j < i then .ref (h + 1 + j) else .null)
def mrS (s : State) (cA cB : ClassId) (N M : Nat) : Nat → State
  | 0 => s.pushCell (mrO cA N s.heap.size 0)
  | i + 1 => ((mrS s cA cB N M i).pushCell (arrV cB M (fun _ => .int 0))).setCell s.heap.size (mrO cA N s.heap.size (i + 1))
theorem mrO_s {cA : ClassId} {N h i : Nat} : (mrO cA N h i).setSlot i (.ref (h + 1 + i)) = mrO cA N h (i + 1) := by
  unfold mrO
  rw [arrV_store]
  congr 1
  funext j
  by_cases e : j = i
  · subst e; simp [updV]
  · by_cases h9 : j < i
    · simp [updV, e, h9, Nat.lt_succ_of_lt h9]
    · simp [updV, e, h9, show ¬ j < i + 1 by omega]
theorem mrS_f (s : State) (cA cB : ClassId) (N M : Nat) : ∀ i, (mrS s cA cB N M i).heap.size = s.heap.size + 1 + i ∧ (mrS s cA cB N M i).heap[s.heap.size]? = some (mrO cA N s.heap.size i) ∧ (mrS s cA cB N M i).vm = s.vm ∧ (mrS s cA cB N M i).slotsUsed = s.slotsUsed + N + i * M
  | 0 => ⟨by simp [mrS], by simp [mrS], rfl, by simp [mrS, mrO, arrV_size]⟩
  | i + 1 => by
    obtain ⟨a, b, d, u⟩ := mrS_f s cA cB N M i
    have hlt : s.heap.size < (mrS s cA cB N M i).heap.size := by omega
    have hb : ((mrS s cA cB N M i).pushCell (arrV cB M (fun _ => .int 0))).heap[s.heap.size]? = some (mrO cA N s.heap.size i) := by rw [State.heap_pushCell_of_lt (h := hlt)]; exact b
    refine ⟨?_, State.heap_setCell_self hb, by simp [mrS, d], ?_⟩
    · simp [mrS, State.setCell, a]; omega
    · simp [mrS, u, arrV_size, Nat.succ_mul]; omega
theorem mrS_t (s : State) (f : JFrame) (cA cB : ClassId) (N M : Nat) : ∀ i, mrS (s.setTop f) cA cB N M i = (mrS s cA cB N M i).setTop f
  | 0 => rfl
  | i + 1 => by simp only [mrS, mrS_t s f cA cB N M i, State.heap_setTop, State.pushCell_setTop, State.setCell_setTop]
theorem mrS_o (s : State) (cA cB : ClassId) (N M : Nat) {a : Addr} (ha : a < s.heap.size) : ∀ i, (mrS s cA cB N M i).heap[a]? = s.heap[a]?
  | 0 => State.heap_pushCell_of_lt _ _ ha
  | i + 1 => by
    have h1 := (mrS_f s cA cB N M i).1
    show (((mrS s cA cB N M i).pushCell _).setCell s.heap.size _).heap[a]? = _
    rw [State.heap_setCell_other (Nat.ne_of_gt ha), State.heap_pushCell_of_lt (h := Nat.lt_of_lt_of_le ha (by rw [h1]; omega))]
    exact mrS_o s cA cB N M ha i
theorem mrS_n (s : State) (cA cB : ClassId) (N M : Nat) : ∀ i j, j < i → (mrS s cA cB N M i).heap[s.heap.size + 1 + j]? = some (arrV cB M (fun _ => .int 0))
  | 0, _, h => absurd h (Nat.not_lt_zero _)
  | i + 1, j, h => by
    have h1 := (mrS_f s cA cB N M i).1
    show (((mrS s cA cB N M i).pushCell _).setCell s.heap.size _).heap[s.heap.size + 1 + j]? = _
    rw [State.heap_setCell_other (show s.heap.size ≠ s.heap.size + 1 + j by omega)]
    rcases Nat.lt_or_ge j i with hj | hj
    · have hlt : s.heap.size + 1 + j < (mrS s cA cB N M i).heap.size := by rw [h1]; omega
      rw [State.heap_pushCell_of_lt (h := hlt)]
      exact mrS_n s cA cB N M i j hj
    · rw [show j = i by omega, ← h1]
      exact State.heap_pushCell_size _ _
section MRW
variable {E : CtlPost} {e : Env} {d : Bool} {acts : List Action} {s : State}
theorem mr_in {cB cC : ClassId} {kB : Class} {m : Int32} (hk : s.vm.classes[cB]? = some kB) (hkind : kB.kind = .array cC .int) (hm : ¬ m < 0) (hl : ¬ m.toNatClampNeg > e.platform.arrayLengthLimit) (hh : ¬ m.toNatClampNeg * componentBytes .int > e.platform.maxHeapBytes) (h1 : s.heap.size < e.platform.maxCells) (h2 : s.slotsUsed + m.toNatClampNeg ≤ e.platform.maxSlots) {Q : Addr → Pre} (hq : ∀ acts', Q s.heap.size d acts' (s.pushCell (arrV cB m.toNatClampNeg (fun _ => .int 0)))) : wp (multianewarray.make cB [m]) Q E e d acts s := by
  rw [multianewarray.make]
  simp only [wp_bind', W.ite, hm, if_false, wp_pure', W.theClass, hk, hkind, Option.some.injEq, exists_eq_left']
  refine W.newArray_of hk hkind hl hh h1 h2 rfl (fun acts' => ?_)
  rw [← arrV_new] at hq
  exact hq acts'
theorem mr_out {cA cB cC : ClassId} {kA kB : Class} {n m : Int32} (hkA : s.vm.classes[cA]? = some kA) (hkindA : kA.kind = .array cB (.array .int)) (hkB : s.vm.classes[cB]? = some kB) (hkindB : kB.kind = .array cC .int) (hn : ¬ n < 0) (hm : ¬ m < 0)
    (hl1 : ¬ n.toNatClampNeg > e.platform.arrayLengthLimit) (hh1 : ¬ n.toNatClampNeg * componentBytes (.array .int) > e.platform.maxHeapBytes) (hl2 : ¬ m.toNatClampNeg > e.platform.arrayLengthLimit) (hh2 : ¬ m.toNatClampNeg * componentBytes .int > e.platform.maxHeapBytes)
    (hc : s.heap.size + 1 + n.toNatClampNeg ≤ e.platform.maxCells) (hs : s.slotsUsed + n.toNatClampNeg + n.toNatClampNeg * m.toNatClampNeg ≤ e.platform.maxSlots)
    {Q : Addr → Pre} (hq : ∀ d' acts', Q s.heap.size d' acts' (mrS s cA cB n.toNatClampNeg m.toNatClampNeg n.toNatClampNeg)) : wp (multianewarray.make cA [n, m]) Q E e d acts s := by
  have hfind : ([m].find? (· < 0)) = none := by simp [hm]
  rw [multianewarray.make]
  simp only [wp_bind', W.ite, hn, if_false, wp_pure', W.theClass, hkA, hkindA, Option.some.injEq, exists_eq_left']
  refine W.newArray_of hkA hkindA hl1 hh1 (by omega) (by omega) rfl (fun acts1 => ?_)
  have e0 : ({ cls := cA, slots := Array.replicate n.toNatClampNeg .null } : Cell) = mrO cA n.toNatClampNeg s.heap.size 0 := by
    unfold mrO
    rw [show ({ cls := cA, slots := Array.replicate n.toNatClampNeg .null } : Cell) = arrV cA n.toNatClampNeg (fun _ => .null) from arrV_new _ _ _]
    rfl
  rw [e0]
  simp only [hfind]
  rw [ite_self, wp_bind', Std.Legacy.Range.forIn_eq_forIn_range']
  have hsz : ([:n.toNatClampNeg] : Std.Legacy.Range).size = n.toNatClampNeg := by simp [Std.Legacy.Range.size]
  rw [hsz]
  show wp (forIn (List.range' 0 n.toNatClampNeg 1) PUnit.unit _) _ E e d acts1 _
  refine wp_forIn_inv (fun rest s' => ∃ i, i ≤ n.toNatClampNeg ∧ rest = List.range' i (n.toNatClampNeg - i) ∧ s' = mrS s cA cB n.toNatClampNeg m.toNatClampNeg i) _ _ ⟨0, Nat.zero_le _, rfl, rfl⟩ ?_ ?_
  · rintro x rest s' d' acts' Q' ⟨i, hi, hl, rfl⟩ hnext
    have hlt : i < n.toNatClampNeg := by
      rcases Nat.lt_or_ge i n.toNatClampNeg with h | h
      · exact h
      · rw [show n.toNatClampNeg - i = 0 by omega] at hl; cases hl
    rw [show n.toNatClampNeg - i = (n.toNatClampNeg - (i + 1)) + 1 by omega, List.range'_succ] at hl
    obtain ⟨hx, hrest⟩ := List.cons.inj hl
    subst hx
    obtain ⟨f1, f2, f3, f4⟩ := mrS_f s cA cB n.toNatClampNeg m.toNatClampNeg x
    have hmul : x * m.toNatClampNeg + m.toNatClampNeg ≤ n.toNatClampNeg * m.toNatClampNeg := by
      have := Nat.mul_le_mul_right m.toNatClampNeg (show x + 1 ≤ n.toNatClampNeg from hlt)
      rw [Nat.succ_mul] at this; exact this
    simp only [wp_bind']
    refine mr_in (by rw [f3]; exact hkB) hkindB hm hl2 hh2 (by rw [f1]; omega) (by rw [f4]; omega) (fun acts2 => ?_)
    have hlt0 : s.heap.size < (mrS s cA cB n.toNatClampNeg m.toNatClampNeg x).heap.size := by rw [f1]; omega
    simp only [wp_bind', W.writeLoc, wp_pure']
    refine ⟨mrO cA n.toNatClampNeg s.heap.size x, by rw [State.heap_pushCell_of_lt (h := hlt0)]; exact f2, (fun h => by cases h), by unfold mrO; rw [arrV_size]; exact hlt, ?_, hnext _ _ _ ⟨x + 1, hlt, hrest, ?_⟩⟩
    · show (State.pushCell _ _).fitsSlot cA .none x _ = true
      simp [State.fitsSlot, State.slotType?, f3, hkA, hkindA, fits]
    · rw [f1, mrO_s]; rfl
  · rintro s' d' acts' ⟨i, hi, hl, rfl⟩
    have hiN : i = n.toNatClampNeg := by
      rcases Nat.lt_or_ge i n.toNatClampNeg with h | h
      · rw [show n.toNatClampNeg - i = (n.toNatClampNeg - (i + 1)) + 1 by omega, List.range'_succ] at hl; cases hl
      · omega
    subst hiN
    simp only [wp_pure']
    exact hq _ _
end MRW
section MRX
variable {p : Program} {l : Launch} {e : Env} {R : Room} {s : State} {m : MethodId} {args : Array Value} {below : List Frame} {meth : Method} {c : Code} {T : State} {locs : List Loc} {cells slots : Nat}
theorem mr_stand (X : Jvm.Stand p l e R s m args below meth c T locs cells slots) (cA cB : ClassId) (N M : Nat) : ∀ i, Jvm.Stand p l e R s m args below meth c (mrS T cA cB N M i) (locs ++ (List.range i).map fun j => ⟨T.heap.size, j⟩) (cells + 1 + i) (slots + N + i * M)
  | 0 => by
    have h := X.pushed (mrO cA N T.heap.size 0)
    rw [show (mrO cA N T.heap.size 0).slots.size = N from arrV_size _ _ _] at h
    simpa [mrS] using h
  | i + 1 => by
    have Xi := mr_stand X cA cB N M i
    obtain ⟨f1, f2, f3, f4⟩ := mrS_f T cA cB N M i
    have hlt0 : T.heap.size < (mrS T cA cB N M i).heap.size := by rw [f1]; omega
    have hcell : ((mrS T cA cB N M i).pushCell (arrV cB M (fun _ => .int 0))).heap[T.heap.size]? = some (mrO cA N T.heap.size i) := by rw [State.heap_pushCell_of_lt (h := hlt0)]; exact f2
    have h := (Xi.pushed (arrV cB M (fun _ => .int 0))).stored hcell i (.ref (T.heap.size + 1 + i))
    rw [mrO_s, arrV_size] at h
    have e2 : (locs ++ (List.range (i + 1)).map fun j => (⟨T.heap.size, j⟩ : Loc)) = (locs ++ (List.range i).map fun j => (⟨T.heap.size, j⟩ : Loc)) ++ [⟨T.heap.size, i⟩] := by simp [List.range_succ, List.append_assoc]
    rw [e2, show cells + 1 + (i + 1) = cells + 1 + i + 1 by omega, show slots + N + (i + 1) * M = slots + N + i * M + M by rw [Nat.succ_mul]; omega]
    exact h
theorem mr_step (X : Jvm.Stand p l e R s m args below meth c T locs cells slots) (hexec : p.tables.exec = Jvm.exec) {own : String} {index : Nat} (hown : s.vm.findClass own = some m.cls) (hclink : (Cond.classLink own index "[[I").before args s = true) (hover : (Cond.arrayOver (.array .int)).before args s = true) (harr : (Cond.arrayClass .int).before args s = true)
    {g : JFrame} (hg : g.method = m) (hdg : decode c.code g.pc = .ok (.multianewarray index 2, 4)) {n k : Int32} {rest : List Value} (hstack : g.stack = .int k :: .int n :: rest) (hn : ¬ n < 0) (hk : ¬ k < 0) (hb1 : n.toNatClampNeg ≤ 1000) (hb2 : k.toNatClampNeg ≤ 1000)
    (hcells : cells + (1 + n.toNatClampNeg) ≤ R.cells) (hslots : slots + (n.toNatClampNeg + n.toNatClampNeg * k.toNatClampNeg) ≤ R.slots) :
    ∃ (vm₁ : Vm) (cA cB : ClassId), s.vm.findClass "[[I" = some cA ∧ s.vm.findClass "[I" = some cB ∧
      Jvm.Stand p l e R s m args below meth c (mrS (T.setVm vm₁) cA cB n.toNatClampNeg k.toNatClampNeg n.toNatClampNeg) (locs ++ (List.range n.toNatClampNeg).map fun j => ⟨T.heap.size, j⟩) (cells + 1 + n.toNatClampNeg) (slots + n.toNatClampNeg + n.toNatClampNeg * k.toNatClampNeg) ∧
      ∀ target, Steps p.tables e below ((mrS (T.setVm vm₁) cA cB n.toNatClampNeg k.toNatClampNeg n.toNatClampNeg).setTop { g with pc := g.pc + 4, stack := .ref T.heap.size :: rest }) target → Steps p.tables e below (T.setTop g) target := by
  subst hg
  have hpl : e.platform.magicAccessors = ({} : Platform).magicAccessors := by rw [X.admits.platform]
  obtain ⟨comp, cA, kA, hcomp, hidx, hkA, hkindA, hnameA⟩ := arrayOverA_spec hover
  obtain ⟨comp', kC, cc, hcomp', hkC, hkindC⟩ := Cond.arrayClass_spec harr
  have ecomp : comp' = comp := Option.some.inj (hcomp'.symm.trans hcomp)
  subst ecomp
  obtain ⟨c0, hfc0, hcl⟩ := Cond.classLink_spec hown hclink e.platform hpl
  have ec0 : cA = c0 := Option.some.inj (hnameA.symm.trans hfc0)
  subst ec0
  obtain ⟨hg₁, hwarm₁, hready₁⟩ := State.classEntry (e := e) X.warmed hcl
  generalize T.vm.noted g.method.cls index (.cls cA) = vm₁ at hg₁ hwarm₁ hready₁
  have hal : s.vm.Alike vm₁ := hwarm₁.alike
  obtain ⟨kA₁, hkA₁, heA⟩ := hal.2.2 _ _ hkA
  obtain ⟨kC₁, hkC₁, heC⟩ := hal.2.2 _ _ hkC
  have hkindA₁ : kA₁.kind = .array comp' (.array .int) := by rw [heA]; exact hkindA
  have hkindC₁ : kC₁.kind = .array cc .int := by rw [heC]; exact hkindC
  have X₁ := X.noted hwarm₁
  obtain ⟨hr1, hr2⟩ := X.roomAbove hcells hslots
  refine ⟨vm₁, cA, comp', hnameA, hcomp, mr_stand X₁ cA comp' _ _ _, fun target hrest => ?_⟩
  have hl1 : ¬ n.toNatClampNeg > e.platform.arrayLengthLimit := by rw [Launch.admits_arrayLengthLimit X.admits]; omega
  have hh1 : ¬ n.toNatClampNeg * componentBytes (.array .int) > e.platform.maxHeapBytes := by
    rw [Launch.admits_maxHeapBytes X.admits]; show ¬ n.toNatClampNeg * 4 > 536870912; omega
  have hl2 : ¬ k.toNatClampNeg > e.platform.arrayLengthLimit := by rw [Launch.admits_arrayLengthLimit X.admits]; omega
  have hh2 : ¬ k.toNatClampNeg * componentBytes .int > e.platform.maxHeapBytes := by
    rw [Launch.admits_maxHeapBytes X.admits]; show ¬ k.toNatClampNeg * 4 > 536870912; omega
  jvm_step X.here [hexec, hdg]
  simp only [multianewarray.sem, wp_bind', W.resolveClassAt_links (State.method?_setTop g X.here.top) hg₁]
  rw [W.popN, if_neg (by decide)]
  refine ⟨g, State.topJava?_setTop' (s := T.setVm vm₁) g X.here.top, [.int n, .int k], rest, rfl, hstack, ?_⟩
  simp only [List.mapM_cons, List.mapM_nil, wp_bind', wp_pure']
  refine mr_out hkA₁ hkindA₁ hkC₁ hkindC₁ hn hk hl1 hh1 hl2 hh2 (by show T.heap.size + 1 + _ ≤ _; omega) (by show T.slotsUsed + _ + _ ≤ _; omega) (fun d' acts' => ?_)
  have XF := mr_stand X₁ cA comp' n.toNatClampNeg k.toNatClampNeg n.toNatClampNeg
  have eS : ((T.setTop g).setVm vm₁).setTop { g with stack := rest } = (T.setVm vm₁).setTop { g with stack := rest } := by
    show ((T.setVm vm₁).setTop g).setTop _ = _
    rw [State.setTop_setTop]
  rw [eS, mrS_t]
  simp only [wp_bind', W.mark, W.pushRef, State.topJava?_setTop' _ XF.here.top, Option.some.injEq, exists_eq_left', State.setTop_setTop, State.heap_setTop]
  intro acts
  simp [jvm, XF.here.top]
  exact hrest
end MRX
theorem g_multi {κ : Kap} {y : MethodName} {cc : ByteArray} {nL d n1 n : Nat} {ρ : Rho} {pc : Nat} {lv : List (Nat × Value)} {st : List Value} {I : Mem} (C : Cx κ y cc nL d n1) {idx : Nat} (hcl : Cond.classLink y.cls idx "[[I" ∈ GW) (harr : Cond.arrayClass .int ∈ GW) (hs0 : shp n = (4, 4)) (hs1 : ∀ j, j < 4 → shp (n + 1 + j) = (0, 40)) (hlen : n + 4 < SH.length) (hn : n + 5 ≤ 999) (hn1 : n + 5 ≤ n1) (dg : decode cc pc = .ok (.multianewarray idx 2, 4))
    (K : ∀ ρ' I', (∀ a, a < n → ρ' a = ρ a) → (∀ j, j < 4 → ρ' n j = some (n + 1 + j)) → (∀ a, a < n → I' a = I a) → (∀ a, n ≤ a → a < n + 5 → I' a = fun _ => 0) → G κ (n + 5) ρ' (pc + 4) lv (.ref n :: st) I') : G κ n ρ pc lv (.int 40 :: .int 4 :: st) I := by
  obtain ⟨p, l, e, R, s, m, args, below, meth, cd, Q, dC, dI, dA, ad, n0⟩ := κ
  obtain ⟨hx, hb, hml, hown, hts, hlk, hnm, hKt, hSt, h01, h19, hrc, hrs, hfr, hlo, hb0⟩ := C
  intro h0 H locs ls hW hS hl T hT X
  have s0 := sl_succ n (by omega)
  have s1 := sl_succ (n + 1) (by omega)
  have s2 := sl_succ (n + 1 + 1) (by omega)
  have s3 := sl_succ (n + 1 + 1 + 1) (by omega)
  have s4 := sl_succ (n + 1 + 1 + 1 + 1) (by omega)
  rw [hs0] at s0
  rw [show n + 1 = n + 1 + 0 from rfl, hs1 0 (by decide)] at s1
  rw [show n + 1 + 1 = n + 1 + 1 from rfl, hs1 1 (by decide)] at s2
  rw [show n + 1 + 1 + 1 = n + 1 + 2 from rfl, hs1 2 (by decide)] at s3
  rw [show n + 1 + 1 + 1 + 1 = n + 1 + 3 from rfl, hs1 3 (by decide)] at s4
  have q1 := sl_mono h0
  have q2 := sl_mono hn1
  have e5 : sl (n + 5) = sl n + 164 := by
    have t0 : sl (n + 1) = sl n + 4 := s0
    have t1 : sl (n + 1 + 1) = sl (n + 1) + 40 := s1
    have t2 : sl (n + 1 + 1 + 1) = sl (n + 1 + 1) + 40 := s2
    have t3 : sl (n + 1 + 1 + 1 + 1) = sl (n + 1 + 1 + 1) + 40 := s3
    have t4 : sl (n + 1 + 1 + 1 + 1 + 1) = sl (n + 1 + 1 + 1 + 1) + 40 := s4
    show sl (n + 1 + 1 + 1 + 1 + 1) = _
    omega
  have hinj := hKt.2.2.2.2.2.2
  have c4 : (4 : Int32).toNatClampNeg = 4 := by decide
  have c40 : (40 : Int32).toNatClampNeg = 40 := by decide
  obtain ⟨vm₁, cA, cB, fA, fB, X', step⟩ := mr_step X hx hown (hts _ hcl) hKt.2.2.2.2.2.1 (hts _ harr) (g := F0 m pc ls ((Value.int 40 :: .int 4 :: st).map (cvV ad))) rfl (by rw [hb]; exact dg) (rest := st.map (cvV ad)) rfl (by decide) (by decide) (by decide) (by decide) (by rw [c4]; omega) (by rw [c4, c40]; omega)
  rw [c4, c40] at X' step
  have hca : cA = dA 4 := Option.some.inj (fA.symm.trans (hKt.1.2 4 _ rfl).2)
  have hcb : cB = dA 0 := Option.some.inj (fB.symm.trans (hKt.1.2 0 _ rfl).2)
  subst hca hcb
  have hTH : (T.setVm vm₁).heap = H := hT
  obtain ⟨f1, f2, -, -⟩ := mrS_f (T.setVm vm₁) (dA 4) (dA 0) 4 40 4
  have fo : ∀ q, q < H.size → (mrS (T.setVm vm₁) (dA 4) (dA 0) 4 40 4).heap[q]? = H[q]? := fun q hq => by
    have := mrS_o (T.setVm vm₁) (dA 4) (dA 0) 4 40 (a := q) (by rw [hTH]; exact hq) 4
    rw [hTH] at this; exact this
  have fn : ∀ j, j < 4 → (mrS (T.setVm vm₁) (dA 4) (dA 0) 4 40 4).heap[H.size + 1 + j]? = some (arrV (dA 0) 40 (fun _ => .int 0)) := fun j hj => by
    have := mrS_n (T.setVm vm₁) (dA 4) (dA 0) 4 40 4 j hj
    rw [hTH] at this; exact this
  rw [hTH] at f1 f2
  generalize hF : mrS (T.setVm vm₁) (dA 4) (dA 0) 4 40 4 = F at X' step f1 f2 fo fn
  have had : H.size = ad n := hW.1
  obtain ⟨ρ', hρ'⟩ : ∃ ρ' : Rho, ρ' = fun a => if a = n then (fun j => if j < 4 then some (n + 1 + j) else none) else ρ a := ⟨_, rfl⟩
  obtain ⟨I', hI'⟩ : ∃ I' : Mem, I' = fun a => if n ≤ a then (fun _ => 0) else I a := ⟨_, rfl⟩
  have r1 : ∀ a, a < n → ρ' a = ρ a := fun a ha => by rw [hρ']; exact if_neg (by omega)
  have r2 : ρ' n = fun j => if j < 4 then some (n + 1 + j) else none := by rw [hρ']; exact if_pos rfl
  have i1 : ∀ a, a < n → I' a = I a := fun a ha => by rw [hI']; exact if_neg (by omega)
  have i2 : ∀ a, n ≤ a → I' a = fun _ => 0 := fun a ha => by rw [hI']; exact if_pos ha
  have hWo : Wo dC dI dA ad (n + 5) ρ' I' F.heap := by
    refine ⟨by rw [f1, had, hinj n (by omega), hinj (n + 5) (by omega)]; omega, fun a ha => ?_⟩
    rcases Nat.lt_or_ge a n with h1 | h1
    · refine (hW.2 a h1).kept (fo _ ?_) (i1 a h1) (r1 a h1)
      rw [hW.1, hinj a (by omega), hinj n (by omega)]; omega
    · by_cases h2 : a = n
      · subst h2
        refine atI_of_rfs hs0 (by decide) ?_
        rw [← had, f2]
        unfold mrO
        congr 2
        funext j
        rw [r2]
        show (if j < 4 then Value.ref (H.size + 1 + j) else .null) = va_rf (Option.map ad (if j < 4 then some (a + 1 + j) else none))
        by_cases hj : j < 4
        · rw [if_pos hj, if_pos hj]
          show Value.ref (H.size + 1 + j) = .ref (ad (a + 1 + j))
          have h8 := hinj (a + 1 + j) (by omega)
          have h9 := hinj a (by omega)
          have h7 : ad a + 1 + j = ad (a + 1 + j) := by omega
          rw [had]
          exact congrArg Value.ref h7
        · rw [if_neg hj, if_neg hj]; rfl
      · obtain ⟨j, hj, rfl⟩ : ∃ j, j < 4 ∧ a = n + 1 + j := ⟨a - n - 1, by omega, by omega⟩
        refine atI_of_int (hs1 j hj) (by decide) ?_
        rw [i2 _ (by omega)]
        have := fn j hj
        rw [had, show ad n + 1 + j = ad (n + 1 + j) by rw [hinj n (by omega), hinj (n + 1 + j) (by omega)]; omega] at this
        exact this
  have hSn : va_S (fun q => ad 0 ≤ q) s.heap F.heap (locs ++ (List.range 4).map fun j => ⟨T.heap.size, j⟩) := by
    refine ⟨Nat.le_trans hS.1 (by rw [f1]; omega), fun q h1 h2 => (fo q (Nat.lt_of_lt_of_le h1 hS.1)).trans (hS.2.1 q h1 h2), fun q hq => ?_⟩
    rcases List.mem_append.mp hq with h | h
    · exact hS.2.2 q h
    · obtain ⟨z9, -, hz⟩ := List.mem_map.mp h
      rw [← hz]
      show ad 0 ≤ T.heap.size
      rw [hT, had, hinj n (by omega)]; omega
  have e1 : n - n0 + 1 + 4 = n + 5 - n0 := by omega
  have e2 : sl n - sl n0 + 4 + 4 * 40 = sl (n + 5) - sl n0 := by omega
  rw [e1, e2] at X'
  obtain ⟨t, a1, b1⟩ := K ρ' I' r1 (fun j hj => by rw [r2]; exact if_pos hj) i1 (fun a h1 _ => i2 a h1) (by omega) F.heap _ ls hWo hSn hl F rfl X'
  refine ⟨t, step t ?_, b1⟩
  rw [hT, had]
  exact a1
