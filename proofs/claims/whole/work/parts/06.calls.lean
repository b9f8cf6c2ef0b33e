section GC
theorem sl_mono {a b : Nat} (h : a ≤ b) : sl a ≤ sl b := by
  unfold sl
  have e : SH.take b = SH.take a ++ (SH.take b).drop a := by
    have := List.take_append_drop a (SH.take b)
    rw [List.take_take, Nat.min_eq_left h] at this
    exact this.symm
  rw [e, List.map_append, List.sum_append]
  omega
def rmD (d mc ms : Nat) : Room := { frames := d + 1, cells := mc, slots := ms, locals := 40 * (d + 1) }
def PcM (dC : Nat → ClassId) (dI : Nat → Nat → Nat) (dA : Nat → ClassId) (ad : Nat → Nat) (a : List Value) (n : Nat) (ρ : Rho) (I : Mem) : Array Value → State → Prop :=
  fun v U => v = (a.map (cvV ad)).toArray ∧ Wo dC dI dA ad n ρ I U.heap ∧ Kt dC dI dA ad U ∧ StrH ad U U.heap ∧ ad 0 ≤ U.heap.size
def QcM (dC : Nat → ClassId) (dI : Nat → Nat → Nat) (dA : Nat → ClassId) (ad : Nat → Nat) (n' : Nat) (P : Option Value → Rho → Mem → Prop) : Array Value → State → Outcome → State → Prop :=
  fun _ st oc t => (∃ (r : Option Value) (ρ' : Rho) (I' : Mem), oc = .returned (r.map (cvV ad)) ∧ P r ρ' I' ∧ Wo dC dI dA ad n' ρ' I' t.heap) ∧ va_F (fun q => ad 0 ≤ q) st t
/-- what a method answers, and the world behind it, from this world with these arguments; k objects are made; d: how deep its calls go -/
def MG (y : MethodName) (cc : ByteArray) (nL : Nat) (ret : Option FieldType) (d k : Nat) (a : List Value) (n : Nat) (ρ : Rho) (I : Mem) (P : Option Value → Rho → Mem → Prop) : Prop :=
  ∀ (l : Launch) (dC : Nat → ClassId) (dI : Nat → Nat → Nat) (dA : Nat → ClassId) (ad : Nat → Nat), Met l y (.code y cc nL ret :: GW) (rmD d k (sl (n + k) - sl n)) (PcM dC dI dA ad a n ρ I) (QcM dC dI dA ad (n + k) P) k (sl (n + k) - sl n) (fun q => ad 0 ≤ q)
def MI (y : MethodName) (cc : ByteArray) (nL : Nat) (ret : Option FieldType) (d : Nat) (a : List Value) (n : Nat) (ρ : Rho) (I : Mem) (P : Int32 → Mem → Prop) : Prop :=
  MG y cc nL ret d 0 a n ρ I (fun r ρ' I' => ρ' = ρ ∧ ∃ x, r = some (.int x) ∧ P x I')
def ML (y : MethodName) (cc : ByteArray) (nL : Nat) (ret : Option FieldType) (d : Nat) (a : List Value) (n : Nat) (ρ : Rho) (I : Mem) (P : Int64 → Mem → Prop) : Prop :=
  MG y cc nL ret d 0 a n ρ I (fun r ρ' I' => ρ' = ρ ∧ ∃ x, r = some (.long x) ∧ P x I')
def MV (y : MethodName) (cc : ByteArray) (nL : Nat) (ret : Option FieldType) (d : Nat) (a : List Value) (n : Nat) (ρ : Rho) (I : Mem) (P : Mem → Prop) : Prop :=
  MG y cc nL ret d 0 a n ρ I (fun r ρ' I' => ρ' = ρ ∧ r = none ∧ P I')
def Rt : Kap → Option FieldType → Nat → (Option Value → Rho → Mem → Prop) → Prop
  | (p, l, e, R, s, m, args, below, meth, c, Q, dC, dI, dA, ad, n0), ret, n1, P => meth.sig.returnType = ret ∧ Q = MQ below (QcM dC dI dA ad n1 P) args s (n1 - n0) (sl n1 - sl n0) (fun q => ad 0 ≤ q)
theorem lg_sl_map (ad : Nat → Nat) (a : List Value) : (lg_sl (a.map (cvV ad))).length = (lg_sl a).length := by
  induction a with
  | nil => rfl
  | cons v t ih =>
    unfold lg_sl at ih ⊢
    simp only [List.map_cons, List.flatMap_cons, List.length_append, cvV_cat, ih]
    split <;> rfl
theorem lv_args_map (ad : Nat → Nat) : ∀ (a : List Value) (i : Nat), lv_args i (a.map (cvV ad)) = lvc ad (lv_args i a)
  | [], _ => rfl
  | v :: t, i => by
    show (i, cvV ad v) :: lv_args (if (cvV ad v).category = 2 then i + 2 else i + 1) (t.map (cvV ad)) = (i, cvV ad v) :: lvc ad (lv_args (if v.category = 2 then i + 2 else i + 1) t)
    rw [cvV_cat, lv_args_map ad t]
theorem Kt.moved {dC : Nat → ClassId} {dI : Nat → Nat → Nat} {dA : Nat → ClassId} {ad : Nat → Nat} {s U : State} (hW : s.WarmedH U.vm) (h : Kt dC dI dA ad s) : Kt dC dI dA ad U := by
  obtain ⟨h1, h2, h3, h4, h5, h6, h7⟩ := h
  refine ⟨h1.moved hW.alike, fun i q hq => (h2 i q hq).warm hW, fun q hq => va_Nw.warmM hW (h3 q hq), va_Nw.warmD hW h4, h5.moved hW.alike, ?_, h7⟩
  exact over_moved hW.alike h6
theorem StrH.moved {ad : Nat → Nat} {s U : State} {H : Heap} {locs : List Loc} (hW : s.WarmedH U.vm) (hS : va_S (fun q => ad 0 ≤ q) s.heap H locs) (h : StrH ad s s.heap) : StrH ad U H := by
  obtain ⟨h1, h2, h3⟩ := h
  exact ⟨(h1.kept hS.2.1).moved hW.alike, (h2.kept hS.2.1).moved hW.alike, h3.imp (fun h => (h.kept hS.2.1).moved hW.alike) (fun h => (h.kept hS.2.1).moved hW.alike)⟩
theorem PcM.blind {dC : Nat → ClassId} {dI : Nat → Nat → Nat} {dA : Nat → ClassId} {ad : Nat → Nat} {a : List Value} {n : Nat} {ρ : Rho} {I : Mem} : FrameBlind (PcM dC dI dA ad a n ρ I) := by
  intro v U g mk q
  obtain ⟨q1, q2, q3, q4, q5⟩ := q
  obtain ⟨h1, h2, h3, h4, h5, h6, h7⟩ := q3
  refine ⟨q1, q2, ⟨va_K.moved (u := U) (U := U.calling g mk v) (Vm.Alike.refl U.vm) h1, fun i q hq => (h2 i q hq).same rfl, fun q hq => (h3 q hq).same rfl rfl, h4.same rfl rfl, va_AO.moved (u := U) (U := U.calling g mk v) (Vm.Alike.refl U.vm) h5, over_moved (u := U) (E := U.calling g mk v) (Vm.Alike.refl U.vm) h6, h7⟩, ?_, q5⟩
  obtain ⟨h1, h2, h3⟩ := q4
  exact ⟨vk_S.moved (u := U) (U := U.calling g mk v) (Vm.Alike.refl U.vm) h1, va_Z.moved (u := U) (U := U.calling g mk v) (Vm.Alike.refl U.vm) h2, h3.imp (fun h => va_Z.moved (u := U) (U := U.calling g mk v) (Vm.Alike.refl U.vm) h) (fun h => va_Z.moved (u := U) (U := U.calling g mk v) (Vm.Alike.refl U.vm) h)⟩
theorem MG.of {y : MethodName} {cc : ByteArray} {nL : Nat} {ret : Option FieldType} {d k : Nat} {a : List Value} {n : Nat} {ρ : Rho} {I : Mem} {P : Option Value → Rho → Mem → Prop} (hy : plainName y.cls = true) (hlen : (lg_sl a).length ≤ nL) (hnk : n + k ≤ 999)
    (body : ∀ κ : Kap, Cx κ y cc nL d (n + k) → Rt κ ret (n + k) P → G κ n ρ 0 (lv_args 0 a) [] I) : MG y cc nL ret d k a n ρ I P := by
  intro l dC dI dA ad
  refine Met.ofW (cc := cc) (maxL := nL) (ret := ret) hy rfl ?_
  intro p e s m args below meth c s₁ B hml hv
  obtain ⟨rfl, hWo, hKt, hSt, hz⟩ := hv
  have hts := atoms_spec (ws := .code y cc nL ret :: GW) B.pre
  have hkk : n + k - n = k := by omega
  have hG := body (p, l, e, (headSpec (.code y cc nL ret :: GW) (rmD d k (sl (n + k) - sl n))).room, s, m, (a.map (cvV ad)).toArray, below, meth, c, MQ below (QcM dC dI dA ad (n + k) P) (a.map (cvV ad)).toArray s (n + k - n) (sl (n + k) - sl n) (fun q => ad 0 ≤ q), dC, dI, dA, ad, n)
    ⟨B.exec, B.bytes, hml, findClass_of_methodNamed B.named, fun w hw => hts w (List.mem_cons_of_mem _ hw), B.notSynchronized, (name_of_methodNamed B.named B.method).1, hKt, hSt, Nat.le_add_right _ _, hnk, by rw [hkk]; exact Nat.le_refl _, Nat.le_refl _, Nat.le_refl _, Nat.le_refl _, hz⟩
    ⟨B.returns, rfl⟩ (Nat.le_refl n) s.heap [] ((lg_sl (a.map (cvV ad)) ++ List.replicate (nL - (lg_sl (a.map (cvV ad))).length) Slot.unset).toArray) hWo va_S.rf (by
      rw [hml, ← lv_args_map]
      exact lv_entry _ (by rw [lg_sl_map]; exact hlen))
  rw [lg_entry_eq]
  rw [Nat.sub_self, Nat.sub_self, hkk] at hG
  exact hG
section
variable {κ : Kap} {y : MethodName} {cc : ByteArray} {nL d n1 n : Nat} {ρ : Rho} {pc : Nat} {lv : List (Nat × Value)} {st : List Value} {I : Mem} {P : Option Value → Rho → Mem → Prop}
theorem g_iret (C : Cx κ y cc nL d n1) (hR : Rt κ (some .int) n1 P) {v : Int32} (hn : n = n1) (dg : decode cc pc = .ok (.ireturn, 1)) (hP : P (some (.int v)) ρ I) : G κ n ρ pc lv [.int v] I := by
  obtain ⟨p, l, e, R, s, m, args, below, meth, c, Q, dC, dI, dA, ad, n0⟩ := κ
  obtain ⟨hx, hb, hml, hown, hts, hlk, -⟩ := C
  obtain ⟨hr, rfl⟩ := hR
  subst hn
  intro h0 H locs ls hW hS hl
  exact W.iret (v := v) hx hb hr (fun t ht _ => ⟨⟨some (.int v), ρ, I, rfl, hP, by rw [ht]; exact hW⟩, hS.F ht⟩) hS.2.2 dg hlk
theorem g_zret (C : Cx κ y cc nL d n1) (hR : Rt κ (some .boolean) n1 P) {v : Int32} (hn : n = n1) (hv : narrow .boolean (.int v) = .int v) (dg : decode cc pc = .ok (.ireturn, 1)) (hP : P (some (.int v)) ρ I) : G κ n ρ pc lv [.int v] I := by
  obtain ⟨p, l, e, R, s, m, args, below, meth, c, Q, dC, dI, dA, ad, n0⟩ := κ
  obtain ⟨hx, hb, hml, hown, hts, hlk, -⟩ := C
  obtain ⟨hr, rfl⟩ := hR
  subst hn
  intro h0 H locs ls hW hS hl
  exact W.zret (v := v) hx hb hr hv (fun t ht _ => ⟨⟨some (.int v), ρ, I, rfl, hP, by rw [ht]; exact hW⟩, hS.F ht⟩) hS.2.2 dg hlk
theorem g_lret (C : Cx κ y cc nL d n1) (hR : Rt κ (some .long) n1 P) {v : Int64} (hn : n = n1) (dg : decode cc pc = .ok (.lreturn, 1)) (hP : P (some (.long v)) ρ I) : G κ n ρ pc lv [.long v] I := by
  obtain ⟨p, l, e, R, s, m, args, below, meth, c, Q, dC, dI, dA, ad, n0⟩ := κ
  obtain ⟨hx, hb, hml, hown, hts, hlk, -⟩ := C
  obtain ⟨hr, rfl⟩ := hR
  subst hn
  intro h0 H locs ls hW hS hl
  exact W.lret (v := v) hx hb hr (fun t ht _ => ⟨⟨some (.long v), ρ, I, rfl, hP, by rw [ht]; exact hW⟩, hS.F ht⟩) hS.2.2 dg hlk
theorem g_aret (C : Cx κ y cc nL d n1) {nm : String} (hR : Rt κ (some (.object nm)) n1 P) {j : Nat} (hn : n = n1) (dg : decode cc pc = .ok (.areturn, 1)) (hP : P (some (.ref j)) ρ I) : G κ n ρ pc lv [.ref j] I := by
  obtain ⟨p, l, e, R, s, m, args, below, meth, c, Q, dC, dI, dA, ad, n0⟩ := κ
  obtain ⟨hx, hb, hml, hown, hts, hlk, -⟩ := C
  obtain ⟨hr, rfl⟩ := hR
  subst hn
  intro h0 H locs ls hW hS hl
  exact W.aret (v := .ref (ad j)) hx hb hr (Or.inl ⟨_, rfl⟩) (Or.inr ⟨_, rfl⟩) (fun t ht _ => ⟨⟨some (.ref j), ρ, I, rfl, hP, by rw [ht]; exact hW⟩, hS.F ht⟩) hS.2.2 dg hlk
theorem g_aretN (C : Cx κ y cc nL d n1) {nm : String} (hR : Rt κ (some (.object nm)) n1 P) (hn : n = n1) (dg : decode cc pc = .ok (.areturn, 1)) (hP : P (some .null) ρ I) : G κ n ρ pc lv [.null] I := by
  obtain ⟨p, l, e, R, s, m, args, below, meth, c, Q, dC, dI, dA, ad, n0⟩ := κ
  obtain ⟨hx, hb, hml, hown, hts, hlk, -⟩ := C
  obtain ⟨hr, rfl⟩ := hR
  subst hn
  intro h0 H locs ls hW hS hl
  exact W.aret (v := .null) hx hb hr (Or.inl ⟨_, rfl⟩) (Or.inl rfl) (fun t ht _ => ⟨⟨some .null, ρ, I, rfl, hP, by rw [ht]; exact hW⟩, hS.F ht⟩) hS.2.2 dg hlk
theorem g_vret (C : Cx κ y cc nL d n1) (hR : Rt κ none n1 P) (hn : n = n1) (dg : decode cc pc = .ok (.return_, 1)) (hP : P none ρ I) : G κ n ρ pc lv [] I := by
  obtain ⟨p, l, e, R, s, m, args, below, meth, c, Q, dC, dI, dA, ad, n0⟩ := κ
  obtain ⟨hx, hb, hml, hown, hts, hlk, -⟩ := C
  obtain ⟨hr, rfl⟩ := hR
  subst hn
  intro h0 H locs ls hW hS hl
  exact W.vret hx hb hr (fun t ht _ => ⟨⟨none, ρ, I, rfl, hP, by rw [ht]; exact hW⟩, hS.F ht⟩) hS.2.2 dg
end
theorem run_go {p : Program} {l : Launch} {e : Env} {R : Room} {s : State} {m : MethodId} {args : Array Value} {below : List Frame} {meth : Method} {c : Code} {H : Heap} {locs : List Loc} {cells slots mc ms pc : Nat} {ls : Array Slot} {st0 rest : List Value} {Q : State → Prop} {dC : Nat → ClassId} {dI : Nat → Nat → Nat} {dA : Nat → ClassId} {ad : Nat → Nat} {n' : Nat} {P : Option Value → Rho → Mem → Prop} {a : Array Value}
    (hr : va_Run p l e R s m args below meth c H locs cells slots mc ms (F0 m pc ls st0) rest (QcM dC dI dA ad n' P a) (fun q => ad 0 ≤ q)) (hS : va_S (fun q => ad 0 ≤ q) s.heap H locs)
    (kk : ∀ (r : Option Value) (ρ' : Rho) (I' : Mem) (H1 : Heap) (locs1 : List Loc), P r ρ' I' → Wo dC dI dA ad n' ρ' I' H1 → va_S (fun q => ad 0 ≤ q) s.heap H1 locs1 → W p l e R s m args below meth c H1 locs1 (cells + mc) (slots + ms) Q (F0 m (pc + 3) ls ((r.map (cvV ad)).toList ++ rest))) : W p l e R s m args below meth c H locs cells slots Q (F0 m pc ls st0) := by
  intro T hT X
  obtain ⟨v, st₀, t, T', L, h0, X', hL, e1, e2, ⟨⟨r, ρ', I', hv, hp, hb⟩, hz, hk⟩, st⟩ := hr T hT X
  cases hv
  rw [h0] at hz hk
  obtain ⟨t2, a1, b1⟩ := kk r ρ' I' T'.heap (locs ++ L) hp (by rw [e1]; exact hb)
    ⟨Nat.le_trans hS.1 (by rw [e1]; exact hz), fun q h1 h2 => by rw [e1, hk q (Nat.lt_of_lt_of_le h1 hS.1) h2]; exact hS.2.1 q h1 h2, fun q hq => by
      rcases List.mem_append.mp hq with h | h
      · exact hS.2.2 q h
      · exact hL q h⟩ T' rfl X'
  exact ⟨t2, st t2 a1, b1⟩
/-- what the tables say of a method -/
def MF (y : MethodName) (cc : ByteArray) (nL : Nat) (ret : Option FieldType) (cnt : Nat) : Prop :=
  (y.cls ≠ "java/lang/invoke/MethodHandle" ∧ y.cls ≠ "java/lang/invoke/VarHandle" ∧ (parseMethodDescriptor y.desc).map (fun d => d.parameters.length) = some cnt) ∧ Cond.code y cc nL ret ∈ GW ∧ Cond.initialized y.cls ∈ GW ∧ nL ≤ 20
theorem GW_goodIn {ws : List Cond} (h : ∀ w ∈ ws, w ∈ GW) : GoodIn GW ws := fun w hw => ⟨h w hw, GW_good (h w hw)⟩
theorem GW_ws {y : MethodName} {cc : ByteArray} {nL cnt : Nat} {ret : Option FieldType} (h : MF y cc nL ret cnt) : ∀ w ∈ (.code y cc nL ret :: GW : List Cond), w ∈ GW := by
  intro w hw
  rcases List.mem_cons.mp hw with rfl | hw
  · exact h.2.1
  · exact hw
section
variable {κ : Kap} {y : MethodName} {cc : ByteArray} {nL d n1 n : Nat} {ρ : Rho} {pc : Nat} {lv : List (Nat × Value)} {st : List Value} {I : Mem} {P : Option Value → Rho → Mem → Prop}
variable {y' : MethodName} {cc' : ByteArray} {nL' d' k idx cnt : Nat} {ret' : Option FieldType}
/-- the words of a call: a link of the class's own, or between nest mates; an instance method, or a static one -/
def LinkV (own : String) (idx : Nat) (y : MethodName) : Prop := (Cond.methodLink own idx y ∈ GW ∨ ∃ h, (own, idx, y, h) ∈ nestL) ∧ Cond.instanceMethod y ∈ GW ∧ Cond.selects y.cls y y ∈ GW
def LinkS (own : String) (idx : Nat) (y : MethodName) : Prop := (Cond.methodLink own idx y ∈ GW ∨ ∃ h, (own, idx, y, h) ∈ nestL) ∧ Cond.static y ∈ GW
def LinkI (own : String) (idx : Nat) (y : MethodName) : Prop := (Cond.methodLink own idx y ∈ GW ∨ ∃ h, (own, idx, y, h) ∈ nestL) ∧ Cond.instanceMethod y ∈ GW ∧ y.name = "<init>"
theorem room_of {R : Room} {mc ms : Nat} (hd : d' < d) (h1 : d + 1 ≤ R.frames) (h2 : 40 * (d + 1) ≤ R.locals) (h3 : nL' ≤ 20) : (rmD d' mc ms).frames + 1 ≤ R.frames ∧ 8 + (nL' + 11) + (rmD d' mc ms).locals ≤ R.locals := by
  constructor
  · show d' + 1 + 1 ≤ R.frames
    omega
  · show 8 + (nL' + 11) + 40 * (d' + 1) ≤ R.locals
    omega
theorem g_callV (C : Cx κ y cc nL d n1) (hM : MF y' cc' nL' ret' cnt) (hL : LinkV y.cls idx y') {i c N : Nat} {As : List Value} (hc : MG y' cc' nL' ret' d' k (.ref i :: As) n ρ I P) (hd : d' < d) (hk : n + k ≤ n1) (hn : As.length = cnt) (hs : shp i = (c + 10, N)) (hcl : (vwCl[c]?).map (fun q => q.1) = some y'.cls) (hi : i < n) (hst : (st.map fun v => v.category).sum ≤ 8) (dg : decode cc pc = .ok (.invokevirtual idx, 3))
    (K : ∀ (r : Option Value) (ρ' : Rho) (I' : Mem), P r ρ' I' → G κ (n + k) ρ' (pc + 3) lv (r.toList ++ st) I') : G κ n ρ pc lv (As.reverse ++ .ref i :: st) I := by
  obtain ⟨p, l, e, R, s, m, args, below, meth, cd, Q, dC, dI, dA, ad, n0⟩ := κ
  obtain ⟨hx, hb, hml, hown, hts, hlk, hnm, hKt, hSt, h01, h19, hrc, hrs, hfr, hlo, hb0⟩ := C
  intro h0 H locs ls hW hS hl
  have hf : n - n0 + k ≤ R.cells ∧ sl n - sl n0 + (sl (n + k) - sl n) ≤ R.slots := by
    have q1 := sl_mono (Nat.le_add_right n k)
    have q2 := sl_mono hk
    have q3 := sl_mono h0
    omega
  obtain ⟨q, hq, hqc⟩ := Option.map_eq_some_iff.mp hcl
  obtain ⟨cell, g1, g2, g3, -⟩ := atI_obj (hW.2 i hi) hs
  have hrecv : ∃ cell : Cell, H[ad i]? = some cell ∧ cell.vm.isStatics = false ∧ s.vm.findClass y'.cls = some cell.cls := ⟨cell, g1, by rw [g3]; rfl, by rw [g2, ← hqc]; exact (hKt.1.1 c q hq).2.1⟩
  have hp : PreV s H y'.cls (ad i) (PcM dC dI dA ad (.ref i :: As) n ρ I) (As.map (cvV ad)) := ⟨PcM.blind, hrecv, fun U hU hWm => ⟨rfl, by rw [hU]; exact hW, hKt.moved hWm, by rw [hU]; exact hSt.moved hWm hS, by rw [hU]; exact Nat.le_trans hb0 hS.1⟩⟩
  have hstk : (As.reverse ++ .ref i :: st).map (cvV ad) = (As.map (cvV ad)).reverse ++ .ref (ad i) :: st.map (cvV ad) := by simp [cvV]
  have hroom : 2 * (F0 m pc ls ((As.reverse ++ .ref i :: st).map (cvV ad))).monitorRoom + ((st.map (cvV ad)).map fun v => v.category).sum ≤ 8 := by
    refine lv_room (rest := ((As.reverse ++ .ref i :: st).map (cvV ad))) ?_
    rw [List.map_map]
    have : ((fun v => v.category) ∘ cvV ad) = fun v : Value => v.category := by funext v; exact cvV_cat ad v
    rw [this]; exact hst
  have hrun : va_Run p l e R s m args below meth cd H locs (n - n0) (sl n - sl n0) k (sl (n + k) - sl n) (F0 m pc ls ((As.reverse ++ .ref i :: st).map (cvV ad))) (st.map (cvV ad)) (QcM dC dI dA ad (n + k) P (Value.ref (ad i) :: As.map (cvV ad)).toArray) (fun q => ad 0 ≤ q) := by
    obtain ⟨hlink, hinst, hsel⟩ := hL
    rcases hlink with hlink | ⟨h, hlink⟩
    · exact va_runV (own := y.cls) (C := y'.cls) ⟨hx, hb, hml, hown, hts⟩ (hc l dC dI dA ad) (cwV cnt hts (GW_goodIn (fun w hw => by
        unfold wsV at hw
        rcases List.mem_append.mp hw with hw | hw
        · simp only [List.mem_cons, List.not_mem_nil, or_false] at hw
          rcases hw with rfl | rfl | rfl | rfl
          · exact hlink
          · exact hinst
          · exact hsel
          · exact hM.2.2.1
        · exact GW_ws hM w hw)) rfl rfl rfl ⟨rfl, hM.1⟩ (room_of hd hfr hlo hM.2.2.2)) hp rfl (by rw [List.length_map]; exact hn) (hl.1.trans hml) hstk hroom dg hf
    · exact va_runVN (own := y.cls) (C := y'.cls) (host := h) ⟨hx, hb, hml, hown, hts⟩ (hc l dC dI dA ad) ⟨va_cnB cnt hts (GW_goodIn (GW_ws hM)) rfl rfl rfl (hKt.2.2.1 _ hlink) (hts _ hM.2.2.1) hM.1 (room_of hd hfr hlo hM.2.2.2), hts _ hinst, hts _ hsel⟩ hp rfl (by rw [List.length_map]; exact hn) (hl.1.trans hml) hstk hroom dg hf
  refine run_go hrun hS fun r ρ' I' H1 locs1 hP hW1 hS1 => ?_
  have q1 := sl_mono (Nat.le_add_right n k)
  have q3 := sl_mono h0
  have e1 : n - n0 + k = n + k - n0 := by omega
  have e2 : sl n - sl n0 + (sl (n + k) - sl n) = sl (n + k) - sl n0 := by omega
  have e3 : (r.map (cvV ad)).toList ++ st.map (cvV ad) = (r.toList ++ st).map (cvV ad) := by cases r <;> simp
  rw [e1, e2, e3]
  exact K r ρ' I' hP (by omega) H1 locs1 ls hW1 hS1 hl
theorem g_callS (C : Cx κ y cc nL d n1) (hM : MF y' cc' nL' ret' cnt) (hL : LinkS y.cls idx y') {As : List Value} (hc : MG y' cc' nL' ret' d' k As n ρ I P) (hd : d' < d) (hk : n + k ≤ n1) (hn : As.length = cnt) (hst : (st.map fun v => v.category).sum ≤ 8) (dg : decode cc pc = .ok (.invokestatic idx, 3))
    (K : ∀ (r : Option Value) (ρ' : Rho) (I' : Mem), P r ρ' I' → G κ (n + k) ρ' (pc + 3) lv (r.toList ++ st) I') : G κ n ρ pc lv (As.reverse ++ st) I := by
  obtain ⟨p, l, e, R, s, m, args, below, meth, cd, Q, dC, dI, dA, ad, n0⟩ := κ
  obtain ⟨hx, hb, hml, hown, hts, hlk, hnm, hKt, hSt, h01, h19, hrc, hrs, hfr, hlo, hb0⟩ := C
  intro h0 H locs ls hW hS hl
  have hf : n - n0 + k ≤ R.cells ∧ sl n - sl n0 + (sl (n + k) - sl n) ≤ R.slots := by
    have q1 := sl_mono (Nat.le_add_right n k)
    have q2 := sl_mono hk
    have q3 := sl_mono h0
    omega
  have hp : PreS s H (PcM dC dI dA ad As n ρ I) (As.map (cvV ad)) := ⟨PcM.blind, fun U hU hWm => ⟨rfl, by rw [hU]; exact hW, hKt.moved hWm, by rw [hU]; exact hSt.moved hWm hS, by rw [hU]; exact Nat.le_trans hb0 hS.1⟩⟩
  have hstk : (As.reverse ++ st).map (cvV ad) = (As.map (cvV ad)).reverse ++ st.map (cvV ad) := by simp
  have hroom : 2 * (F0 m pc ls ((As.reverse ++ st).map (cvV ad))).monitorRoom + ((st.map (cvV ad)).map fun v => v.category).sum ≤ 8 := by
    refine lv_room (rest := ((As.reverse ++ st).map (cvV ad))) ?_
    rw [List.map_map]
    have : ((fun v => v.category) ∘ cvV ad) = fun v : Value => v.category := by funext v; exact cvV_cat ad v
    rw [this]; exact hst
  have hrun : va_Run p l e R s m args below meth cd H locs (n - n0) (sl n - sl n0) k (sl (n + k) - sl n) (F0 m pc ls ((As.reverse ++ st).map (cvV ad))) (st.map (cvV ad)) (QcM dC dI dA ad (n + k) P (As.map (cvV ad)).toArray) (fun q => ad 0 ≤ q) := by
    obtain ⟨hlink, hstat⟩ := hL
    rcases hlink with hlink | ⟨h, hlink⟩
    · exact va_runS (own := y.cls) ⟨hx, hb, hml, hown, hts⟩ (hc l dC dI dA ad) (va_cwS cnt hts (GW_goodIn (fun w hw => by
        unfold va_wsS at hw
        rcases List.mem_append.mp hw with hw | hw
        · simp only [List.mem_cons, List.not_mem_nil, or_false] at hw
          rcases hw with rfl | rfl | rfl
          · exact hlink
          · exact hstat
          · exact hM.2.2.1
        · exact GW_ws hM w hw)) rfl rfl rfl hM.1 (room_of hd hfr hlo hM.2.2.2)) hp rfl (by rw [List.length_map]; exact hn) (hl.1.trans hml) hstk hroom dg hf
    · exact va_runSN (own := y.cls) (host := h) ⟨hx, hb, hml, hown, hts⟩ (hc l dC dI dA ad) ⟨va_cnB cnt hts (GW_goodIn (GW_ws hM)) rfl rfl rfl (hKt.2.2.1 _ hlink) (hts _ hM.2.2.1) hM.1 (room_of hd hfr hlo hM.2.2.2), hts _ hstat, trivial⟩ hp rfl (by rw [List.length_map]; exact hn) (hl.1.trans hml) hstk hroom dg hf
  refine run_go hrun hS fun r ρ' I' H1 locs1 hP hW1 hS1 => ?_
  have q1 := sl_mono (Nat.le_add_right n k)
  have q3 := sl_mono h0
  have e1 : n - n0 + k = n + k - n0 := by omega
  have e2 : sl n - sl n0 + (sl (n + k) - sl n) = sl (n + k) - sl n0 := by omega
  have e3 : (r.map (cvV ad)).toList ++ st.map (cvV ad) = (r.toList ++ st).map (cvV ad) := by cases r <;> simp
  rw [e1, e2, e3]
  exact K r ρ' I' hP (by omega) H1 locs1 ls hW1 hS1 hl
theorem g_callI (C : Cx κ y cc nL d n1) (hM : MF y' cc' nL' none cnt) (hL : LinkI y.cls idx y') {i c N : Nat} {As : List Value} (hc : MG y' cc' nL' none d' k (.ref i :: As) n ρ I P) (hd : d' < d) (hk : n + k ≤ n1) (hn : As.length = cnt) (hs : shp i = (c + 10, N)) (hcl : (vwCl[c]?).map (fun q => q.1) = some y'.cls) (hi : i < n) (hst : (st.map fun v => v.category).sum ≤ 8) (dg : decode cc pc = .ok (.invokespecial idx, 3))
    (K : ∀ (r : Option Value) (ρ' : Rho) (I' : Mem), P r ρ' I' → G κ (n + k) ρ' (pc + 3) lv (r.toList ++ st) I') : G κ n ρ pc lv (As.reverse ++ .ref i :: st) I := by
  obtain ⟨p, l, e, R, s, m, args, below, meth, cd, Q, dC, dI, dA, ad, n0⟩ := κ
  obtain ⟨hx, hb, hml, hown, hts, hlk, hnm, hKt, hSt, h01, h19, hrc, hrs, hfr, hlo, hb0⟩ := C
  intro h0 H locs ls hW hS hl
  have hf : n - n0 + k ≤ R.cells ∧ sl n - sl n0 + (sl (n + k) - sl n) ≤ R.slots := by
    have q1 := sl_mono (Nat.le_add_right n k)
    have q2 := sl_mono hk
    have q3 := sl_mono h0
    omega
  have hp : PreS s H (PcM dC dI dA ad (.ref i :: As) n ρ I) (.ref (ad i) :: As.map (cvV ad)) := ⟨PcM.blind, fun U hU hWm => ⟨rfl, by rw [hU]; exact hW, hKt.moved hWm, by rw [hU]; exact hSt.moved hWm hS, by rw [hU]; exact Nat.le_trans hb0 hS.1⟩⟩
  have hstk : (As.reverse ++ .ref i :: st).map (cvV ad) = (As.map (cvV ad)).reverse ++ .ref (ad i) :: st.map (cvV ad) := by simp [cvV]
  have hroom : 2 * (F0 m pc ls ((As.reverse ++ .ref i :: st).map (cvV ad))).monitorRoom + ((st.map (cvV ad)).map fun v => v.category).sum ≤ 8 := by
    refine lv_room (rest := ((As.reverse ++ .ref i :: st).map (cvV ad))) ?_
    rw [List.map_map]
    have : ((fun v => v.category) ∘ cvV ad) = fun v : Value => v.category := by funext v; exact cvV_cat ad v
    rw [this]; exact hst
  have hrun : va_Run p l e R s m args below meth cd H locs (n - n0) (sl n - sl n0) k (sl (n + k) - sl n) (F0 m pc ls ((As.reverse ++ .ref i :: st).map (cvV ad))) (st.map (cvV ad)) (QcM dC dI dA ad (n + k) P (Value.ref (ad i) :: As.map (cvV ad)).toArray) (fun q => ad 0 ≤ q) := by
    obtain ⟨hlink, hinst, hin⟩ := hL
    rcases hlink with hlink | ⟨h, hlink⟩
    · exact va_runI (own := y.cls) ⟨hx, hb, hml, hown, hts⟩ (hc l dC dI dA ad) (cwI cnt hts (GW_goodIn (GW_ws hM)) rfl rfl rfl (hts _ hM.2.2.1) (hts _ hlink) (hts _ hinst) hin hM.1 (room_of hd hfr hlo hM.2.2.2)) hp rfl (by rw [List.length_map]; exact hn) (hl.1.trans hml) hstk hroom dg hf
    · exact va_runIN (own := y.cls) (host := h) ⟨hx, hb, hml, hown, hts⟩ (hc l dC dI dA ad) ⟨va_cnB cnt hts (GW_goodIn (GW_ws hM)) rfl rfl rfl (hKt.2.2.1 _ hlink) (hts _ hM.2.2.1) hM.1 (room_of hd hfr hlo hM.2.2.2), hin, hts _ hinst⟩ hp rfl (by rw [List.length_map]; exact hn) (hl.1.trans hml) hstk hroom dg hf
  refine run_go hrun hS fun r ρ' I' H1 locs1 hP hW1 hS1 => ?_
  have q1 := sl_mono (Nat.le_add_right n k)
  have q3 := sl_mono h0
  have e1 : n - n0 + k = n + k - n0 := by omega
  have e2 : sl n - sl n0 + (sl (n + k) - sl n) = sl (n + k) - sl n0 := by omega
  have e3 : (r.map (cvV ad)).toList ++ st.map (cvV ad) = (r.toList ++ st).map (cvV ad) := by cases r <;> simp
  rw [e1, e2, e3]
  exact K r ρ' I' hP (by omega) H1 locs1 ls hW1 hS1 hl
end
end GC
