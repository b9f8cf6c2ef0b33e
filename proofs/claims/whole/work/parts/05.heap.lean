section GH
variable {κ : Kap} {y : MethodName} {cc : ByteArray} {nL d n1 n : Nat} {ρ : Rho} {pc : Nat} {lv : List (Nat × Value)} {st : List Value} {I : Mem}
variable {dC : Nat → ClassId} {dI : Nat → Nat → Nat} {dA : Nat → ClassId} {ad : Nat → Nat} {H H1 : Heap} {i : Nat}
theorem atI_int {k N : Nat} (h : atI dC dI dA ad ρ I i H) (hs : shp i = (k, N)) (hk : k < 3) : H[ad i]? = some (arrV (dA k) N (fun j => .int (I i j))) := by
  unfold atI at h
  rw [hs] at h
  rw [if_pos hk] at h
  exact h
theorem atI_rfs {k N : Nat} (h : atI dC dI dA ad ρ I i H) (hs : shp i = (k, N)) (hk : 3 ≤ k ∧ k < 10) : H[ad i]? = some (arrV (dA k) N (fun j => va_rf ((ρ i j).map ad))) := by
  unfold atI at h
  rw [hs] at h
  rw [if_neg (by show ¬ k < 3; omega), if_pos hk.2] at h
  exact h
theorem atI_obj {c N : Nat} (h : atI dC dI dA ad ρ I i H) (hs : shp i = (c + 10, N)) : t_OB (ad i) (dC c) N (dI c) H (fun k => if refF c k = true then va_rf ((ρ i k).map ad) else .int (I i k)) := by
  unfold atI at h
  rw [hs] at h
  rw [if_neg (by show ¬ c + 10 < 3; omega), if_neg (by show ¬ c + 10 < 10; omega)] at h
  exact h
theorem atI_of_int {k N : Nat} (hs : shp i = (k, N)) (hk : k < 3) (h : H[ad i]? = some (arrV (dA k) N (fun j => .int (I i j)))) : atI dC dI dA ad ρ I i H := by
  unfold atI
  rw [hs]
  rw [if_pos hk]
  exact h
theorem atI_of_rfs {k N : Nat} (hs : shp i = (k, N)) (hk : 3 ≤ k ∧ k < 10) (h : H[ad i]? = some (arrV (dA k) N (fun j => va_rf ((ρ i j).map ad)))) : atI dC dI dA ad ρ I i H := by
  unfold atI
  rw [hs]
  rw [if_neg (by show ¬ k < 3; omega), if_pos hk.2]
  exact h
theorem atI_of_obj {c N : Nat} (hs : shp i = (c + 10, N)) (h : t_OB (ad i) (dC c) N (dI c) H (fun k => if refF c k = true then va_rf ((ρ i k).map ad) else .int (I i k))) : atI dC dI dA ad ρ I i H := by
  unfold atI
  rw [hs]
  rw [if_neg (by show ¬ c + 10 < 3; omega), if_neg (by show ¬ c + 10 < 10; omega)]
  exact h
theorem atI.kept {ρ' : Rho} {I' : Mem} (h : atI dC dI dA ad ρ I i H) (hq : H1[ad i]? = H[ad i]?) (hI : I' i = I i) (hρ : ρ' i = ρ i) : atI dC dI dA ad ρ' I' i H1 := by
  unfold atI at h ⊢
  rw [hI, hρ]
  split at h
  · rw [if_pos (by assumption), hq]; exact h
  · rw [if_neg (by assumption)]
    split at h
    · rw [if_pos (by assumption), hq]; exact h
    · rw [if_neg (by assumption)]; exact h.kept hq
theorem Wo.put {ρ' : Rho} {I' : Mem} (hW : Wo dC dI dA ad n ρ I H) (hn : n ≤ 999) (hi : i < n) (hinj : ∀ a, a < 1000 → ad a = ad 0 + a) (z : H1.size = H.size) (oq : ∀ q, q ≠ ad i → H1[q]? = H[q]?) (new : atI dC dI dA ad ρ' I' i H1) (hI : ∀ a, a ≠ i → I' a = I a) (hρ : ∀ a, a ≠ i → ρ' a = ρ a) : Wo dC dI dA ad n ρ' I' H1 := by
  refine ⟨z.trans hW.1, fun a ha => ?_⟩
  by_cases e : a = i
  · rw [e]; exact new
  · refine (hW.2 a ha).kept (oq _ ?_) (hI a e) (hρ a e)
    rw [hinj a (by omega), hinj i (by omega)]
    omega
/-- a field's words: 'own' reads by pool number idx the field k of class c, which has N -/
def FL (own : String) (idx c k N : Nat) : Prop := ∃ (C : String) (T : u_T), vwCl[c]? = some (C, T, N) ∧ k < N ∧ Cond.fieldLink own idx (T k).1 (T k).2.1 (T k).2.2.1 ∈ GW ∧ ∀ w ∈ u_ws C T N, w ∈ GW
def FP (c k N : Nat) (fin : Bool) (ty : FieldType) : Prop := ∃ (C : String) (T : u_T) (ty0 : Nat → FieldType), vwCl[c]? = some (C, T, N) ∧ (T k).2.2.2 = fin ∧ (T k).1 = C ∧ parseFieldDescriptor (T k).2.2.1 = some ty ∧ (∀ k, k < N → parseFieldDescriptor (T k).2.2.1 = some (ty0 k)) ∧ ∀ a, a < N → ∀ b, b < N → a ≠ b → (T a).2.1 ≠ (T b).2.1
theorem g_getI (C : Cx κ y cc nL d n1) {c k N idx : Nat} (hf : FL y.cls idx c k N) (hr : refF c k = false) (hs : shp i = (c + 10, N)) (hi : i < n) (dg : decode cc pc = .ok (.getfield idx, 3)) (K : G κ n ρ (pc + 3) lv (.int (I i k) :: st) I) : G κ n ρ pc lv (.ref i :: st) I := by
  obtain ⟨p, l, e, R, s, m, args, below, meth, cd, Q, dC, dI, dA, ad, n0⟩ := κ
  obtain ⟨hx, hb, hml, hown, hts, -, -, hKt, -⟩ := C
  obtain ⟨Cn, T, hc, hk, hlink, hin⟩ := hf
  intro h0 H locs ls hW hS hl
  obtain ⟨cell, q1, q2, q3, q4⟩ := atI_obj (hW.2 i hi) hs
  obtain ⟨hSl, hfc, kC, hkC, hkind⟩ := hKt.1.1 c _ hc
  obtain ⟨cf, kf, fi, f, hfi, hsl⟩ := hSl k hk
  refine W.getf hx hb hown (hts _ hlink) hfi (u_facts hfc hkC (u_lays hts hin hk) hfi).1 q1 (by rw [q3]; exact fun h => by cases h) (v := .int (I i k)) ?_ rfl rfl dg (K h0 H locs ls hW hS hl)
  rw [hsl, q4 k hk]
  simp [hr]
theorem g_getR (C : Cx κ y cc nL d n1) {c k N idx j : Nat} (hf : FL y.cls idx c k N) (hr : refF c k = true) (hs : shp i = (c + 10, N)) (hi : i < n) (hρ : ρ i k = some j) (dg : decode cc pc = .ok (.getfield idx, 3)) (K : G κ n ρ (pc + 3) lv (.ref j :: st) I) : G κ n ρ pc lv (.ref i :: st) I := by
  obtain ⟨p, l, e, R, s, m, args, below, meth, cd, Q, dC, dI, dA, ad, n0⟩ := κ
  obtain ⟨hx, hb, hml, hown, hts, -, -, hKt, -⟩ := C
  obtain ⟨Cn, T, hc, hk, hlink, hin⟩ := hf
  intro h0 H locs ls hW hS hl
  obtain ⟨cell, q1, q2, q3, q4⟩ := atI_obj (hW.2 i hi) hs
  obtain ⟨hSl, hfc, kC, hkC, hkind⟩ := hKt.1.1 c _ hc
  obtain ⟨cf, kf, fi, f, hfi, hsl⟩ := hSl k hk
  refine W.getf hx hb hown (hts _ hlink) hfi (u_facts hfc hkC (u_lays hts hin hk) hfi).1 q1 (by rw [q3]; exact fun h => by cases h) (v := .ref (ad j)) ?_ rfl rfl dg (K h0 H locs ls hW hS hl)
  rw [hsl, q4 k hk]
  simp [hr, hρ, va_rf]
theorem g_getNull (C : Cx κ y cc nL d n1) {c k N idx : Nat} (hf : FL y.cls idx c k N) (hr : refF c k = true) (hs : shp i = (c + 10, N)) (hi : i < n) (hρ : ρ i k = none) (dg : decode cc pc = .ok (.getfield idx, 3)) (K : G κ n ρ (pc + 3) lv (.null :: st) I) : G κ n ρ pc lv (.ref i :: st) I := by
  obtain ⟨p, l, e, R, s, m, args, below, meth, cd, Q, dC, dI, dA, ad, n0⟩ := κ
  obtain ⟨hx, hb, hml, hown, hts, -, -, hKt, -⟩ := C
  obtain ⟨Cn, T, hc, hk, hlink, hin⟩ := hf
  intro h0 H locs ls hW hS hl
  obtain ⟨cell, q1, q2, q3, q4⟩ := atI_obj (hW.2 i hi) hs
  obtain ⟨hSl, hfc, kC, hkC, hkind⟩ := hKt.1.1 c _ hc
  obtain ⟨cf, kf, fi, f, hfi, hsl⟩ := hSl k hk
  refine W.getf hx hb hown (hts _ hlink) hfi (u_facts hfc hkC (u_lays hts hin hk) hfi).1 q1 (by rw [q3]; exact fun h => by cases h) (v := .null) ?_ rfl rfl dg (K h0 H locs ls hW hS hl)
  rw [hsl, q4 k hk]
  simp [hr, hρ, va_rf]
theorem va_S.put1 {A : Nat → Prop} {H0 H H1 : Heap} {locs : List Loc} {a k : Nat} (h : va_S A H0 H locs) (z : H1.size = H.size) (oq : ∀ q : Nat, q ≠ a → H1[q]? = H[q]?) (ha : A a) : va_S A H0 H1 (locs ++ [⟨a, k⟩]) := h.put z oq ha
/-- a field is written: what the heap holds then *)-/
theorem g_put (C : Cx κ y cc nL d n1) {c k N idx : Nat} {ty : FieldType} {fin : Bool} {v : Value} {ρ' : Rho} {I' : Mem} (hf : FL y.cls idx c k N) (hp : FP c k N fin ty) (hfin : fin = false ∨ (y.name = "<init>" ∧ ∀ C T N', vwCl[c]? = some (C, T, N') → C = y.cls)) (hs : shp i = (c + 10, N)) (hi : i < n) (hn : n ≤ 999)
    (hv : ∀ ad : Nat → Nat, narrow ty (cvV ad v) = cvV ad v ∧ fits ty (cvV ad v) = true) (hV : ∀ (ad : Nat → Nat) (j : Nat), (if j = k then cvV ad v else (if refF c j = true then va_rf ((ρ i j).map ad) else .int (I i j))) = (if refF c j = true then va_rf ((ρ' i j).map ad) else .int (I' i j))) (hI : ∀ a, a ≠ i → I' a = I a) (hρ : ∀ a, a ≠ i → ρ' a = ρ a)
    (dg : decode cc pc = .ok (.putfield idx, 3)) (K : G κ n ρ' (pc + 3) lv st I') : G κ n ρ pc lv (v :: .ref i :: st) I := by
  obtain ⟨p, l, e, R, s, m, args, below, meth, cd, Q, dC, dI, dA, ad, n0⟩ := κ
  obtain ⟨hx, hb, hml, hown, hts, hlk, hnm, hKt, hSt, h01, h19, -, -, -, -, hb0⟩ := C
  obtain ⟨Cn, T, hc, hk, hlink, hin⟩ := hf
  obtain ⟨Cn', T', ty0, hc', hf1, hf2, hd, hty, hnam⟩ := hp
  cases hc.symm.trans hc'
  intro h0 H locs ls hW hS hl
  obtain ⟨cell, q1, q2, q3, q4⟩ := atI_obj (hW.2 i hi) hs
  have hKn := hKt.1.1 c _ hc
  obtain ⟨hSl, hfc, kC, hkC, hkind⟩ := hKn
  obtain ⟨cf, kf, fi, f, hfi, hsl⟩ := hSl k hk
  have hinj := hKt.2.2.2.2.2.2
  have hap := va_apart (own := y.cls) hts hin ty0 hty hnam hKt.1 hc
  have hA : ad 0 ≤ ad i := by rw [hinj i (by omega)]; omega
  have hst := (u_facts hfc hkC (u_lays hts hin hk) hfi).1
  have key : ∀ H' : Heap, H'[ad i]? = some (cell.setSlot (dI c k) (cvV ad v)) → H'.size = H.size → (∀ q, q ≠ ad i → H'[q]? = H[q]?) → W p l e R s m args below meth cd H' (locs ++ [⟨ad i, dI c k⟩]) (n - n0) (sl n - sl n0) Q (F0 m (pc + 3) ls (st.map (cvV ad))) := by
    intro H' e1 e2 e3
    refine K h0 H' _ ls (hW.put hn hi hinj e2 e3 (atI_of_obj hs ?_) hI hρ) (hS.put e2 e3 hA) hl
    refine t_OB.to (V := updV (fun k => if refF c k = true then va_rf ((ρ i k).map ad) else .int (I i k)) k (cvV ad v)) ⟨_, e1, q2, q3, t_set q4 hap hk (cvV ad v)⟩ (fun j _ => ?_)
    show (if j = k then _ else _) = _
    exact hV ad j
  have hlt : f.slot < cell.slots.size := by rw [hsl]; exact k2_hasslot (q4 k hk)
  rcases hfin with hfin | ⟨hfin, hcy⟩
  · have hlay := hts _ (hin _ (u_in_lay hk))
    unfold u_lay at hlay
    rw [if_neg (by rw [hf1, hfin]; decide)] at hlay
    have h6 := u_store hfc hkC hkind hlay hfi hd (hv ad).1 (hv ad).2
    refine W.putK hx hb (f := f) ⟨hown, hts _ hlink, ⟨_, _, _, hfi⟩, hst⟩ (by rw [q2]; exact h6) q1 q3 hlt rfl rfl dg fun H' e1 e2 e3 => ?_
    rw [hsl] at e1 ⊢
    exact key H' e1 e2 e3
  · cases fin with
    | false =>
      have hlay := hts _ (hin _ (u_in_lay hk))
      unfold u_lay at hlay
      rw [if_neg (by rw [hf1]; decide)] at hlay
      have h6 := u_store hfc hkC hkind hlay hfi hd (hv ad).1 (hv ad).2
      refine W.putK hx hb (f := f) ⟨hown, hts _ hlink, ⟨_, _, _, hfi⟩, hst⟩ (by rw [q2]; exact h6) q1 q3 hlt rfl rfl dg fun H' e1 e2 e3 => ?_
      rw [hsl] at e1 ⊢
      exact key H' e1 e2 e3
    | true =>
      have hlay := hts _ (hin _ (u_in_lay hk))
      unfold u_lay at hlay
      rw [if_pos hf1] at hlay
      have hcf : m.cls = cf := by
        obtain ⟨_, _, c', _, _, _, -, -, hf', -, -, -, hown2, -⟩ := Cond.laysFinal_spec hlay
        have e1 : c' = cf := by have := hfi.symm.trans hf'; simp at this; exact this.1.symm
        rw [hf2, hcy _ _ _ hc] at hown2
        rw [← e1]; exact Option.some.inj (hown.symm.trans hown2)
      have h6 := u_fits hfc hkC hkind (Or.inr hlay) hfi hd (hv ad).1 (hv ad).2
      refine W.putFinK hx hb hown (hts _ hlink) hfi hst hcf (by rw [hnm]; exact hfin) (by rw [q2]; exact h6) q1 q3 hlt rfl rfl dg fun H' e1 e2 e3 => ?_
      rw [hsl] at e1 ⊢
      exact key H' e1 e2 e3
theorem g_putI (C : Cx κ y cc nL d n1) {c k N idx : Nat} {ty : FieldType} {fin : Bool} {x : Int32} (hf : FL y.cls idx c k N) (hr : refF c k = false) (hp : FP c k N fin ty) (hfin : fin = false ∨ (y.name = "<init>" ∧ ∀ C T N', vwCl[c]? = some (C, T, N') → C = y.cls)) (hv : narrow ty (.int x) = .int x ∧ fits ty (.int x) = true) (hs : shp i = (c + 10, N)) (hi : i < n) (hn : n ≤ 999) (dg : decode cc pc = .ok (.putfield idx, 3)) (K : G κ n ρ (pc + 3) lv st (wr I i k x)) : G κ n ρ pc lv (.int x :: .ref i :: st) I := by
  refine g_put C (v := .int x) (ρ' := ρ) hf hp hfin hs hi hn (fun ad => hv) (fun ad j => ?_) (fun a ha => wr_n ha) (fun _ _ => rfl) dg K
  by_cases e : j = k
  · subst e; simp [hr, wr_ss, cvV]
  · rw [if_neg e, wr_sn e]
theorem g_putR (C : Cx κ y cc nL d n1) {c k N idx j : Nat} {C' : String} {fin : Bool} (hf : FL y.cls idx c k N) (hr : refF c k = true) (hp : FP c k N fin (.object C')) (hfin : fin = false ∨ (y.name = "<init>" ∧ ∀ C T N', vwCl[c]? = some (C, T, N') → C = y.cls)) (hs : shp i = (c + 10, N)) (hi : i < n) (hn : n ≤ 999) (dg : decode cc pc = .ok (.putfield idx, 3)) (K : G κ n (rwr ρ i k (some j)) (pc + 3) lv st I) : G κ n ρ pc lv (.ref j :: .ref i :: st) I := by
  refine g_put C (v := .ref j) (ρ' := rwr ρ i k (some j)) (I' := I) hf hp hfin hs hi hn (fun ad => ⟨rfl, rfl⟩) (fun ad q => ?_) (fun a ha => rfl) (fun a ha => by funext b; exact rwr_n (fun h => ha h.1)) dg K
  by_cases e : q = k
  · subst e; simp [hr, rwr_s, cvV, va_rf]
  · rw [if_neg e, rwr_n (fun h => e h.2)]
theorem g_putRA (C : Cx κ y cc nL d n1) {c k N idx j : Nat} {C' : FieldType} {fin : Bool} (hf : FL y.cls idx c k N) (hr : refF c k = true) (hp : FP c k N fin (.array C')) (hfin : fin = false ∨ (y.name = "<init>" ∧ ∀ C T N', vwCl[c]? = some (C, T, N') → C = y.cls)) (hs : shp i = (c + 10, N)) (hi : i < n) (hn : n ≤ 999) (dg : decode cc pc = .ok (.putfield idx, 3)) (K : G κ n (rwr ρ i k (some j)) (pc + 3) lv st I) : G κ n ρ pc lv (.ref j :: .ref i :: st) I := by
  refine g_put C (v := .ref j) (ρ' := rwr ρ i k (some j)) (I' := I) hf hp hfin hs hi hn (fun ad => ⟨rfl, rfl⟩) (fun ad q => ?_) (fun a ha => rfl) (fun a ha => by funext b; exact rwr_n (fun h => ha h.1)) dg K
  by_cases e : q = k
  · subst e; simp [hr, rwr_s, cvV, va_rf]
  · rw [if_neg e, rwr_n (fun h => e h.2)]
theorem g_putNull (C : Cx κ y cc nL d n1) {c k N idx : Nat} {C' : String} {fin : Bool} (hf : FL y.cls idx c k N) (hr : refF c k = true) (hp : FP c k N fin (.object C')) (hfin : fin = false ∨ (y.name = "<init>" ∧ ∀ C T N', vwCl[c]? = some (C, T, N') → C = y.cls)) (hs : shp i = (c + 10, N)) (hi : i < n) (hn : n ≤ 999) (dg : decode cc pc = .ok (.putfield idx, 3)) (K : G κ n (rwr ρ i k none) (pc + 3) lv st I) : G κ n ρ pc lv (.null :: .ref i :: st) I := by
  refine g_put C (v := .null) (ρ' := rwr ρ i k none) (I' := I) hf hp hfin hs hi hn (fun ad => ⟨rfl, rfl⟩) (fun ad q => ?_) (fun a ha => rfl) (fun a ha => by funext b; exact rwr_n (fun h => ha h.1)) dg K
  by_cases e : q = k
  · subst e; simp [hr, rwr_s, cvV, va_rf]
  · rw [if_neg e, rwr_n (fun h => e h.2)]
theorem tys_at {dA : Nat → ClassId} {U : State} (h : va_K (dC, dI) vwCl (tysOf dA) U) (k : Nat) {ty : FieldType} (hk : (tysOf dA)[k]? = some (dA k, ty)) : ArrOfT U (dA k) ty := (h.2 k _ hk).1
theorem g_iald (C : Cx κ y cc nL d n1) {N : Nat} {j : Int32} (hs : shp i = (0, N)) (hi : i < n) (hin : vp_in j N) (dg : decode cc pc = .ok (.iaload, 1)) (K : G κ n ρ (pc + 1) lv (.int (I i j.toNatClampNeg) :: st) I) : G κ n ρ pc lv (.int j :: .ref i :: st) I := by
  obtain ⟨p, l, e, R, s, m, args, below, meth, cd, Q, dC, dI, dA, ad, n0⟩ := κ
  obtain ⟨hx, hb, hml, hown, hts, -, -, hKt, -⟩ := C
  intro h0 H locs ls hW hS hl
  have hlt : j.toNatClampNeg < N := Nat.not_le.mp fun q => hin (Or.inr q)
  exact W.iald (v := .int (I i j.toNatClampNeg)) hx hb (atI_int (hW.2 i hi) hs (by decide)) (tys_at hKt.1 0 rfl N (fun j => .int (I i j))) (fun q => by cases q) (by rw [arrV_size]; exact hin) (by rw [arrV_read _ _ hlt]) rfl rfl dg (K h0 H locs ls hW hS hl)
theorem g_zald (C : Cx κ y cc nL d n1) {N : Nat} {j : Int32} (hs : shp i = (1, N)) (hi : i < n) (hin : vp_in j N) (dg : decode cc pc = .ok (.baload, 1)) (K : G κ n ρ (pc + 1) lv (.int (I i j.toNatClampNeg) :: st) I) : G κ n ρ pc lv (.int j :: .ref i :: st) I := by
  obtain ⟨p, l, e, R, s, m, args, below, meth, cd, Q, dC, dI, dA, ad, n0⟩ := κ
  obtain ⟨hx, hb, hml, hown, hts, -, -, hKt, -⟩ := C
  intro h0 H locs ls hW hS hl
  have hlt : j.toNatClampNeg < N := Nat.not_le.mp fun q => hin (Or.inr q)
  exact W.zald (v := .int (I i j.toNatClampNeg)) hx hb (atI_int (hW.2 i hi) hs (by decide)) (tys_at hKt.1 1 rfl N (fun j => .int (I i j))) (fun q => by cases q) (by rw [arrV_size]; exact hin) (by rw [arrV_read _ _ hlt]) rfl rfl dg (K h0 H locs ls hW hS hl)
theorem g_bald (C : Cx κ y cc nL d n1) {N : Nat} {j : Int32} (hs : shp i = (2, N)) (hi : i < n) (hin : vp_in j N) (dg : decode cc pc = .ok (.baload, 1)) (K : G κ n ρ (pc + 1) lv (.int (I i j.toNatClampNeg) :: st) I) : G κ n ρ pc lv (.int j :: .ref i :: st) I := by
  obtain ⟨p, l, e, R, s, m, args, below, meth, cd, Q, dC, dI, dA, ad, n0⟩ := κ
  obtain ⟨hx, hb, hml, hown, hts, -, -, hKt, -⟩ := C
  intro h0 H locs ls hW hS hl
  have hlt : j.toNatClampNeg < N := Nat.not_le.mp fun q => hin (Or.inr q)
  exact W.bald (v := .int (I i j.toNatClampNeg)) hx hb (atI_int (hW.2 i hi) hs (by decide)) (tys_at hKt.1 2 rfl N (fun j => .int (I i j))) (fun q => by cases q) (by rw [arrV_size]; exact hin) (by rw [arrV_read _ _ hlt]) rfl rfl dg (K h0 H locs ls hW hS hl)
theorem g_aald (C : Cx κ y cc nL d n1) {N k q : Nat} {j : Int32} (hk : k = 3 ∨ k = 4) (hs : shp i = (k, N)) (hi : i < n) (hin : vp_in j N) (hq : ρ i j.toNatClampNeg = some q) (dg : decode cc pc = .ok (.aaload, 1)) (K : G κ n ρ (pc + 1) lv (.ref q :: st) I) : G κ n ρ pc lv (.int j :: .ref i :: st) I := by
  obtain ⟨p, l, e, R, s, m, args, below, meth, cd, Q, dC, dI, dA, ad, n0⟩ := κ
  obtain ⟨hx, hb, hml, hown, hts, -, -, hKt, -⟩ := C
  intro h0 H locs ls hW hS hl
  have hlt : j.toNatClampNeg < N := Nat.not_le.mp fun q => hin (Or.inr q)
  rcases hk with rfl | rfl
  · exact W.aald (ty := .object "WeatherChess$Game") (v := .ref (ad q)) hx hb (atI_rfs (hW.2 i hi) hs (by decide)) (tys_at hKt.1 3 rfl N (fun j => va_rf ((ρ i j).map ad))) rfl (fun q => by cases q) (by rw [arrV_size]; exact hin) (by rw [arrV_read _ _ hlt, hq]; rfl) rfl rfl dg (K h0 H locs ls hW hS hl)
  · exact W.aald (ty := .array .int) (v := .ref (ad q)) hx hb (atI_rfs (hW.2 i hi) hs (by decide)) (tys_at hKt.1 4 rfl N (fun j => va_rf ((ρ i j).map ad))) rfl (fun q => by cases q) (by rw [arrV_size]; exact hin) (by rw [arrV_read _ _ hlt, hq]; rfl) rfl rfl dg (K h0 H locs ls hW hS hl)
theorem g_alen (C : Cx κ y cc nL d n1) {k N : Nat} (v : Int32) (hs : shp i = (k, N)) (hk : k < 5) (hi : i < n) (hv : Int32.ofNat N = v) (dg : decode cc pc = .ok (.arraylength, 1)) (K : G κ n ρ (pc + 1) lv (.int v :: st) I) : G κ n ρ pc lv (.ref i :: st) I := by
  obtain ⟨p, l, e, R, s, m, args, below, meth, cd, Q, dC, dI, dA, ad, n0⟩ := κ
  obtain ⟨hx, hb, hml, hown, hts, -, -, hKt, -⟩ := C
  intro h0 H locs ls hW hS hl
  subst hv
  have hcase : k = 0 ∨ k = 1 ∨ k = 2 ∨ k = 3 ∨ k = 4 := by omega
  rcases hcase with rfl | rfl | rfl | rfl | rfl
  · exact W.alen hx hb (atI_int (hW.2 i hi) hs (by decide)) (tys_at hKt.1 0 rfl N _) (by rw [arrV_size] <;> rfl) rfl rfl dg (K h0 H locs ls hW hS hl)
  · exact W.alen hx hb (atI_int (hW.2 i hi) hs (by decide)) (tys_at hKt.1 1 rfl N _) (by rw [arrV_size] <;> rfl) rfl rfl dg (K h0 H locs ls hW hS hl)
  · exact W.alen hx hb (atI_int (hW.2 i hi) hs (by decide)) (tys_at hKt.1 2 rfl N _) (by rw [arrV_size] <;> rfl) rfl rfl dg (K h0 H locs ls hW hS hl)
  · exact W.alen hx hb (atI_rfs (hW.2 i hi) hs (by decide)) (tys_at hKt.1 3 rfl N _) (by rw [arrV_size] <;> rfl) rfl rfl dg (K h0 H locs ls hW hS hl)
  · exact W.alen hx hb (atI_rfs (hW.2 i hi) hs (by decide)) (tys_at hKt.1 4 rfl N _) (by rw [arrV_size] <;> rfl) rfl rfl dg (K h0 H locs ls hW hS hl)
theorem arr_new {N k : Nat} {cA : ClassId} {f : Nat → Int32} {x : Int32} : (arrV cA N (fun j => .int (f j))).setSlot k (.int x) = arrV cA N (fun j => .int (upd f k x j)) := by
  rw [arrV_store]
  congr 1
  funext q
  by_cases hq : q = k
  · subst hq; simp [updV, upd]
  · simp [updV, upd, hq]
theorem g_iast (C : Cx κ y cc nL d n1) {N : Nat} {j x : Int32} (hs : shp i = (0, N)) (hi : i < n) (hn : n ≤ 999) (hin : vp_in j N) (dg : decode cc pc = .ok (.iastore, 1)) (K : G κ n ρ (pc + 1) lv st (wr I i j.toNatClampNeg x)) : G κ n ρ pc lv (.int x :: .int j :: .ref i :: st) I := by
  obtain ⟨p, l, e, R, s, m, args, below, meth, cd, Q, dC, dI, dA, ad, n0⟩ := κ
  obtain ⟨hx, hb, hml, hown, hts, -, -, hKt, -⟩ := C
  intro h0 H locs ls hW hS hl
  have hinj := hKt.2.2.2.2.2.2
  have hA : ad 0 ≤ ad i := by rw [hinj i (by omega)]; omega
  refine W.iast hx hb (atI_int (hW.2 i hi) hs (by decide)) (tys_at hKt.1 0 rfl N _) (fun q => by cases q) (by rw [arrV_size]; exact hin) rfl rfl dg fun H1 e1 z oq => ?_
  refine K h0 H1 _ ls (hW.put hn hi hinj z oq (atI_of_int hs (by decide) ?_) (fun a ha => wr_n ha) (fun _ _ => rfl)) (hS.put z oq hA) hl
  rw [e1, arr_new, wr_s]
theorem g_bast (C : Cx κ y cc nL d n1) {N : Nat} {j x : Int32} (hs : shp i = (2, N)) (hi : i < n) (hn : n ≤ 999) (hin : vp_in j N) (dg : decode cc pc = .ok (.bastore, 1)) (K : G κ n ρ (pc + 1) lv st (wr I i j.toNatClampNeg x.toInt8.toInt32)) : G κ n ρ pc lv (.int x :: .int j :: .ref i :: st) I := by
  obtain ⟨p, l, e, R, s, m, args, below, meth, cd, Q, dC, dI, dA, ad, n0⟩ := κ
  obtain ⟨hx, hb, hml, hown, hts, -, -, hKt, -⟩ := C
  intro h0 H locs ls hW hS hl
  have hinj := hKt.2.2.2.2.2.2
  have hA : ad 0 ≤ ad i := by rw [hinj i (by omega)]; omega
  refine W.bast hx hb (atI_int (hW.2 i hi) hs (by decide)) (tys_at hKt.1 2 rfl N _) (fun q => by cases q) (by rw [arrV_size]; exact hin) rfl rfl dg fun H1 e1 z oq => ?_
  refine K h0 H1 _ ls (hW.put hn hi hinj z oq (atI_of_int hs (by decide) ?_) (fun a ha => wr_n ha) (fun _ _ => rfl)) (hS.put z oq hA) hl
  rw [e1, wr_s]
  have : narrow .byte (.int x) = .int x.toInt8.toInt32 := by simp [narrow]
  rw [this, arr_new]
theorem g_zast (C : Cx κ y cc nL d n1) {N : Nat} {j x : Int32} (hs : shp i = (1, N)) (hi : i < n) (hn : n ≤ 999) (hin : vp_in j N) (hx9 : narrow .boolean (.int x) = .int x) (dg : decode cc pc = .ok (.bastore, 1)) (K : G κ n ρ (pc + 1) lv st (wr I i j.toNatClampNeg x)) : G κ n ρ pc lv (.int x :: .int j :: .ref i :: st) I := by
  obtain ⟨p, l, e, R, s, m, args, below, meth, cd, Q, dC, dI, dA, ad, n0⟩ := κ
  obtain ⟨hx, hb, hml, hown, hts, -, -, hKt, -⟩ := C
  intro h0 H locs ls hW hS hl
  have hinj := hKt.2.2.2.2.2.2
  have hA : ad 0 ≤ ad i := by rw [hinj i (by omega)]; omega
  refine W.zast hx hb (atI_int (hW.2 i hi) hs (by decide)) (tys_at hKt.1 1 rfl N _) (fun q => by cases q) (by rw [arrV_size]; exact hin) rfl rfl dg fun H1 e1 z oq => ?_
  refine K h0 H1 _ ls (hW.put hn hi hinj z oq (atI_of_int hs (by decide) ?_) (fun a ha => wr_n ha) (fun _ _ => rfl)) (hS.put z oq hA) hl
  rw [e1, wr_s, hx9, arr_new]
theorem g_ldc (C : Cx κ y cc nL d n1) {idx : Nat} (v : Int32) (hw : Cond.constant y.cls idx v ∈ GW) (dg : decode cc pc = .ok (.ldc idx, 2)) (K : G κ n ρ (pc + 2) lv (.int v :: st) I) : G κ n ρ pc lv st I := by
  obtain ⟨p, l, e, R, s, m, args, below, meth, cd, Q, dC, dI, dA, ad, n0⟩ := κ
  obtain ⟨hx, hb, hml, hown, hts, -⟩ := C
  exact fun h0 H locs ls hW hS hl => lv_ldc hx hb hown (hts _ hw) dg (K h0 H locs ls hW hS hl)
theorem g_ldc2 (C : Cx κ y cc nL d n1) {idx : Nat} (v : Int64) (hw : Cond.constantLong y.cls idx v ∈ GW) (dg : decode cc pc = .ok (.ldc2_w idx, 3)) (K : G κ n ρ (pc + 3) lv (.long v :: st) I) : G κ n ρ pc lv st I := by
  obtain ⟨p, l, e, R, s, m, args, below, meth, cd, Q, dC, dI, dA, ad, n0⟩ := κ
  obtain ⟨hx, hb, hml, hown, hts, -⟩ := C
  exact fun h0 H locs ls hW hS hl => lv_ldc2 hx hb hown (hts _ hw) dg (K h0 H locs ls hW hS hl)
end GH
