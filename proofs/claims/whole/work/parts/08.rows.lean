section GS
variable {κ : Kap} {y : MethodName} {cc : ByteArray} {nL d n1 n : Nat} {ρ : Rho} {pc : Nat} {lv : List (Nat × Value)} {st : List Value} {I : Mem}
def swK (Gf : Int → Prop) (x : Int32) : Nat → List Int → Prop
  | _, [] => True
  | j, o :: os => (x = nI j → Gf o) ∧ swK Gf x (j + 1) os
theorem swK_cons {Gf : Int → Prop} {x : Int32} {j : Nat} {o : Int} {os : List Int} (h : x = nI j → Gf o) (t : swK Gf x (j + 1) os) : swK Gf x j (o :: os) := ⟨h, t⟩
theorem swK_nil {Gf : Int → Prop} {x : Int32} {j : Nat} : swK Gf x j [] := trivial
theorem swK_at {Gf : Int → Prop} {x : Int32} : ∀ {os : List Int} {j : Nat}, swK Gf x j os → ∀ (i : Nat) (o : Int), os[i]? = some o → x = nI (j + i) → Gf o
  | [], _, _, i, o, h, _ => by simp at h
  | a :: os, j, hk, i, o, h, e => by
    cases i with
    | zero => simp at h; subst h; exact hk.1 e
    | succ i => exact swK_at hk.2 i o (by simpa using h) (by rw [e]; congr 1; omega)
theorem g_tsw (C : Cx κ y cc nL d n1) {dflt hi : Int} {offs : Array Int} {len : Nat} {x : Int32} (dg : decode cc pc = .ok (.tableswitch dflt 0 hi offs, len)) (hh : hi + 1 = (offs.size : Int)) (hsz : offs.size < 1000) (hpos : ∀ o ∈ offs.toList, 0 ≤ o) (hd0 : 0 ≤ dflt)
    (K : swK (fun o => G κ n ρ (pc + o.toNat) lv st I) x 0 offs.toList) (K0 : (x < 0 ∨ nI offs.size ≤ x) → G κ n ρ (pc + dflt.toNat) lv st I) : G κ n ρ pc lv (.int x :: st) I := by
  obtain ⟨p, l, e, R, s, m, args, below, meth, c, Q, dC, dI, dA, ad, n0⟩ := κ
  obtain ⟨hx, hb, hml, -⟩ := C
  intro h0 H locs ls hW hS hl
  rcases pk_ix x (n := offs.size) (by omega) with h | h | ⟨j, hj, rfl⟩
  · refine lv_tableOut hx hb dg (Or.inl (by simpa using Int32.lt_iff_toInt_lt.mp h)) (by omega) (K0 (Or.inl h) h0 H locs ls hW hS hl)
  · refine lv_tableOut hx hb dg (Or.inr ?_) (by omega) (K0 (Or.inr h) h0 H locs ls hW hS hl)
    have := Int32.le_iff_toInt_le.mp h
    rw [nI_toInt (by omega)] at this
    omega
  · have hti : (nI j).toInt = (j : Int) := nI_toInt (by omega)
    obtain ⟨o, ho⟩ : ∃ o, offs[j]? = some o := ⟨offs[j], by simp [hj]⟩
    have ho' : offs.toList[j]? = some o := by simpa using ho
    have hp := hpos o (List.mem_of_getElem? ho')
    exact lv_tableIn hx hb dg (by rw [hti]; omega) (by rw [hti]; omega) (off := o) (by rw [hti]; simpa using ho) (by omega) (swK_at K j o ho' (by rw [Nat.zero_add]) h0 H locs ls hW hS hl)
theorem g_lsw2 (C : Cx κ y cc nL d n1) {dflt oa ob : Int} {a b : Int32} {za zb : Int} {len : Nat} {x : Int32} (dg : decode cc pc = .ok (.lookupswitch dflt #[(za, oa), (zb, ob)], len)) (hz : za < zb) (ha : a.toInt = za) (hb9 : b.toInt = zb) (h1 : 0 ≤ oa) (h2 : 0 ≤ ob) (h3 : 0 ≤ dflt)
    (KA : x = a → G κ n ρ (pc + oa.toNat) lv st I) (KB : x = b → G κ n ρ (pc + ob.toNat) lv st I) (K0 : x ≠ a → x ≠ b → G κ n ρ (pc + dflt.toNat) lv st I) : G κ n ρ pc lv (.int x :: st) I := by
  obtain ⟨p, l, e, R, s, m, args, below, meth, c, Q, dC, dI, dA, ad, n0⟩ := κ
  obtain ⟨hx, hb, hml, -⟩ := C
  intro h0 H locs ls hW hS hl
  have hp : ((#[(za, oa), (zb, ob)] : Array (Int × Int)).toList.zip ((#[(za, oa), (zb, ob)] : Array (Int × Int)).toList.drop 1)).all (fun (a, next) => a.1 < next.1) = true := by simp [hz]
  by_cases e1 : x = a
  · subst e1
    exact lv_lookup hx hb dg hp (off := oa) (by rw [ha, Op.lookupswitch.offset_cons, if_pos rfl]) (by omega) (KA rfl h0 H locs ls hW hS hl)
  · by_cases e2 : x = b
    · refine lv_lookup hx hb dg hp (off := ob) ?_ (by omega) (KB e2 h0 H locs ls hW hS hl)
      show Op.lookupswitch.offset [(za, oa), (zb, ob)] dflt x.toInt = ob
      rw [lv_osw e1 ha, e2, hb9, Op.lookupswitch.offset_cons, if_pos rfl]
    · refine lv_lookup hx hb dg hp (off := dflt) ?_ (by omega) (K0 e1 e2 h0 H locs ls hW hS hl)
      show Op.lookupswitch.offset [(za, oa), (zb, ob)] dflt x.toInt = dflt
      rw [lv_osw e1 ha, lv_osw e2 hb9]
      rfl
variable {y' : MethodName} {cc' : ByteArray} {nL' d' idx cnt : Nat} {ret' : Option FieldType}
theorem g_callVI (C : Cx κ y cc nL d n1) (hM : MF y' cc' nL' ret' cnt) (hL : LinkV y.cls idx y') {i c N : Nat} {As : List Value} {P : Int32 → Mem → Prop} (hc : MI y' cc' nL' ret' d' (.ref i :: As) n ρ I P) (hd : d' < d) (hk : n ≤ n1) (hn : As.length = cnt) (hs : shp i = (c + 10, N)) (hcl : (vwCl[c]?).map (fun q => q.1) = some y'.cls) (hi : i < n) (hst : (st.map fun v => v.category).sum ≤ 8) (dg : decode cc pc = .ok (.invokevirtual idx, 3))
    (K : ∀ (v : Int32) (I' : Mem), P v I' → G κ n ρ (pc + 3) lv (.int v :: st) I') : G κ n ρ pc lv (As.reverse ++ .ref i :: st) I :=
  g_callV C hM hL (k := 0) hc hd hk hn hs hcl hi hst dg (by rintro r ρ' I' ⟨rfl, v, rfl, h⟩; exact K v I' h)
theorem g_callVL (C : Cx κ y cc nL d n1) (hM : MF y' cc' nL' ret' cnt) (hL : LinkV y.cls idx y') {i c N : Nat} {As : List Value} {P : Int64 → Mem → Prop} (hc : ML y' cc' nL' ret' d' (.ref i :: As) n ρ I P) (hd : d' < d) (hk : n ≤ n1) (hn : As.length = cnt) (hs : shp i = (c + 10, N)) (hcl : (vwCl[c]?).map (fun q => q.1) = some y'.cls) (hi : i < n) (hst : (st.map fun v => v.category).sum ≤ 8) (dg : decode cc pc = .ok (.invokevirtual idx, 3))
    (K : ∀ (v : Int64) (I' : Mem), P v I' → G κ n ρ (pc + 3) lv (.long v :: st) I') : G κ n ρ pc lv (As.reverse ++ .ref i :: st) I :=
  g_callV C hM hL (k := 0) hc hd hk hn hs hcl hi hst dg (by rintro r ρ' I' ⟨rfl, v, rfl, h⟩; exact K v I' h)
theorem g_callVV (C : Cx κ y cc nL d n1) (hM : MF y' cc' nL' ret' cnt) (hL : LinkV y.cls idx y') {i c N : Nat} {As : List Value} {P : Mem → Prop} (hc : MV y' cc' nL' ret' d' (.ref i :: As) n ρ I P) (hd : d' < d) (hk : n ≤ n1) (hn : As.length = cnt) (hs : shp i = (c + 10, N)) (hcl : (vwCl[c]?).map (fun q => q.1) = some y'.cls) (hi : i < n) (hst : (st.map fun v => v.category).sum ≤ 8) (dg : decode cc pc = .ok (.invokevirtual idx, 3))
    (K : ∀ (I' : Mem), P I' → G κ n ρ (pc + 3) lv st I') : G κ n ρ pc lv (As.reverse ++ .ref i :: st) I :=
  g_callV C hM hL (k := 0) hc hd hk hn hs hcl hi hst dg (by rintro r ρ' I' ⟨rfl, rfl, h⟩; exact K I' h)
theorem g_callSI (C : Cx κ y cc nL d n1) (hM : MF y' cc' nL' ret' cnt) (hL : LinkS y.cls idx y') {As : List Value} {P : Int32 → Mem → Prop} (hc : MI y' cc' nL' ret' d' As n ρ I P) (hd : d' < d) (hk : n ≤ n1) (hn : As.length = cnt) (hst : (st.map fun v => v.category).sum ≤ 8) (dg : decode cc pc = .ok (.invokestatic idx, 3))
    (K : ∀ (v : Int32) (I' : Mem), P v I' → G κ n ρ (pc + 3) lv (.int v :: st) I') : G κ n ρ pc lv (As.reverse ++ st) I :=
  g_callS C hM hL (k := 0) hc hd hk hn hst dg (by rintro r ρ' I' ⟨rfl, v, rfl, h⟩; exact K v I' h)
theorem g_callSL (C : Cx κ y cc nL d n1) (hM : MF y' cc' nL' ret' cnt) (hL : LinkS y.cls idx y') {As : List Value} {P : Int64 → Mem → Prop} (hc : ML y' cc' nL' ret' d' As n ρ I P) (hd : d' < d) (hk : n ≤ n1) (hn : As.length = cnt) (hst : (st.map fun v => v.category).sum ≤ 8) (dg : decode cc pc = .ok (.invokestatic idx, 3))
    (K : ∀ (v : Int64) (I' : Mem), P v I' → G κ n ρ (pc + 3) lv (.long v :: st) I') : G κ n ρ pc lv (As.reverse ++ st) I :=
  g_callS C hM hL (k := 0) hc hd hk hn hst dg (by rintro r ρ' I' ⟨rfl, v, rfl, h⟩; exact K v I' h)
theorem g_callSV (C : Cx κ y cc nL d n1) (hM : MF y' cc' nL' ret' cnt) (hL : LinkS y.cls idx y') {As : List Value} {P : Mem → Prop} (hc : MV y' cc' nL' ret' d' As n ρ I P) (hd : d' < d) (hk : n ≤ n1) (hn : As.length = cnt) (hst : (st.map fun v => v.category).sum ≤ 8) (dg : decode cc pc = .ok (.invokestatic idx, 3))
    (K : ∀ (I' : Mem), P I' → G κ n ρ (pc + 3) lv st I') : G κ n ρ pc lv (As.reverse ++ st) I :=
  g_callS C hM hL (k := 0) hc hd hk hn hst dg (by rintro r ρ' I' ⟨rfl, rfl, h⟩; exact K I' h)
/-- one more object -/
theorem Wo.push {dC : Nat → ClassId} {dI : Nat → Nat → Nat} {dA : Nat → ClassId} {ad : Nat → Nat} {H H1 : Heap} {ρ' : Rho} {I' : Mem} (hW : Wo dC dI dA ad n ρ I H) (hn : n < 999) (hinj : ∀ a, a < 1000 → ad a = ad 0 + a) (z : H1.size = H.size + 1) (oq : ∀ q, q < H.size → H1[q]? = H[q]?) (new : atI dC dI dA ad ρ' I' n H1) (hI : ∀ a, a < n → I' a = I a) (hρ : ∀ a, a < n → ρ' a = ρ a) : Wo dC dI dA ad (n + 1) ρ' I' H1 := by
  refine ⟨by rw [z, hW.1, hinj n (by omega), hinj (n + 1) (by omega)]; omega, fun a ha => ?_⟩
  by_cases e : a = n
  · rw [e]; exact new
  · refine (hW.2 a (by omega)).kept (oq _ ?_) (hI a (by omega)) (hρ a (by omega))
    rw [hW.1, hinj a (by omega), hinj n (by omega)]
    omega
theorem sl_succ (n : Nat) (h : n < SH.length) : sl (n + 1) = sl n + (shp n).2 := by
  unfold sl shp
  rw [List.take_add_one, List.map_append, List.sum_append, List.getD_eq_getElem?_getD]
  simp [h]
theorem wrA_lt {i a : Nat} {f : Nat → Int32} (h : a < i) : wrA I i f a = I a := wrA_n (Nat.ne_of_lt h)
/-- the references of an object that is new: none -/
def rclr (ρ : Rho) (i : Nat) : Rho := fun a => if a = i then fun _ => none else ρ a
theorem g_new (C : Cx κ y cc nL d n1) {c N idx : Nat} {nm : String} (hcl : Cond.classLink y.cls idx nm ∈ GW) (hins : Cond.instantiable nm N ∈ GW) (hini : Cond.initialized nm ∈ GW) {T : u_T} {ty : Nat → FieldType} (hc : vwCl[c]? = some (nm, T, N)) (hin : ∀ w ∈ u_ws nm T N, w ∈ GW) (hty : ∀ k, k < N → parseFieldDescriptor (T k).2.2.1 = some (ty k)) (hdf : ∀ k, k < N → defaultValue (ty k) = if refF c k = true then .null else .int 0)
    (hs : shp n = (c + 10, N)) (hlen : n < SH.length) (hn : n < 999) (hn1 : n + 1 ≤ n1) (dg : decode cc pc = .ok (.new idx, 3)) (K : G κ (n + 1) (rclr ρ n) (pc + 3) lv (.ref n :: st) (wrA I n (fun _ => 0))) : G κ n ρ pc lv st I := by
  obtain ⟨p, l, e, R, s, m, args, below, meth, cd, Q, dC, dI, dA, ad, n0⟩ := κ
  obtain ⟨hx, hb, hml, hown, hts, hlk, hnm, hKt, hSt, h01, h19, hrc, hrs, hfr, hlo, hb0⟩ := C
  intro h0 H locs ls hW hS hl
  have hKn := hKt.1.1 c _ hc
  have hsl := sl_succ n hlen
  rw [hs] at hsl
  have q1 := sl_mono h0
  have q2 := sl_mono hn1
  have hinj := hKt.2.2.2.2.2.2
  have e1 : n - n0 + 1 = n + 1 - n0 := by omega
  have e2 : sl n - sl n0 + N = sl (n + 1) - sl n0 := by rw [hsl]; show sl n - sl n0 + N = sl n + N - sl n0; omega
  refine W.newcK (h := H.size) hx hb hown (hts _ hcl) (hts _ hins) (hts _ hini) rfl dg (by omega) (by rw [e2]; omega) hKn.2.1 rfl fun H1 kC hkC f1 z1 o1 => ?_
  rw [e1, e2]
  have had : H.size = ad n := hW.1
  have := K (by omega) H1 locs ls (hW.push hn hinj z1 o1 (atI_of_obj hs ?_) (fun a ha => wrA_lt ha) (fun a ha => by unfold rclr; rw [if_neg (Nat.ne_of_lt ha)])) ⟨Nat.le_trans hS.1 (by omega), fun x h1 h2 => (o1 x (Nat.lt_of_lt_of_le h1 hS.1)).trans (hS.2.1 x h1 h2), hS.2.2⟩ hl
  · rw [had]; exact this
  · rw [had] at f1
    refine (u_born ty hts hin hKn hkC f1 hty).to fun k hk => ?_
    rw [hdf k hk]
    unfold rclr
    rw [if_pos rfl, wrA_s]
    rfl
theorem g_newa (C : Cx κ y cc nL d n1) {kd N : Nat} {at0 : ArrayType} {ty : FieldType} {x : Int32} (hty : newarray.typeOf at0 = ty) (hkd : (kd = 0 ∧ ty = .int) ∨ (kd = 1 ∧ ty = .boolean) ∨ (kd = 2 ∧ ty = .byte)) (harr : Cond.arrayClass ty ∈ GW) (hx0 : ¬ x < 0) (hN : x.toNatClampNeg = N) (hbig : N ≤ 100000)
    (hs : shp n = (kd, N)) (hlen : n < SH.length) (hn : n < 999) (hn1 : n + 1 ≤ n1) (dg : decode cc pc = .ok (.newarray at0, 2)) (K : G κ (n + 1) (rclr ρ n) (pc + 2) lv (.ref n :: st) (wrA I n (fun _ => 0))) : G κ n ρ pc lv (.int x :: st) I := by
  obtain ⟨p, l, e, R, s, m, args, below, meth, cd, Q, dC, dI, dA, ad, n0⟩ := κ
  obtain ⟨hx, hb, hml, hown, hts, hlk, hnm, hKt, hSt, h01, h19, hrc, hrs, hfr, hlo, hb0⟩ := C
  intro h0 H locs ls hW hS hl
  have hsl := sl_succ n hlen
  rw [hs] at hsl
  have q1 := sl_mono h0
  have q2 := sl_mono hn1
  have hinj := hKt.2.2.2.2.2.2
  have e1 : n - n0 + 1 = n + 1 - n0 := by omega
  have e2 : sl n - sl n0 + N = sl (n + 1) - sl n0 := by rw [hsl]; show sl n - sl n0 + N = sl n + N - sl n0; omega
  have hd0 : defaultValue ty = .int 0 := by rcases hkd with ⟨-, rfl⟩ | ⟨-, rfl⟩ | ⟨-, rfl⟩ <;> rfl
  have hcb : N * componentBytes ty ≤ 536870912 := by
    have : componentBytes ty ≤ 8 := by rcases hkd with ⟨-, rfl⟩ | ⟨-, rfl⟩ | ⟨-, rfl⟩ <;> decide
    calc N * componentBytes ty ≤ 100000 * 8 := Nat.mul_le_mul hbig this
      _ ≤ 536870912 := by decide
  subst hty
  refine va_newaK (h := H.size) hx hb (hts _ harr) rfl dg rfl hx0 hN hcb (by omega) (by rw [e2]; omega) rfl fun H1 cA f1 z1 o1 hAr hNm => ?_
  rw [e1, e2]
  have had : H.size = ad n := hW.1
  have hca : cA = dA kd := by
    rcases hkd with ⟨rfl, ht⟩ | ⟨rfl, ht⟩ | ⟨rfl, ht⟩
    · have := (hKt.1.2 0 _ rfl).2; rw [ht] at hNm; exact Option.some.inj (hNm.symm.trans this)
    · have := (hKt.1.2 1 _ rfl).2; rw [ht] at hNm; exact Option.some.inj (hNm.symm.trans this)
    · have := (hKt.1.2 2 _ rfl).2; rw [ht] at hNm; exact Option.some.inj (hNm.symm.trans this)
  have := K (by omega) H1 locs ls (hW.push hn hinj z1 o1 (atI_of_int hs (by omega) ?_) (fun a ha => wrA_lt ha) (fun a ha => by unfold rclr; rw [if_neg (Nat.ne_of_lt ha)])) ⟨Nat.le_trans hS.1 (by omega), fun x h1 h2 => (o1 x (Nat.lt_of_lt_of_le h1 hS.1)).trans (hS.2.1 x h1 h2), hS.2.2⟩ hl
  · rw [had]; exact this
  · rw [had] at f1
    rw [f1, hca, hd0, wrA_s]
theorem g_copy (C : Cx κ y cc nL d n1) {i j N M : Nat} {sp dp k : Int32} (hlink : Cond.methodLink y.cls idx arraycopyName ∈ GW) (hnat : Cond.native arraycopyName ∈ GW) (hstat : Cond.static arraycopyName ∈ GW) (hini : Cond.initialized "java/lang/System" ∈ GW) (hsi : shp i = (0, N)) (hsj : shp j = (0, M)) (hi : i < n) (hj : j < n) (hn : n ≤ 999) (a b w : Nat) (ha : sp = nI a) (hb9 : dp = nI b) (hw : k = nI w) (h1 : a + w ≤ N) (h2 : b + w ≤ M) (hN : N < 1000) (hM : M < 1000) (hst : (st.map fun v => v.category).sum ≤ 8) (hd : 1 ≤ d)
    (dg : decode cc pc = .ok (.invokestatic idx, 3)) (K : G κ n ρ (pc + 3) lv st (wrA I j (va_cpy (I i) (I j) a b w))) : G κ n ρ pc lv (.int k :: .int dp :: .ref j :: .int sp :: .ref i :: st) I := by
  obtain ⟨p, l, e, R, s, m, args, below, meth, cd, Q, dC, dI, dA, ad, n0⟩ := κ
  obtain ⟨hx, hb, hml, hown, hts, hlk, hnm, hKt, hSt, h01, h19, hrc, hrs, hfr, hlo, hb0⟩ := C
  intro h0 H locs ls hW hS hl T hT X
  have hinj := hKt.2.2.2.2.2.2
  have hci := atI_int (hW.2 i hi) hsi (by decide)
  have hcj := atI_int (hW.2 j hj) hsj (by decide)
  obtain ⟨-, k0, hk0, cm0, hkk0⟩ := tys_at hKt.1 0 rfl N (fun q => .int (I i q))
  obtain ⟨-, k1, hk1, cm1, hkk1⟩ := tys_at hKt.1 0 rfl M (fun q => .int (I j q))
  have ta : sp.toNatClampNeg = a := by rw [ha]; exact nI_clamp (by omega)
  have tb : dp.toNatClampNeg = b := by rw [hb9]; exact nI_clamp (by omega)
  have tw : k.toNatClampNeg = w := by rw [hw]; exact nI_clamp (by omega)
  have ia : sp.toInt = (a : Int) := by rw [ha]; exact nI_toInt (by omega)
  have ib : dp.toInt = (b : Int) := by rw [hb9]; exact nI_toInt (by omega)
  have iw : k.toInt = (w : Int) := by rw [hw]; exact nI_toInt (by omega)
  have nz : ∀ z : Int32, ∀ q : Nat, z.toInt = (q : Int) → ¬ z < 0 := fun z q e9 h9 => by
    have := Int32.lt_iff_toInt_lt.mp h9
    rw [e9] at this
    have h8 : (0 : Int32).toInt = 0 := rfl
    omega
  obtain ⟨vm', X', step⟩ := X.arraycopy hx hown (hts _ hlink) (hts _ hnat) (hts _ hstat) (hts _ hini) (src := ad i) (dst := ad j) (cs := arrV (dA 0) N (fun q => .int (I i q))) (cd := arrV (dA 0) M (fun q => .int (I j q))) (srcPos := sp) (destPos := dp) (n := k) (by rw [hT]; exact hci) (by rw [hT]; exact hcj)
    (fun _ h => by cases h) (fun _ h => by cases h) (fun h => by cases h) (fun h => by cases h) hk0 hk1 hkk0 hkk1 rfl (nz _ _ ia) (nz _ _ ib) (nz _ _ iw)
    (by rw [ia, iw, arrV_size]; omega) (by rw [ib, iw, arrV_size]; omega)
    (fun vm₁ _ q hq => by
      rw [ta]
      rw [tw] at hq
      have e9 : (arrV (dA 0) N (fun q => .int (I i q))).slots.getD (a + q) .null = .int (I i (a + q)) := by
        rw [Array.getD_eq_getD_getElem?, arrV_read _ _ (by omega)]
        rfl
      rw [e9]
      exact ⟨rfl, trivial⟩)
    (g := F0 m pc ls ((Value.int k :: .int dp :: .ref j :: .int sp :: .ref i :: st).map (cvV ad))) rfl hl.1 (rest := st.map (cvV ad)) rfl (by rw [hb]; exact dg) (by omega) (by
      have h9 : ((st.map (cvV ad)).map fun v => v.category).sum ≤ 8 := by
        rw [List.map_map]
        have : ((fun v => v.category) ∘ cvV ad) = fun v : Value => v.category := by funext v; exact cvV_cat ad v
        rw [this]; exact hst
      have h8 : nativeFrameWords "java/lang/System" "arraycopy" 5 ≤ 20 := by decide
      show 2 * 0 + _ + _ ≤ _
      omega)
  have ec : copied (arrV (dA 0) N (fun q => .int (I i q))) (arrV (dA 0) M (fun q => .int (I j q))) sp dp k = arrV (dA 0) M (fun q => .int (va_cpy (I i) (I j) a b w q)) := by
    have := va_copied (fun z => Value.int z) (dA 0) (dA 0) (n0 := N) (n1 := M) (sp := a) (dp := b) (n := w) (I i) (I j) h1
    rw [← this, ← ta, ← tb, ← tw]
  rw [ec] at X' step
  have hlt : ad j < H.size := (Array.getElem?_eq_some_iff.mp hcj).1
  have hA : ad 0 ≤ ad j := by rw [hinj j (by omega)]; omega
  have hheap : ((T.setVm vm').setCell (ad j) (arrV (dA 0) M (fun q => .int (va_cpy (I i) (I j) a b w q)))).heap = H.setIfInBounds (ad j) (arrV (dA 0) M (fun q => .int (va_cpy (I i) (I j) a b w q))) := by rw [← hT]; rfl
  have oq : ∀ q : Nat, q ≠ ad j → (H.setIfInBounds (ad j) (arrV (dA 0) M (fun q => .int (va_cpy (I i) (I j) a b w q))))[q]? = H[q]? := fun q hq => by simp [Array.getElem?_setIfInBounds, Ne.symm hq]
  have z : (H.setIfInBounds (ad j) (arrV (dA 0) M (fun q => .int (va_cpy (I i) (I j) a b w q)))).size = H.size := by simp
  obtain ⟨t, a1, b1⟩ := K h0 _ _ ls (hW.put hn hj hinj z oq (atI_of_int hsj (by decide) (by rw [wrA_s]; simp [Array.getElem?_setIfInBounds, hlt])) (fun a ha => wrA_n ha) (fun _ _ => rfl)) ⟨by rw [z]; exact hS.1, fun q g1 g2 => by
      rw [oq q (fun e => g2 (by rw [e]; exact hA))]
      exact hS.2.1 q g1 g2, fun q hq => by
      rcases List.mem_append.mp hq with h | h
      · exact hS.2.2 q h
      · obtain ⟨z9, -, hz⟩ := List.mem_map.mp h
        rw [← hz]
        exact hA⟩ hl _ hheap X'
  exact ⟨t, step t a1, b1⟩
end GS
