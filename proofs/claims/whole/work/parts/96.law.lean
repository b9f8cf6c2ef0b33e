/-! ===== the law ===== -/
abbrev yl (nm : String) : MethodName := ⟨RL, nm, "([I)Z"⟩
def LV (i : Nat) : List (Nat × Value) := [(3, .int (nI i)), (2, .ref 97), (1, .ref 0), (0, .ref 2000)]
/-- the script lies below the world -/
def Scr : Kap → Nat → (Nat → Int32) → Prop
  | (p, l, e, R, s, m, args, below, meth, c, Q, dC, dI, dA, ad, n0), L, xs => va_X (ad 2000) L xs s s.heap ∧ ad 2000 < s.heap.size ∧ ad 0 = s.heap.size
section GL
variable {κ : Kap} {nm : String} {d n1 n : Nat} {ρ : Rho} {pc : Nat} {lv : List (Nat × Value)} {st : List Value} {I : Mem} {L : Nat} {xs : Nat → Int32}
theorem g_sld (C : Cx κ (yl nm) cL_law 4 d n1) (S : Scr κ L xs) {j : Int32} (hin : vp_in j L) (dg : decode cL_law pc = .ok (.iaload, 1)) (K : G κ n ρ (pc + 1) lv (.int (xs j.toNatClampNeg) :: st) I) : G κ n ρ pc lv (.int j :: .ref 2000 :: st) I := by
  obtain ⟨p, l, e, R, s, m, args, below, meth, c, Q, dC, dI, dA, ad, n0⟩ := κ
  obtain ⟨hx, hb, hml, -⟩ := C
  obtain ⟨s1, s2, s3⟩ := S
  exact fun h0 H locs ls hW hS hl => va_sld hx hb s1 s2 (by omega) hS hin dg (K h0 H locs ls hW hS hl)
theorem g_slen (C : Cx κ (yl nm) cL_law 4 d n1) (S : Scr κ L xs) (dg : decode cL_law pc = .ok (.arraylength, 1)) (K : G κ n ρ (pc + 1) lv (.int (nI L) :: st) I) : G κ n ρ pc lv (.ref 2000 :: st) I := by
  obtain ⟨p, l, e, R, s, m, args, below, meth, c, Q, dC, dI, dA, ad, n0⟩ := κ
  obtain ⟨hx, hb, hml, -⟩ := C
  obtain ⟨s1, s2, s3⟩ := S
  exact fun h0 H locs ls hW hS hl => va_slen hx hb s1 s2 (by omega) hS dg (K h0 H locs ls hW hS hl)
theorem g_arg (C : Cx κ (yl nm) cL_law 4 d n1) (S : Scr κ L xs) {i : Nat} (k : Nat) {z : Int} (hk : i + k < L) (hL : L ≤ 320) (hv : Int32.ofInt z = nI k) (d1 : decode cL_law pc = .ok (.aload_n 0, 1)) (d2 : decode cL_law (pc + 1) = .ok (.iload_n 3, 1)) (d3 : decode cL_law (pc + 2) = .ok (.iconst z, 1)) (d4 : decode cL_law (pc + 3) = .ok (.iadd, 1)) (d5 : decode cL_law (pc + 4) = .ok (.iaload, 1)) (K : G κ n ρ (pc + 5) (LV i) (.int (xs (i + k)) :: st) I) : G κ n ρ pc (LV i) st I := by
  refine g_aload_n C d1 3 rfl ?_
  refine g_iload_n C d2 0 rfl ?_
  refine g_iconst C (nI k) d3 hv ?_
  refine g_iadd C d4 ?_
  rw [nI_add]
  refine g_sld C S ?_ d5 ?_
  · unfold vp_in
    rintro (h | h)
    · exact nI_pos (by omega) h
    · rw [nI_clamp (by omega)] at h; omega
  · rw [nI_clamp (by omega)]
    exact K
end GL
def kpx (kp : Nat → Bool) (x : Int32) (k : Nat) : Bool := if nI k = x then kp x.toNatClampNeg else kp k
theorem kpx_2 {kp : Nat → Bool} {x : Int32} {k : Nat} (hk : k < 2) : kpx kp x k = kp k := by
  unfold kpx
  by_cases e : nI k = x
  · rw [if_pos e, ← e, nI_clamp (by omega)]
  · rw [if_neg e]
theorem kpx_v {kp : Nat → Bool} {x : Int32} {k : Nat} (e : x = nI k) : kpx kp x k = kp x.toNatClampNeg := by
  unfold kpx
  rw [if_pos e.symm]
theorem gM.im {I : Mem} {F : RT} {G : GT} {k : Nat} (h : gM I (41 * (k + 1)) G) (s : sF F (gF G)) : ImM I F k (gB G) := ⟨fun p hp => h.2.2.1 p (by rw [s.2.2.1]; exact hp), h.2.2.2.1⟩
section KX
variable {I : Mem} {G : GT} {kp : Nat → Bool} {Gi : Nat → GT} {L : Nat} {tb : Nat → Nat} {ln : Nat → Option Nat} {sz : Nat → Nat} {cl : Nat → Nat → Int32} {ft tr : Int32}
theorem JW.kx (h : JW G kp Gi) (x : Int32) : JW G (kpx kp x) Gi := ⟨h.1, fun k hk hp => h.2 k hk (by rw [← kpx_2 (kp := kp) (x := x) hk]; exact hp)⟩
theorem JX.kx (h : JX I G kp Gi L tb ln sz cl ft tr) (x : Int32) : JX I G (kpx kp x) Gi L tb ln sz cl ft tr := ⟨h.1, fun k hk => by rw [kpx_2 hk]; exact h.2.1 k hk, h.2.2⟩
theorem JM.kx (h : JM I G kp Gi L tb ln sz cl ft tr) (x : Int32) : JM I G (kpx kp x) Gi L tb ln sz cl ft tr := ⟨h.1, h.2.1, fun k hk => by rw [kpx_2 hk]; exact h.2.2.1 k hk, h.2.2.2⟩
end KX
theorem lg_cmp_eq0 (x : Int64) : lg_cmp x x = 0 := by
  have h1 := (lg_cmp_ge x x).mpr (Int64.le_refl x)
  have h2 := (lg_cmp_le x x).mpr (Int64.le_refl x)
  exact Int32.le_antisymm h2 h1
set_option maxHeartbeats 1000000 in
theorem law_feed {κ : Kap} {nm : String} {L : Nat} {xs : Nat → Int32} (C : Cx κ (yl nm) cL_law 4 30 119) (S : Scr κ L xs) {i : Nat} (hi : i + 5 ≤ L) (hL : L ≤ 320) {ρ : Rho} {I : Mem} (hx : XS 119 ρ) (hm : MS 119 ρ) (hj : JJ I) (K : ∀ ρ' I', XS 119 ρ' → MS 119 ρ' → JJ I' → G κ 119 ρ' 1288 (LV i) [] I') : G κ 119 ρ 192 (LV i) [] I := by
  obtain ⟨Gm, kp, Gi, L', tb, ln, sz, cl, ft, tr, hW, hX, hM⟩ := hj
  refine g_aload_n C (pc := 192) dL_law_192 2 rfl ?_
  refine g_arg C S (pc := 193) 1 (by omega) hL (by decide) dL_law_193 dL_law_194 dL_law_195 dL_law_196 dL_law_197 ?_
  refine g_i2l C (pc := 198) dL_law_198 ?_
  refine g_bipush C (pc := 199) 32 dL_law_199 (by decide) ?_
  refine g_lshl C (pc := 201) dL_law_201 ?_
  refine g_arg C S (pc := 202) 2 (by omega) hL (by decide) dL_law_202 dL_law_203 dL_law_204 dL_law_205 dL_law_206 ?_
  refine g_i2l C (pc := 207) dL_law_207 ?_
  refine g_ldc2 C (pc := 208) _ gk_RL_13 dL_law_208 ?_
  refine g_land C (pc := 211) dL_law_211 ?_
  refine g_lor C (pc := 212) dL_law_212 ?_
  refine g_callVI C (pc := 213) mf_X11_feed lk_RL_15 (c_X11_feed 119 ρ I L' _ (by decide) hx hX.2.2.1.1 hX.2.2.1.2.1) (by decide) (by decide) rfl hx.1.1 rfl (by omega) (Nat.le_of_ble_eq_true rfl) dL_law_213 (fun v1 J1 h1 => ?_)
  have f1 := fx_feed (G := Gm) (kp := kp) (Gi := Gi) (L := L') (tb := tb) (ln := ln) (sz := sz) (cl := cl) (ft := ft) (tr := tr) h1
  have hM1 := hM.up hW f1
  have hx9 := hx
  have hm9 := hm
  refine g_aload_n C (pc := 216) dL_law_216 1 rfl ?_
  refine g_arg C S (pc := 217) 1 (by omega) hL (by decide) dL_law_217 dL_law_218 dL_law_219 dL_law_220 dL_law_221 ?_
  refine g_i2l C (pc := 222) dL_law_222 ?_
  refine g_bipush C (pc := 223) 32 dL_law_223 (by decide) ?_
  refine g_lshl C (pc := 225) dL_law_225 ?_
  refine g_arg C S (pc := 226) 2 (by omega) hL (by decide) dL_law_226 dL_law_227 dL_law_228 dL_law_229 dL_law_230 ?_
  refine g_i2l C (pc := 231) dL_law_231 ?_
  refine g_ldc2 C (pc := 232) _ gk_RL_13 dL_law_232 ?_
  refine g_land C (pc := 235) dL_law_235 ?_
  refine g_lor C (pc := 236) dL_law_236 ?_
  refine g_callVI C (pc := 237) mf_X12_feed lk_RL_19 (c_X12_feed 119 ρ J1 L' _ (by decide) hm9 hM1.2.2.2.1.1 hM1.2.2.2.1.2.1) (by decide) (by decide) rfl (show shp 97 = (21, 43) by decide +kernel) rfl (by omega) (Nat.le_of_ble_eq_true rfl) dL_law_237 (fun v2 J2 h2 => ?_)
  obtain ⟨e, hj2⟩ := st_feed hW hX hM1 h1 h2
  refine g_icmp_eq C (pc := 240) 1288 dL_law_240 (by decide) (fun _ => K _ J2 hx9 hm9 hj2) (fun c9 => absurd e c9)
set_option maxHeartbeats 1000000 in
theorem law_end {κ : Kap} {nm : String} {L : Nat} {xs : Nat → Int32} (C : Cx κ (yl nm) cL_law 4 30 119) (S : Scr κ L xs) {i : Nat} (hi : i + 5 ≤ L) (hL : L ≤ 320) {ρ : Rho} {I : Mem} (hx : XS 119 ρ) (hm : MS 119 ρ) (hj : JJ I) (K : ∀ ρ' I', XS 119 ρ' → MS 119 ρ' → JJ I' → G κ 119 ρ' 1288 (LV i) [] I') : G κ 119 ρ 245 (LV i) [] I := by
  obtain ⟨Gm, kp, Gi, L', tb, ln, sz, cl, ft, tr, hW, hX, hM⟩ := hj
  refine g_aload_n C (pc := 245) dL_law_245 2 rfl ?_
  refine g_arg C S (pc := 246) 1 (by omega) hL (by decide) dL_law_246 dL_law_247 dL_law_248 dL_law_249 dL_law_250 ?_
  refine g_callVI C (pc := 251) mf_X11_end lk_RL_20 (c_X11_end 119 ρ I L' (xs (i + 1)) (by decide) hx hX.2.2.1.1 hX.2.2.1.2.1) (by decide) (by decide) rfl hx.1.1 rfl (by omega) (Nat.le_of_ble_eq_true rfl) dL_law_251 (fun v1 J1 h1 => ?_)
  have f1 := fx_end (G := Gm) (kp := kp) (Gi := Gi) (L := L') (tb := tb) (ln := ln) (sz := sz) (cl := cl) (ft := ft) (tr := tr) h1
  have hM1 := hM.up hW f1
  have hx9 := hx
  have hm9 := hm
  refine g_aload_n C (pc := 254) dL_law_254 1 rfl ?_
  refine g_arg C S (pc := 255) 1 (by omega) hL (by decide) dL_law_255 dL_law_256 dL_law_257 dL_law_258 dL_law_259 ?_
  refine g_callVI C (pc := 260) mf_X12_end lk_RL_24 (c_X12_end 119 ρ J1 L' (xs (i + 1)) (by decide) hm9 hM1.2.2.2.1.1 hM1.2.2.2.1.2.1) (by decide) (by decide) rfl (show shp 97 = (21, 43) by decide +kernel) rfl (by omega) (Nat.le_of_ble_eq_true rfl) dL_law_260 (fun v2 J2 h2 => ?_)
  obtain ⟨e, hj2⟩ := st_end hW hX hM1 h1 h2
  refine g_icmp_eq C (pc := 263) 1288 dL_law_263 (by decide) (fun _ => K _ J2 hx9 hm9 hj2) (fun c9 => absurd e c9)
set_option maxHeartbeats 1000000 in
theorem law_text {κ : Kap} {nm : String} {L : Nat} {xs : Nat → Int32} (C : Cx κ (yl nm) cL_law 4 30 119) (S : Scr κ L xs) {i : Nat} (hi : i + 5 ≤ L) (hL : L ≤ 320) {ρ : Rho} {I : Mem} (hx : XS 119 ρ) (hm : MS 119 ρ) (hj : JJ I) (K : ∀ ρ' I', XS 119 ρ' → MS 119 ρ' → JJ I' → G κ 119 ρ' 1288 (LV i) [] I') : G κ 119 ρ 268 (LV i) [] I := by
  obtain ⟨Gm, kp, Gi, L', tb, ln, sz, cl, ft, tr, hW, hX, hM⟩ := hj
  refine g_aload_n C (pc := 268) dL_law_268 2 rfl ?_
  refine g_callVI C (pc := 269) mf_X11_text lk_RL_25 (c_X11_text 119 ρ I L' tb (by decide) hx hX.2.2.1) (by decide) (by decide) rfl hx.1.1 rfl (by omega) (Nat.le_of_ble_eq_true rfl) dL_law_269 (fun v1 J1 h1 => ?_)
  have f1 := fx_text (G := Gm) (kp := kp) (Gi := Gi) (L := L') (tb := tb) (ln := ln) (sz := sz) (cl := cl) (ft := ft) (tr := tr) h1
  have hM1 := hM.up hW f1
  have hx9 := hx
  have hm9 := hm
  refine g_aload_n C (pc := 272) dL_law_272 1 rfl ?_
  refine g_callVI C (pc := 273) mf_X12_text lk_RL_29 (c_X12_text 119 ρ J1 L' tb (by decide) hm9 hM1.2.2.2.1) (by decide) (by decide) rfl (show shp 97 = (21, 43) by decide +kernel) rfl (by omega) (Nat.le_of_ble_eq_true rfl) dL_law_273 (fun v2 J2 h2 => ?_)
  obtain ⟨e, hj2⟩ := st_text hW hX hM1 h1 h2
  refine g_icmp_eq C (pc := 276) 1288 dL_law_276 (by decide) (fun _ => K _ J2 hx9 hm9 hj2) (fun c9 => absurd e c9)
set_option maxHeartbeats 1000000 in
theorem law_fault {κ : Kap} {nm : String} {L : Nat} {xs : Nat → Int32} (C : Cx κ (yl nm) cL_law 4 30 119) (S : Scr κ L xs) {i : Nat} (hi : i + 5 ≤ L) (hL : L ≤ 320) {ρ : Rho} {I : Mem} (hx : XS 119 ρ) (hm : MS 119 ρ) (hj : JJ I) (K : ∀ ρ' I', XS 119 ρ' → MS 119 ρ' → JJ I' → G κ 119 ρ' 1288 (LV i) [] I') : G κ 119 ρ 281 (LV i) [] I := by
  obtain ⟨Gm, kp, Gi, L', tb, ln, sz, cl, ft, tr, hW, hX, hM⟩ := hj
  refine g_aload_n C (pc := 281) dL_law_281 2 rfl ?_
  refine g_callVI C (pc := 282) mf_X11_fault lk_RL_30 (c_X11_fault 119 ρ I (by decide) hx.1) (by decide) (by decide) rfl hx.1.1 rfl (by omega) (Nat.le_of_ble_eq_true rfl) dL_law_282 (fun v1 J1 h1 => ?_)
  have f1 := fx_fault (G := Gm) (kp := kp) (Gi := Gi) (L := L') (tb := tb) (ln := ln) (sz := sz) (cl := cl) (ft := ft) (tr := tr) h1
  have hM1 := hM.up hW f1
  have hx9 := hx
  have hm9 := hm
  refine g_aload_n C (pc := 285) dL_law_285 1 rfl ?_
  refine g_callVI C (pc := 286) mf_X12_fault lk_RL_33 (c_X12_fault 119 ρ J1 (by decide) hm9) (by decide) (by decide) rfl (show shp 97 = (21, 43) by decide +kernel) rfl (by omega) (Nat.le_of_ble_eq_true rfl) dL_law_286 (fun v2 J2 h2 => ?_)
  obtain ⟨e, hj2⟩ := st_fault hW hX hM1 h1 h2
  refine g_icmp_eq C (pc := 289) 1288 dL_law_289 (by decide) (fun _ => K _ J2 hx9 hm9 hj2) (fun c9 => absurd e c9)
set_option maxHeartbeats 1000000 in
theorem law_rule {κ : Kap} {nm : String} {L : Nat} {xs : Nat → Int32} (C : Cx κ (yl nm) cL_law 4 30 119) (S : Scr κ L xs) {i : Nat} (hi : i + 5 ≤ L) (hL : L ≤ 320) {ρ : Rho} {I : Mem} (hx : XS 119 ρ) (hm : MS 119 ρ) (hj : JJ I) (K : ∀ ρ' I', XS 119 ρ' → MS 119 ρ' → JJ I' → G κ 119 ρ' 1288 (LV i) [] I') : G κ 119 ρ 294 (LV i) [] I := by
  obtain ⟨Gm, kp, Gi, L', tb, ln, sz, cl, ft, tr, hW, hX, hM⟩ := hj
  refine g_aload_n C (pc := 294) dL_law_294 2 rfl ?_
  refine g_arg C S (pc := 295) 1 (by omega) hL (by decide) dL_law_295 dL_law_296 dL_law_297 dL_law_298 dL_law_299 ?_
  refine g_callVI C (pc := 300) mf_X11_rule lk_RL_34 (c_X11_rule 119 ρ I (gF Gm) (gB Gm) (xs (i + 1)) (by decide) hx hX.1.1 hW.1.1 hX.1.2.1 hW.1.2.1) (by decide) (by decide) rfl hx.1.1 rfl (by omega) (Nat.le_of_ble_eq_true rfl) dL_law_300 (fun v1 J1 h1 => ?_)
  have f1 := fx_rule (G := Gm) (kp := kp) (Gi := Gi) (L := L') (tb := tb) (ln := ln) (sz := sz) (cl := cl) (ft := ft) (tr := tr) h1
  have hM1 := hM.up hW f1
  have hx9 := hx
  have hm9 := hm
  refine g_aload_n C (pc := 303) dL_law_303 1 rfl ?_
  refine g_arg C S (pc := 304) 1 (by omega) hL (by decide) dL_law_304 dL_law_305 dL_law_306 dL_law_307 dL_law_308 ?_
  refine g_callVI C (pc := 309) mf_X12_rule lk_RL_37 (c_X12_rule 119 ρ J1 (gF Gm) (gB Gm) (xs (i + 1)) (by decide) hm9 (hM1.2.1.qn hM1.1) hW.1.1 hW.1.2.1 hW.1.2.2.1.2.1 hW.1.2.2.1.2.2.1) (by decide) (by decide) rfl (show shp 97 = (21, 43) by decide +kernel) rfl (by omega) (Nat.le_of_ble_eq_true rfl) dL_law_309 (fun v2 J2 h2 => ?_)
  obtain ⟨e, hj2⟩ := st_rule hW hX hM1 h1 h2
  refine g_icmp_eq C (pc := 312) 1288 dL_law_312 (by decide) (fun _ => K _ J2 hx9 hm9 hj2) (fun c9 => absurd e c9)
set_option maxHeartbeats 1000000 in
theorem law_square {κ : Kap} {nm : String} {L : Nat} {xs : Nat → Int32} (C : Cx κ (yl nm) cL_law 4 30 119) (S : Scr κ L xs) {i : Nat} (hi : i + 5 ≤ L) (hL : L ≤ 320) {ρ : Rho} {I : Mem} (hx : XS 119 ρ) (hm : MS 119 ρ) (hj : JJ I) (K : ∀ ρ' I', XS 119 ρ' → MS 119 ρ' → JJ I' → G κ 119 ρ' 1288 (LV i) [] I') : G κ 119 ρ 317 (LV i) [] I := by
  obtain ⟨Gm, kp, Gi, L', tb, ln, sz, cl, ft, tr, hW, hX, hM⟩ := hj
  refine g_aload_n C (pc := 317) dL_law_317 2 rfl ?_
  refine g_arg C S (pc := 318) 1 (by omega) hL (by decide) dL_law_318 dL_law_319 dL_law_320 dL_law_321 dL_law_322 ?_
  refine g_callVI C (pc := 323) mf_X11_square lk_RL_38 (c_X11_square 119 ρ I (gF Gm) (gB Gm) (xs (i + 1)) (by decide) hx hX.1.1 hW.1.1 hX.1.2.1 hW.1.2.1) (by decide) (by decide) rfl hx.1.1 rfl (by omega) (Nat.le_of_ble_eq_true rfl) dL_law_323 (fun v1 J1 h1 => ?_)
  have f1 := fx_square (G := Gm) (kp := kp) (Gi := Gi) (L := L') (tb := tb) (ln := ln) (sz := sz) (cl := cl) (ft := ft) (tr := tr) h1
  have hM1 := hM.up hW f1
  have hx9 := hx
  have hm9 := hm
  refine g_aload_n C (pc := 326) dL_law_326 1 rfl ?_
  refine g_arg C S (pc := 327) 1 (by omega) hL (by decide) dL_law_327 dL_law_328 dL_law_329 dL_law_330 dL_law_331 ?_
  refine g_callVI C (pc := 332) mf_X12_square lk_RL_41 (c_X12_square 119 ρ J1 (gF Gm) (gB Gm) (xs (i + 1)) (by decide) hm9 (hM1.2.1.qn hM1.1) hW.1.1 hW.1.2.1 hW.1.2.2.1.2.1 hW.1.2.2.1.2.2.1) (by decide) (by decide) rfl (show shp 97 = (21, 43) by decide +kernel) rfl (by omega) (Nat.le_of_ble_eq_true rfl) dL_law_332 (fun v2 J2 h2 => ?_)
  obtain ⟨e, hj2⟩ := st_square hW hX hM1 h1 h2
  refine g_icmp_eq C (pc := 335) 1288 dL_law_335 (by decide) (fun _ => K _ J2 hx9 hm9 hj2) (fun c9 => absurd e c9)
set_option maxHeartbeats 1000000 in
theorem law_piece {κ : Kap} {nm : String} {L : Nat} {xs : Nat → Int32} (C : Cx κ (yl nm) cL_law 4 30 119) (S : Scr κ L xs) {i : Nat} (hi : i + 5 ≤ L) (hL : L ≤ 320) {ρ : Rho} {I : Mem} (hx : XS 119 ρ) (hm : MS 119 ρ) (hj : JJ I) (K : ∀ ρ' I', XS 119 ρ' → MS 119 ρ' → JJ I' → G κ 119 ρ' 1288 (LV i) [] I') : G κ 119 ρ 340 (LV i) [] I := by
  obtain ⟨Gm, kp, Gi, L', tb, ln, sz, cl, ft, tr, hW, hX, hM⟩ := hj
  refine g_aload_n C (pc := 340) dL_law_340 2 rfl ?_
  refine g_arg C S (pc := 341) 1 (by omega) hL (by decide) dL_law_341 dL_law_342 dL_law_343 dL_law_344 dL_law_345 ?_
  refine g_arg C S (pc := 346) 2 (by omega) hL (by decide) dL_law_346 dL_law_347 dL_law_348 dL_law_349 dL_law_350 ?_
  refine g_callVI C (pc := 351) mf_X11_piece lk_RL_42 (c_X11_piece 119 ρ I (gF Gm) (gB Gm) (xs (i + 1)) (xs (i + 2)) (by decide) hx hX.1.1 hW.1.1 hX.1.2.1 hW.1.2.1) (by decide) (by decide) rfl hx.1.1 rfl (by omega) (Nat.le_of_ble_eq_true rfl) dL_law_351 (fun v1 J1 h1 => ?_)
  have f1 := fx_piece (G := Gm) (kp := kp) (Gi := Gi) (L := L') (tb := tb) (ln := ln) (sz := sz) (cl := cl) (ft := ft) (tr := tr) h1
  have hM1 := hM.up hW f1
  have hx9 := hx
  have hm9 := hm
  refine g_aload_n C (pc := 354) dL_law_354 1 rfl ?_
  refine g_arg C S (pc := 355) 1 (by omega) hL (by decide) dL_law_355 dL_law_356 dL_law_357 dL_law_358 dL_law_359 ?_
  refine g_arg C S (pc := 360) 2 (by omega) hL (by decide) dL_law_360 dL_law_361 dL_law_362 dL_law_363 dL_law_364 ?_
  refine g_callVI C (pc := 365) mf_X12_piece lk_RL_46 (c_X12_piece 119 ρ J1 (gF Gm) (gB Gm) (xs (i + 1)) (xs (i + 2)) (by decide) hm9 (hM1.2.1.qn hM1.1) hW.1.1 hW.1.2.1 hW.1.2.2.1.2.2.2.2) (by decide) (by decide) rfl (show shp 97 = (21, 43) by decide +kernel) rfl (by omega) (Nat.le_of_ble_eq_true rfl) dL_law_365 (fun v2 J2 h2 => ?_)
  obtain ⟨e, hj2⟩ := st_piece hW hX hM1 h1 h2
  refine g_icmp_eq C (pc := 368) 1288 dL_law_368 (by decide) (fun _ => K _ J2 hx9 hm9 hj2) (fun c9 => absurd e c9)
set_option maxHeartbeats 1000000 in
theorem law_odd {κ : Kap} {nm : String} {L : Nat} {xs : Nat → Int32} (C : Cx κ (yl nm) cL_law 4 30 119) (S : Scr κ L xs) {i : Nat} (hi : i + 5 ≤ L) (hL : L ≤ 320) {ρ : Rho} {I : Mem} (hx : XS 119 ρ) (hm : MS 119 ρ) (hj : JJ I) (K : ∀ ρ' I', XS 119 ρ' → MS 119 ρ' → JJ I' → G κ 119 ρ' 1288 (LV i) [] I') : G κ 119 ρ 373 (LV i) [] I := by
  obtain ⟨Gm, kp, Gi, L', tb, ln, sz, cl, ft, tr, hW, hX, hM⟩ := hj
  refine g_aload_n C (pc := 373) dL_law_373 2 rfl ?_
  refine g_arg C S (pc := 374) 1 (by omega) hL (by decide) dL_law_374 dL_law_375 dL_law_376 dL_law_377 dL_law_378 ?_
  refine g_callVI C (pc := 379) mf_X11_odd lk_RL_47 (c_X11_odd 119 ρ I (xs (i + 1)) (by decide) hx.1) (by decide) (by decide) rfl hx.1.1 rfl (by omega) (Nat.le_of_ble_eq_true rfl) dL_law_379 (fun v1 J1 h1 => ?_)
  have f1 := fx_odd (G := Gm) (kp := kp) (Gi := Gi) (L := L') (tb := tb) (ln := ln) (sz := sz) (cl := cl) (ft := ft) (tr := tr) h1
  have hM1 := hM.up hW f1
  have hx9 := hx
  have hm9 := hm
  refine g_aload_n C (pc := 382) dL_law_382 1 rfl ?_
  refine g_arg C S (pc := 383) 1 (by omega) hL (by decide) dL_law_383 dL_law_384 dL_law_385 dL_law_386 dL_law_387 ?_
  refine g_callVI C (pc := 388) mf_X12_odd lk_RL_50 (c_X12_odd 119 ρ J1 (gF Gm) (xs (i + 1)) (by decide) hm9 (hM1.2.1.qn hM1.1).2.1) (by decide) (by decide) rfl (show shp 97 = (21, 43) by decide +kernel) rfl (by omega) (Nat.le_of_ble_eq_true rfl) dL_law_388 (fun v2 J2 h2 => ?_)
  obtain ⟨e, hj2⟩ := st_odd hW hX hM1 h1 h2
  refine g_icmp_eq C (pc := 391) 1288 dL_law_391 (by decide) (fun _ => K _ J2 hx9 hm9 hj2) (fun c9 => absurd e c9)
set_option maxHeartbeats 1000000 in
theorem law_oil {κ : Kap} {nm : String} {L : Nat} {xs : Nat → Int32} (C : Cx κ (yl nm) cL_law 4 30 119) (S : Scr κ L xs) {i : Nat} (hi : i + 5 ≤ L) (hL : L ≤ 320) {ρ : Rho} {I : Mem} (hx : XS 119 ρ) (hm : MS 119 ρ) (hj : JJ I) (K : ∀ ρ' I', XS 119 ρ' → MS 119 ρ' → JJ I' → G κ 119 ρ' 1288 (LV i) [] I') : G κ 119 ρ 396 (LV i) [] I := by
  obtain ⟨Gm, kp, Gi, L', tb, ln, sz, cl, ft, tr, hW, hX, hM⟩ := hj
  refine g_aload_n C (pc := 396) dL_law_396 2 rfl ?_
  refine g_arg C S (pc := 397) 1 (by omega) hL (by decide) dL_law_397 dL_law_398 dL_law_399 dL_law_400 dL_law_401 ?_
  refine g_arg C S (pc := 402) 2 (by omega) hL (by decide) dL_law_402 dL_law_403 dL_law_404 dL_law_405 dL_law_406 ?_
  refine g_callVI C (pc := 407) mf_X11_oil lk_RL_51 (c_X11_oil 119 ρ I (gF Gm) (gB Gm) (xs (i + 1)) (xs (i + 2)) (by decide) hx hX.1.1 hW.1.1 hX.1.2.1 hW.1.2.1) (by decide) (by decide) rfl hx.1.1 rfl (by omega) (Nat.le_of_ble_eq_true rfl) dL_law_407 (fun v1 J1 h1 => ?_)
  have f1 := fx_oil (G := Gm) (kp := kp) (Gi := Gi) (L := L') (tb := tb) (ln := ln) (sz := sz) (cl := cl) (ft := ft) (tr := tr) h1
  have hM1 := hM.up hW f1
  have hx9 := hx
  have hm9 := hm
  refine g_aload_n C (pc := 410) dL_law_410 1 rfl ?_
  refine g_arg C S (pc := 411) 1 (by omega) hL (by decide) dL_law_411 dL_law_412 dL_law_413 dL_law_414 dL_law_415 ?_
  refine g_arg C S (pc := 416) 2 (by omega) hL (by decide) dL_law_416 dL_law_417 dL_law_418 dL_law_419 dL_law_420 ?_
  refine g_callVI C (pc := 421) mf_X12_oil lk_RL_54 (c_X12_oil 119 ρ J1 (gF Gm) (gB Gm) (xs (i + 1)) (xs (i + 2)) (by decide) hm9 (hM1.2.1.qn hM1.1) hW.1.1 hW.1.2.1 hW.1.2.2.1.2.2.2.2) (by decide) (by decide) rfl (show shp 97 = (21, 43) by decide +kernel) rfl (by omega) (Nat.le_of_ble_eq_true rfl) dL_law_421 (fun v2 J2 h2 => ?_)
  obtain ⟨e, hj2⟩ := st_oil hW hX hM1 h1 h2
  refine g_icmp_eq C (pc := 424) 1288 dL_law_424 (by decide) (fun _ => K _ J2 hx9 hm9 hj2) (fun c9 => absurd e c9)
set_option maxHeartbeats 1000000 in
theorem law_put {κ : Kap} {nm : String} {L : Nat} {xs : Nat → Int32} (C : Cx κ (yl nm) cL_law 4 30 119) (S : Scr κ L xs) {i : Nat} (hi : i + 5 ≤ L) (hL : L ≤ 320) {ρ : Rho} {I : Mem} (hx : XS 119 ρ) (hm : MS 119 ρ) (hj : JJ I) (K : ∀ ρ' I', XS 119 ρ' → MS 119 ρ' → JJ I' → G κ 119 ρ' 1288 (LV i) [] I') : G κ 119 ρ 429 (LV i) [] I := by
  obtain ⟨Gm, kp, Gi, L', tb, ln, sz, cl, ft, tr, hW, hX, hM⟩ := hj
  refine g_aload_n C (pc := 429) dL_law_429 2 rfl ?_
  refine g_arg C S (pc := 430) 1 (by omega) hL (by decide) dL_law_430 dL_law_431 dL_law_432 dL_law_433 dL_law_434 ?_
  refine g_arg C S (pc := 435) 2 (by omega) hL (by decide) dL_law_435 dL_law_436 dL_law_437 dL_law_438 dL_law_439 ?_
  refine g_callVI C (pc := 440) mf_X11_put lk_RL_55 (c_X11_put 119 ρ I (gF Gm) (gB Gm) (xs (i + 1)) (xs (i + 2)) (by decide) hx hX.1.1 hW.1.1 hX.1.2.1 hW.1.2.1) (by decide) (by decide) rfl hx.1.1 rfl (by omega) (Nat.le_of_ble_eq_true rfl) dL_law_440 (fun v1 J1 h1 => ?_)
  have f1 := fx_put (G := Gm) (kp := kp) (Gi := Gi) (L := L') (tb := tb) (ln := ln) (sz := sz) (cl := cl) (ft := ft) (tr := tr) h1
  have hM1 := hM.up hW f1
  have hx9 := hx
  have hm9 := hm
  refine g_aload_n C (pc := 443) dL_law_443 1 rfl ?_
  refine g_arg C S (pc := 444) 1 (by omega) hL (by decide) dL_law_444 dL_law_445 dL_law_446 dL_law_447 dL_law_448 ?_
  refine g_arg C S (pc := 449) 2 (by omega) hL (by decide) dL_law_449 dL_law_450 dL_law_451 dL_law_452 dL_law_453 ?_
  refine g_callVI C (pc := 454) mf_X12_put lk_RL_58 (c_X12_put 119 ρ J1 (gF Gm) (gB Gm) (xs (i + 1)) (xs (i + 2)) (by decide) hm9 (hM1.2.1.qn hM1.1) hW.1.1 hW.1.2.1 hW.1.2.2.1.2.1 hW.1.2.2.1.2.2.1 hW.1.2.2.1.2.2.2.2) (by decide) (by decide) rfl (show shp 97 = (21, 43) by decide +kernel) rfl (by omega) (Nat.le_of_ble_eq_true rfl) dL_law_454 (fun v2 J2 h2 => ?_)
  obtain ⟨e, hj2⟩ := st_put hW hX hM1 h1 h2
  refine g_icmp_eq C (pc := 457) 1288 dL_law_457 (by decide) (fun _ => K _ J2 hx9 hm9 hj2) (fun c9 => absurd e c9)
set_option maxHeartbeats 1000000 in
theorem law_steeple {κ : Kap} {nm : String} {L : Nat} {xs : Nat → Int32} (C : Cx κ (yl nm) cL_law 4 30 119) (S : Scr κ L xs) {i : Nat} (hi : i + 5 ≤ L) (hL : L ≤ 320) {ρ : Rho} {I : Mem} (hx : XS 119 ρ) (hm : MS 119 ρ) (hj : JJ I) (K : ∀ ρ' I', XS 119 ρ' → MS 119 ρ' → JJ I' → G κ 119 ρ' 1288 (LV i) [] I') : G κ 119 ρ 462 (LV i) [] I := by
  obtain ⟨Gm, kp, Gi, L', tb, ln, sz, cl, ft, tr, hW, hX, hM⟩ := hj
  by_cases hz : xs (i + 2) = 0
  · refine g_aload_n C (pc := 462) dL_law_462 2 rfl ?_
    refine g_arg C S (pc := 463) 1 (by omega) hL (by decide) dL_law_463 dL_law_464 dL_law_465 dL_law_466 dL_law_467 ?_
    refine g_arg C S (pc := 468) 2 (by omega) hL (by decide) dL_law_468 dL_law_469 dL_law_470 dL_law_471 dL_law_472 ?_
    refine g_if_eq C (pc := 473) 480 dL_law_473 (by decide) (fun _ => ?_) (fun c9 => absurd hz c9)
    refine g_iconst C (pc := 480) 0 dL_law_480 (by decide) ?_
    refine g_callVI C (pc := 481) mf_X11_steeple lk_RL_59 (c_X11_steeple 119 ρ I (gF Gm) (gB Gm) (xs (i + 1)) 0 (by decide) hx hX.1.1 hW.1.1 hX.1.2.1 hW.1.2.1) (by decide) (by decide) rfl hx.1.1 rfl (by omega) (Nat.le_of_ble_eq_true rfl) dL_law_481 (fun v1 J1 h1 => ?_)
    have f1 := fx_steeple (G := Gm) (kp := kp) (Gi := Gi) (L := L') (tb := tb) (ln := ln) (sz := sz) (cl := cl) (ft := ft) (tr := tr) h1
    have hM1 := hM.up hW f1
    have hx9 := hx
    have hm9 := hm
    refine g_aload_n C (pc := 484) dL_law_484 1 rfl ?_
    refine g_arg C S (pc := 485) 1 (by omega) hL (by decide) dL_law_485 dL_law_486 dL_law_487 dL_law_488 dL_law_489 ?_
    refine g_arg C S (pc := 490) 2 (by omega) hL (by decide) dL_law_490 dL_law_491 dL_law_492 dL_law_493 dL_law_494 ?_
    refine g_if_eq C (pc := 495) 502 dL_law_495 (by decide) (fun _ => ?_) (fun c9 => absurd hz c9)
    refine g_iconst C (pc := 502) 0 dL_law_502 (by decide) ?_
    refine g_callVI C (pc := 503) mf_X12_steeple lk_RL_63 (c_X12_steeple 119 ρ J1 (gF Gm) (gB Gm) (xs (i + 1)) 0 (by decide) hm9 (hM1.2.1.qn hM1.1) hW.1.1 hW.1.2.1 hW.1.2.2.1.2.1 hW.1.2.2.1.2.2.1) (by decide) (by decide) rfl (show shp 97 = (21, 43) by decide +kernel) rfl (by omega) (Nat.le_of_ble_eq_true rfl) dL_law_503 (fun v2 J2 h2 => ?_)
    obtain ⟨e, hj2⟩ := st_steeple hW hX hM1 h1 h2
    refine g_icmp_eq C (pc := 506) 1288 dL_law_506 (by decide) (fun _ => K _ J2 hx9 hm9 hj2) (fun c9 => absurd e c9)
  · refine g_aload_n C (pc := 462) dL_law_462 2 rfl ?_
    refine g_arg C S (pc := 463) 1 (by omega) hL (by decide) dL_law_463 dL_law_464 dL_law_465 dL_law_466 dL_law_467 ?_
    refine g_arg C S (pc := 468) 2 (by omega) hL (by decide) dL_law_468 dL_law_469 dL_law_470 dL_law_471 dL_law_472 ?_
    refine g_if_eq C (pc := 473) 480 dL_law_473 (by decide) (fun c9 => absurd c9 hz) (fun _ => ?_)
    refine g_iconst C (pc := 476) 1 dL_law_476 (by decide) ?_
    refine g_goto C (pc := 477) 481 dL_law_477 (by decide) ?_
    refine g_callVI C (pc := 481) mf_X11_steeple lk_RL_59 (c_X11_steeple 119 ρ I (gF Gm) (gB Gm) (xs (i + 1)) 1 (by decide) hx hX.1.1 hW.1.1 hX.1.2.1 hW.1.2.1) (by decide) (by decide) rfl hx.1.1 rfl (by omega) (Nat.le_of_ble_eq_true rfl) dL_law_481 (fun v1 J1 h1 => ?_)
    have f1 := fx_steeple (G := Gm) (kp := kp) (Gi := Gi) (L := L') (tb := tb) (ln := ln) (sz := sz) (cl := cl) (ft := ft) (tr := tr) h1
    have hM1 := hM.up hW f1
    have hx9 := hx
    have hm9 := hm
    refine g_aload_n C (pc := 484) dL_law_484 1 rfl ?_
    refine g_arg C S (pc := 485) 1 (by omega) hL (by decide) dL_law_485 dL_law_486 dL_law_487 dL_law_488 dL_law_489 ?_
    refine g_arg C S (pc := 490) 2 (by omega) hL (by decide) dL_law_490 dL_law_491 dL_law_492 dL_law_493 dL_law_494 ?_
    refine g_if_eq C (pc := 495) 502 dL_law_495 (by decide) (fun c9 => absurd c9 hz) (fun _ => ?_)
    refine g_iconst C (pc := 498) 1 dL_law_498 (by decide) ?_
    refine g_goto C (pc := 499) 503 dL_law_499 (by decide) ?_
    refine g_callVI C (pc := 503) mf_X12_steeple lk_RL_63 (c_X12_steeple 119 ρ J1 (gF Gm) (gB Gm) (xs (i + 1)) 1 (by decide) hm9 (hM1.2.1.qn hM1.1) hW.1.1 hW.1.2.1 hW.1.2.2.1.2.1 hW.1.2.2.1.2.2.1) (by decide) (by decide) rfl (show shp 97 = (21, 43) by decide +kernel) rfl (by omega) (Nat.le_of_ble_eq_true rfl) dL_law_503 (fun v2 J2 h2 => ?_)
    obtain ⟨e, hj2⟩ := st_steeple hW hX hM1 h1 h2
    refine g_icmp_eq C (pc := 506) 1288 dL_law_506 (by decide) (fun _ => K _ J2 hx9 hm9 hj2) (fun c9 => absurd e c9)
set_option maxHeartbeats 1000000 in
theorem law_weigh {κ : Kap} {nm : String} {L : Nat} {xs : Nat → Int32} (C : Cx κ (yl nm) cL_law 4 30 119) (S : Scr κ L xs) {i : Nat} (hi : i + 5 ≤ L) (hL : L ≤ 320) {ρ : Rho} {I : Mem} (hx : XS 119 ρ) (hm : MS 119 ρ) (hj : JJ I) (K : ∀ ρ' I', XS 119 ρ' → MS 119 ρ' → JJ I' → G κ 119 ρ' 1288 (LV i) [] I') : G κ 119 ρ 511 (LV i) [] I := by
  obtain ⟨Gm, kp, Gi, L', tb, ln, sz, cl, ft, tr, hW, hX, hM⟩ := hj
  refine g_aload_n C (pc := 511) dL_law_511 2 rfl ?_
  refine g_arg C S (pc := 512) 1 (by omega) hL (by decide) dL_law_512 dL_law_513 dL_law_514 dL_law_515 dL_law_516 ?_
  refine g_arg C S (pc := 517) 2 (by omega) hL (by decide) dL_law_517 dL_law_518 dL_law_519 dL_law_520 dL_law_521 ?_
  refine g_callVI C (pc := 522) mf_X11_weigh lk_RL_64 (c_X11_weigh 119 ρ I (gF Gm) (gB Gm) (xs (i + 1)) (xs (i + 2)) (by decide) hx hX.1.1 hW.1.1 hX.1.2.1 hW.1.2.1) (by decide) (by decide) rfl hx.1.1 rfl (by omega) (Nat.le_of_ble_eq_true rfl) dL_law_522 (fun v1 J1 h1 => ?_)
  have f1 := fx_weigh (G := Gm) (kp := kp) (Gi := Gi) (L := L') (tb := tb) (ln := ln) (sz := sz) (cl := cl) (ft := ft) (tr := tr) h1
  have hM1 := hM.up hW f1
  have hx9 := hx
  have hm9 := hm
  refine g_aload_n C (pc := 525) dL_law_525 1 rfl ?_
  refine g_arg C S (pc := 526) 1 (by omega) hL (by decide) dL_law_526 dL_law_527 dL_law_528 dL_law_529 dL_law_530 ?_
  refine g_arg C S (pc := 531) 2 (by omega) hL (by decide) dL_law_531 dL_law_532 dL_law_533 dL_law_534 dL_law_535 ?_
  refine g_callVI C (pc := 536) mf_X12_weigh lk_RL_67 (c_X12_weigh 119 ρ J1 (gF Gm) (gB Gm) (xs (i + 1)) (xs (i + 2)) (by decide) hm9 (hM1.2.1.qn hM1.1) hW.1.1 hW.1.2.1) (by decide) (by decide) rfl (show shp 97 = (21, 43) by decide +kernel) rfl (by omega) (Nat.le_of_ble_eq_true rfl) dL_law_536 (fun v2 J2 h2 => ?_)
  obtain ⟨e, hj2⟩ := st_weigh hW hX hM1 h1 h2
  refine g_icmp_eq C (pc := 539) 1288 dL_law_539 (by decide) (fun _ => K _ J2 hx9 hm9 hj2) (fun c9 => absurd e c9)
set_option maxHeartbeats 1000000 in
theorem law_turn {κ : Kap} {nm : String} {L : Nat} {xs : Nat → Int32} (C : Cx κ (yl nm) cL_law 4 30 119) (S : Scr κ L xs) {i : Nat} (hi : i + 5 ≤ L) (hL : L ≤ 320) {ρ : Rho} {I : Mem} (hx : XS 119 ρ) (hm : MS 119 ρ) (hj : JJ I) (K : ∀ ρ' I', XS 119 ρ' → MS 119 ρ' → JJ I' → G κ 119 ρ' 1288 (LV i) [] I') : G κ 119 ρ 544 (LV i) [] I := by
  obtain ⟨Gm, kp, Gi, L', tb, ln, sz, cl, ft, tr, hW, hX, hM⟩ := hj
  refine g_aload_n C (pc := 544) dL_law_544 2 rfl ?_
  refine g_arg C S (pc := 545) 1 (by omega) hL (by decide) dL_law_545 dL_law_546 dL_law_547 dL_law_548 dL_law_549 ?_
  refine g_callVI C (pc := 550) mf_X11_turn lk_RL_68 (c_X11_turn 119 ρ I (xs (i + 1)) (by decide) hx.1) (by decide) (by decide) rfl hx.1.1 rfl (by omega) (Nat.le_of_ble_eq_true rfl) dL_law_550 (fun v1 J1 h1 => ?_)
  have f1 := fx_turn (G := Gm) (kp := kp) (Gi := Gi) (L := L') (tb := tb) (ln := ln) (sz := sz) (cl := cl) (ft := ft) (tr := tr) h1
  have hM1 := hM.up hW f1
  have hx9 := hx
  have hm9 := hm
  refine g_aload_n C (pc := 553) dL_law_553 1 rfl ?_
  refine g_arg C S (pc := 554) 1 (by omega) hL (by decide) dL_law_554 dL_law_555 dL_law_556 dL_law_557 dL_law_558 ?_
  refine g_callVI C (pc := 559) mf_X12_turn lk_RL_71 (c_X12_turn 119 ρ J1 (xs (i + 1)) (by decide) hm9) (by decide) (by decide) rfl (show shp 97 = (21, 43) by decide +kernel) rfl (by omega) (Nat.le_of_ble_eq_true rfl) dL_law_559 (fun v2 J2 h2 => ?_)
  obtain ⟨e, hj2⟩ := st_turn hW hX hM1 h1 h2
  refine g_icmp_eq C (pc := 562) 1288 dL_law_562 (by decide) (fun _ => K _ J2 hx9 hm9 hj2) (fun c9 => absurd e c9)
set_option maxHeartbeats 1000000 in
theorem law_moves {κ : Kap} {nm : String} {L : Nat} {xs : Nat → Int32} (C : Cx κ (yl nm) cL_law 4 30 119) (S : Scr κ L xs) {i : Nat} (hi : i + 5 ≤ L) (hL : L ≤ 320) {ρ : Rho} {I : Mem} (hx : XS 119 ρ) (hm : MS 119 ρ) (hj : JJ I) (K : ∀ ρ' I', XS 119 ρ' → MS 119 ρ' → JJ I' → G κ 119 ρ' 1288 (LV i) [] I') : G κ 119 ρ 567 (LV i) [] I := by
  obtain ⟨Gm, kp, Gi, L', tb, ln, sz, cl, ft, tr, hW, hX, hM⟩ := hj
  refine g_aload_n C (pc := 567) dL_law_567 2 rfl ?_
  refine g_arg C S (pc := 568) 1 (by omega) hL (by decide) dL_law_568 dL_law_569 dL_law_570 dL_law_571 dL_law_572 ?_
  refine g_callVI C (pc := 573) mf_X11_moves lk_RL_72 (c_X11_moves 119 ρ I (gF Gm) (gB Gm) (xs (i + 1)) (by decide) hx hX.1.1 hW.1.1 hX.1.2.1 hW.1.2.1) (by decide) (by decide) rfl hx.1.1 rfl (by omega) (Nat.le_of_ble_eq_true rfl) dL_law_573 (fun v1 J1 h1 => ?_)
  have f1 := fx_moves (G := Gm) (kp := kp) (Gi := Gi) (L := L') (tb := tb) (ln := ln) (sz := sz) (cl := cl) (ft := ft) (tr := tr) h1
  have hM1 := hM.up hW f1
  have hx9 := hx
  have hm9 := hm
  refine g_aload_n C (pc := 576) dL_law_576 1 rfl ?_
  refine g_arg C S (pc := 577) 1 (by omega) hL (by decide) dL_law_577 dL_law_578 dL_law_579 dL_law_580 dL_law_581 ?_
  refine g_callVI C (pc := 582) mf_X12_moves lk_RL_75 (c_X12_moves 119 ρ J1 (gF Gm) (gB Gm) (xs (i + 1)) (by decide) hm9 (hM1.2.1.qn hM1.1) hW.1.1 hW.1.2.1 hW.1.2.2.1.2.1 hW.1.2.2.1.2.2.1) (by decide) (by decide) rfl (show shp 97 = (21, 43) by decide +kernel) rfl (by omega) (Nat.le_of_ble_eq_true rfl) dL_law_582 (fun v2 J2 h2 => ?_)
  obtain ⟨e, hj2⟩ := st_moves hW hX hM1 h1 h2
  refine g_icmp_eq C (pc := 585) 1288 dL_law_585 (by decide) (fun _ => K _ J2 hx9 hm9 hj2) (fun c9 => absurd e c9)
set_option maxHeartbeats 1000000 in
theorem law_move {κ : Kap} {nm : String} {L : Nat} {xs : Nat → Int32} (C : Cx κ (yl nm) cL_law 4 30 119) (S : Scr κ L xs) {i : Nat} (hi : i + 5 ≤ L) (hL : L ≤ 320) {ρ : Rho} {I : Mem} (hx : XS 119 ρ) (hm : MS 119 ρ) (hj : JJ I) (K : ∀ ρ' I', XS 119 ρ' → MS 119 ρ' → JJ I' → G κ 119 ρ' 1288 (LV i) [] I') : G κ 119 ρ 590 (LV i) [] I := by
  obtain ⟨Gm, kp, Gi, L', tb, ln, sz, cl, ft, tr, hW, hX, hM⟩ := hj
  refine g_aload_n C (pc := 590) dL_law_590 2 rfl ?_
  refine g_arg C S (pc := 591) 1 (by omega) hL (by decide) dL_law_591 dL_law_592 dL_law_593 dL_law_594 dL_law_595 ?_
  refine g_arg C S (pc := 596) 2 (by omega) hL (by decide) dL_law_596 dL_law_597 dL_law_598 dL_law_599 dL_law_600 ?_
  refine g_callVI C (pc := 601) mf_X11_move lk_RL_76 (c_X11_move 119 ρ I (gF Gm) (gB Gm) (xs (i + 1)) (xs (i + 2)) (by decide) hx hX.1.1 hW.1.1 hX.1.2.1 hW.1.2.1) (by decide) (by decide) rfl hx.1.1 rfl (by omega) (Nat.le_of_ble_eq_true rfl) dL_law_601 (fun v1 J1 h1 => ?_)
  have f1 := fx_move (G := Gm) (kp := kp) (Gi := Gi) (L := L') (tb := tb) (ln := ln) (sz := sz) (cl := cl) (ft := ft) (tr := tr) h1
  have hM1 := hM.up hW f1
  have hx9 := hx
  have hm9 := hm
  refine g_aload_n C (pc := 604) dL_law_604 1 rfl ?_
  refine g_arg C S (pc := 605) 1 (by omega) hL (by decide) dL_law_605 dL_law_606 dL_law_607 dL_law_608 dL_law_609 ?_
  refine g_arg C S (pc := 610) 2 (by omega) hL (by decide) dL_law_610 dL_law_611 dL_law_612 dL_law_613 dL_law_614 ?_
  refine g_callVI C (pc := 615) mf_X12_move lk_RL_79 (c_X12_move 119 ρ J1 (gF Gm) (gB Gm) (xs (i + 1)) (xs (i + 2)) (by decide) hm9 (hM1.2.1.qn hM1.1) hW.1.1 hW.1.2.1 hW.1.2.2.1.2.1 hW.1.2.2.1.2.2.1) (by decide) (by decide) rfl (show shp 97 = (21, 43) by decide +kernel) rfl (by omega) (Nat.le_of_ble_eq_true rfl) dL_law_615 (fun v2 J2 h2 => ?_)
  obtain ⟨e, hj2⟩ := st_move hW hX hM1 h1 h2
  refine g_icmp_eq C (pc := 618) 1288 dL_law_618 (by decide) (fun _ => K _ J2 hx9 hm9 hj2) (fun c9 => absurd e c9)
set_option maxHeartbeats 1000000 in
theorem law_go {κ : Kap} {nm : String} {L : Nat} {xs : Nat → Int32} (C : Cx κ (yl nm) cL_law 4 30 119) (S : Scr κ L xs) {i : Nat} (hi : i + 5 ≤ L) (hL : L ≤ 320) {ρ : Rho} {I : Mem} (hx : XS 119 ρ) (hm : MS 119 ρ) (hj : JJ I) (K : ∀ ρ' I', XS 119 ρ' → MS 119 ρ' → JJ I' → G κ 119 ρ' 1288 (LV i) [] I') : G κ 119 ρ 623 (LV i) [] I := by
  obtain ⟨Gm, kp, Gi, L', tb, ln, sz, cl, ft, tr, hW, hX, hM⟩ := hj
  refine g_aload_n C (pc := 623) dL_law_623 2 rfl ?_
  refine g_arg C S (pc := 624) 1 (by omega) hL (by decide) dL_law_624 dL_law_625 dL_law_626 dL_law_627 dL_law_628 ?_
  refine g_arg C S (pc := 629) 2 (by omega) hL (by decide) dL_law_629 dL_law_630 dL_law_631 dL_law_632 dL_law_633 ?_
  refine g_callVI C (pc := 634) mf_X11_go lk_RL_80 (c_X11_go 119 ρ I (gF Gm) (gB Gm) (gT Gm) (xs (i + 1)) (xs (i + 2)) (by decide) hx hX.1.1 hW.1.1 hX.1.2.1 hW.1.2.1 hX.1.2.2.1 hW.1.2.2.2.1) (by decide) (by decide) rfl hx.1.1 rfl (by omega) (Nat.le_of_ble_eq_true rfl) dL_law_634 (fun v1 J1 h1 => ?_)
  have f1 := fx_go (G := Gm) (kp := kp) (Gi := Gi) (L := L') (tb := tb) (ln := ln) (sz := sz) (cl := cl) (ft := ft) (tr := tr) h1
  have hM1 := hM.up hW f1
  have hx9 := hx
  have hm9 := hm
  refine g_aload_n C (pc := 637) dL_law_637 1 rfl ?_
  refine g_arg C S (pc := 638) 1 (by omega) hL (by decide) dL_law_638 dL_law_639 dL_law_640 dL_law_641 dL_law_642 ?_
  refine g_arg C S (pc := 643) 2 (by omega) hL (by decide) dL_law_643 dL_law_644 dL_law_645 dL_law_646 dL_law_647 ?_
  refine g_callVI C (pc := 648) mf_X12_go lk_RL_83 (c_X12_go 119 ρ J1 (gF Gm) (gB Gm) (gT Gm) (xs (i + 1)) (xs (i + 2)) (by decide) hm9 (hM1.2.1.qn hM1.1) hW.1.1 hW.1.2.1 hW.1.2.2.1.2.1 hW.1.2.2.1.2.2.1 hM1.2.1.t hW.1.2.2.2.1) (by decide) (by decide) rfl (show shp 97 = (21, 43) by decide +kernel) rfl (by omega) (Nat.le_of_ble_eq_true rfl) dL_law_648 (fun v2 J2 h2 => ?_)
  obtain ⟨e, hj2⟩ := st_go hW hX hM1 h1 h2
  refine g_icmp_eq C (pc := 651) 1288 dL_law_651 (by decide) (fun _ => K _ J2 hx9 hm9 hj2) (fun c9 => absurd e c9)
set_option maxHeartbeats 1000000 in
theorem law_chance {κ : Kap} {nm : String} {L : Nat} {xs : Nat → Int32} (C : Cx κ (yl nm) cL_law 4 30 119) (S : Scr κ L xs) {i : Nat} (hi : i + 5 ≤ L) (hL : L ≤ 320) {ρ : Rho} {I : Mem} (hx : XS 119 ρ) (hm : MS 119 ρ) (hj : JJ I) (K : ∀ ρ' I', XS 119 ρ' → MS 119 ρ' → JJ I' → G κ 119 ρ' 1288 (LV i) [] I') : G κ 119 ρ 656 (LV i) [] I := by
  obtain ⟨Gm, kp, Gi, L', tb, ln, sz, cl, ft, tr, hW, hX, hM⟩ := hj
  refine g_aload_n C (pc := 656) dL_law_656 2 rfl ?_
  refine g_arg C S (pc := 657) 1 (by omega) hL (by decide) dL_law_657 dL_law_658 dL_law_659 dL_law_660 dL_law_661 ?_
  refine g_arg C S (pc := 662) 2 (by omega) hL (by decide) dL_law_662 dL_law_663 dL_law_664 dL_law_665 dL_law_666 ?_
  refine g_arg C S (pc := 667) 3 (by omega) hL (by decide) dL_law_667 dL_law_668 dL_law_669 dL_law_670 dL_law_671 ?_
  refine g_callVL C (pc := 672) mf_X11_chance lk_RL_84 (c_X11_chance 119 ρ I (gF Gm) (gB Gm) (xs (i + 1)) (xs (i + 2)) (xs (i + 3)) (by decide) hx hX.1.1 hW.1.1 hX.1.2.1 hW.1.2.1 hW.1.2.2.1.1 hW.1.2.2.1.2.2.2.1) (by decide) (by decide) rfl hx.1.1 rfl (by omega) (Nat.le_of_ble_eq_true rfl) dL_law_672 (fun v1 J1 h1 => ?_)
  have f1 := fx_chance (G := Gm) (kp := kp) (Gi := Gi) (L := L') (tb := tb) (ln := ln) (sz := sz) (cl := cl) (ft := ft) (tr := tr) h1
  have hM1 := hM.up hW f1
  have hx9 := hx
  have hm9 := hm
  refine g_aload_n C (pc := 675) dL_law_675 1 rfl ?_
  refine g_arg C S (pc := 676) 1 (by omega) hL (by decide) dL_law_676 dL_law_677 dL_law_678 dL_law_679 dL_law_680 ?_
  refine g_arg C S (pc := 681) 2 (by omega) hL (by decide) dL_law_681 dL_law_682 dL_law_683 dL_law_684 dL_law_685 ?_
  refine g_arg C S (pc := 686) 3 (by omega) hL (by decide) dL_law_686 dL_law_687 dL_law_688 dL_law_689 dL_law_690 ?_
  refine g_callVL C (pc := 691) mf_X12_chance lk_RL_88 (c_X12_chance 119 ρ J1 (gF Gm) (gB Gm) (xs (i + 1)) (xs (i + 2)) (xs (i + 3)) (by decide) hm9 (hM1.2.1.qn hM1.1) hW.1.1 hW.1.2.1 hW.1.2.2.1.2.1 hW.1.2.2.1.2.2.1 hW.1.2.2.1.2.2.2.1) (by decide) (by decide) rfl (show shp 97 = (21, 43) by decide +kernel) rfl (by omega) (Nat.le_of_ble_eq_true rfl) dL_law_691 (fun v2 J2 h2 => ?_)
  obtain ⟨e, hj2⟩ := st_chance hW hX hM1 h1 h2
  refine g_lcmp C (pc := 694) dL_law_694 ?_
  refine g_if_eq C (pc := 695) 1288 dL_law_695 (by decide) (fun _ => K _ J2 hx9 hm9 hj2) (fun c9 => absurd (by rw [e]; exact lg_cmp_eq0 v2) c9)
set_option maxHeartbeats 1000000 in
theorem law_byWind {κ : Kap} {nm : String} {L : Nat} {xs : Nat → Int32} (C : Cx κ (yl nm) cL_law 4 30 119) (S : Scr κ L xs) {i : Nat} (hi : i + 5 ≤ L) (hL : L ≤ 320) {ρ : Rho} {I : Mem} (hx : XS 119 ρ) (hm : MS 119 ρ) (hj : JJ I) (K : ∀ ρ' I', XS 119 ρ' → MS 119 ρ' → JJ I' → G κ 119 ρ' 1288 (LV i) [] I') : G κ 119 ρ 700 (LV i) [] I := by
  obtain ⟨Gm, kp, Gi, L', tb, ln, sz, cl, ft, tr, hW, hX, hM⟩ := hj
  refine g_aload_n C (pc := 700) dL_law_700 2 rfl ?_
  refine g_arg C S (pc := 701) 1 (by omega) hL (by decide) dL_law_701 dL_law_702 dL_law_703 dL_law_704 dL_law_705 ?_
  refine g_arg C S (pc := 706) 2 (by omega) hL (by decide) dL_law_706 dL_law_707 dL_law_708 dL_law_709 dL_law_710 ?_
  refine g_arg C S (pc := 711) 3 (by omega) hL (by decide) dL_law_711 dL_law_712 dL_law_713 dL_law_714 dL_law_715 ?_
  refine g_callVL C (pc := 716) mf_X11_byWind lk_RL_89 (c_X11_byWind 119 ρ I (gF Gm) (gB Gm) (xs (i + 1)) (xs (i + 2)) (xs (i + 3)) (by decide) hx hX.1.1 hW.1.1 hX.1.2.1 hW.1.2.1 hW.1.2.2.1.1 hW.1.2.2.1.2.2.2.1) (by decide) (by decide) rfl hx.1.1 rfl (by omega) (Nat.le_of_ble_eq_true rfl) dL_law_716 (fun v1 J1 h1 => ?_)
  have f1 := fx_byWind (G := Gm) (kp := kp) (Gi := Gi) (L := L') (tb := tb) (ln := ln) (sz := sz) (cl := cl) (ft := ft) (tr := tr) h1
  have hM1 := hM.up hW f1
  have hx9 := hx
  have hm9 := hm
  refine g_aload_n C (pc := 719) dL_law_719 1 rfl ?_
  refine g_arg C S (pc := 720) 1 (by omega) hL (by decide) dL_law_720 dL_law_721 dL_law_722 dL_law_723 dL_law_724 ?_
  refine g_arg C S (pc := 725) 2 (by omega) hL (by decide) dL_law_725 dL_law_726 dL_law_727 dL_law_728 dL_law_729 ?_
  refine g_arg C S (pc := 730) 3 (by omega) hL (by decide) dL_law_730 dL_law_731 dL_law_732 dL_law_733 dL_law_734 ?_
  refine g_callVL C (pc := 735) mf_X12_byWind lk_RL_92 (c_X12_byWind 119 ρ J1 (gF Gm) (gB Gm) (xs (i + 1)) (xs (i + 2)) (xs (i + 3)) (by decide) hm9 (hM1.2.1.qn hM1.1) hW.1.1 hW.1.2.1 hW.1.2.2.1.2.1 hW.1.2.2.1.2.2.1 hW.1.2.2.1.2.2.2.1) (by decide) (by decide) rfl (show shp 97 = (21, 43) by decide +kernel) rfl (by omega) (Nat.le_of_ble_eq_true rfl) dL_law_735 (fun v2 J2 h2 => ?_)
  obtain ⟨e, hj2⟩ := st_byWind hW hX hM1 h1 h2
  refine g_lcmp C (pc := 738) dL_law_738 ?_
  refine g_if_eq C (pc := 739) 1288 dL_law_739 (by decide) (fun _ => K _ J2 hx9 hm9 hj2) (fun c9 => absurd (by rw [e]; exact lg_cmp_eq0 v2) c9)
set_option maxHeartbeats 1000000 in
theorem law_best {κ : Kap} {nm : String} {L : Nat} {xs : Nat → Int32} (C : Cx κ (yl nm) cL_law 4 30 119) (S : Scr κ L xs) {i : Nat} (hi : i + 5 ≤ L) (hL : L ≤ 320) {ρ : Rho} {I : Mem} (hx : XS 119 ρ) (hm : MS 119 ρ) (hj : JJ I) (K : ∀ ρ' I', XS 119 ρ' → MS 119 ρ' → JJ I' → G κ 119 ρ' 1288 (LV i) [] I') : G κ 119 ρ 744 (LV i) [] I := by
  obtain ⟨Gm, kp, Gi, L', tb, ln, sz, cl, ft, tr, hW, hX, hM⟩ := hj
  refine g_aload_n C (pc := 744) dL_law_744 2 rfl ?_
  refine g_arg C S (pc := 745) 1 (by omega) hL (by decide) dL_law_745 dL_law_746 dL_law_747 dL_law_748 dL_law_749 ?_
  refine g_arg C S (pc := 750) 2 (by omega) hL (by decide) dL_law_750 dL_law_751 dL_law_752 dL_law_753 dL_law_754 ?_
  refine g_callVI C (pc := 755) mf_X11_best lk_RL_93 (c_X11_best 119 ρ I (gF Gm) (gB Gm) (xs (i + 1)) (xs (i + 2)) (by decide) hx hX.1.1 hW.1.1 hX.1.2.1 hW.1.2.1 hW.1.2.2.1.1) (by decide) (by decide) rfl hx.1.1 rfl (by omega) (Nat.le_of_ble_eq_true rfl) dL_law_755 (fun v1 J1 h1 => ?_)
  have f1 := fx_best (G := Gm) (kp := kp) (Gi := Gi) (L := L') (tb := tb) (ln := ln) (sz := sz) (cl := cl) (ft := ft) (tr := tr) h1
  have hM1 := hM.up hW f1
  have hx9 := hx
  have hm9 := hm
  refine g_aload_n C (pc := 758) dL_law_758 1 rfl ?_
  refine g_arg C S (pc := 759) 1 (by omega) hL (by decide) dL_law_759 dL_law_760 dL_law_761 dL_law_762 dL_law_763 ?_
  refine g_arg C S (pc := 764) 2 (by omega) hL (by decide) dL_law_764 dL_law_765 dL_law_766 dL_law_767 dL_law_768 ?_
  refine g_callVI C (pc := 769) mf_X12_best lk_RL_96 (c_X12_best 119 ρ J1 (gF Gm) (gB Gm) (xs (i + 1)) (xs (i + 2)) (by decide) hm9 (hM1.2.1.qn hM1.1) hW.1.1 hW.1.2.1 hW.1.2.2.1.2.1 hW.1.2.2.1.2.2.1) (by decide) (by decide) rfl (show shp 97 = (21, 43) by decide +kernel) rfl (by omega) (Nat.le_of_ble_eq_true rfl) dL_law_769 (fun v2 J2 h2 => ?_)
  obtain ⟨e, hj2⟩ := st_best hW hX hM1 h1 h2
  refine g_icmp_eq C (pc := 772) 1288 dL_law_772 (by decide) (fun _ => K _ J2 hx9 hm9 hj2) (fun c9 => absurd e c9)
set_option maxHeartbeats 1000000 in
theorem law_hope {κ : Kap} {nm : String} {L : Nat} {xs : Nat → Int32} (C : Cx κ (yl nm) cL_law 4 30 119) (S : Scr κ L xs) {i : Nat} (hi : i + 5 ≤ L) (hL : L ≤ 320) {ρ : Rho} {I : Mem} (hx : XS 119 ρ) (hm : MS 119 ρ) (hj : JJ I) (K : ∀ ρ' I', XS 119 ρ' → MS 119 ρ' → JJ I' → G κ 119 ρ' 1288 (LV i) [] I') : G κ 119 ρ 777 (LV i) [] I := by
  obtain ⟨Gm, kp, Gi, L', tb, ln, sz, cl, ft, tr, hW, hX, hM⟩ := hj
  refine g_aload_n C (pc := 777) dL_law_777 2 rfl ?_
  refine g_arg C S (pc := 778) 1 (by omega) hL (by decide) dL_law_778 dL_law_779 dL_law_780 dL_law_781 dL_law_782 ?_
  refine g_callVI C (pc := 783) mf_X11_hope lk_RL_97 (c_X11_hope 119 ρ I (gF Gm) (gB Gm) (xs (i + 1)) (by decide) hx hX.1.1 hW.1.1 hX.1.2.1 hW.1.2.1 hW.1.2.2.1.1) (by decide) (by decide) rfl hx.1.1 rfl (by omega) (Nat.le_of_ble_eq_true rfl) dL_law_783 (fun v1 J1 h1 => ?_)
  have f1 := fx_hope (G := Gm) (kp := kp) (Gi := Gi) (L := L') (tb := tb) (ln := ln) (sz := sz) (cl := cl) (ft := ft) (tr := tr) h1
  have hM1 := hM.up hW f1
  have hx9 := hx
  have hm9 := hm
  refine g_aload_n C (pc := 786) dL_law_786 1 rfl ?_
  refine g_arg C S (pc := 787) 1 (by omega) hL (by decide) dL_law_787 dL_law_788 dL_law_789 dL_law_790 dL_law_791 ?_
  refine g_callVI C (pc := 792) mf_X12_hope lk_RL_100 (c_X12_hope 119 ρ J1 (gF Gm) (gB Gm) (xs (i + 1)) (by decide) hm9 (hM1.2.1.qn hM1.1) hW.1.1 hW.1.2.1 hW.1.2.2.1.2.1 hW.1.2.2.1.2.2.1) (by decide) (by decide) rfl (show shp 97 = (21, 43) by decide +kernel) rfl (by omega) (Nat.le_of_ble_eq_true rfl) dL_law_792 (fun v2 J2 h2 => ?_)
  obtain ⟨e, hj2⟩ := st_hope hW hX hM1 h1 h2
  refine g_icmp_eq C (pc := 795) 1288 dL_law_795 (by decide) (fun _ => K _ J2 hx9 hm9 hj2) (fun c9 => absurd e c9)
set_option maxHeartbeats 1000000 in
theorem law_since {κ : Kap} {nm : String} {L : Nat} {xs : Nat → Int32} (C : Cx κ (yl nm) cL_law 4 30 119) (S : Scr κ L xs) {i : Nat} (hi : i + 5 ≤ L) (hL : L ≤ 320) {ρ : Rho} {I : Mem} (hx : XS 119 ρ) (hm : MS 119 ρ) (hj : JJ I) (K : ∀ ρ' I', XS 119 ρ' → MS 119 ρ' → JJ I' → G κ 119 ρ' 1288 (LV i) [] I') : G κ 119 ρ 800 (LV i) [] I := by
  obtain ⟨Gm, kp, Gi, L', tb, ln, sz, cl, ft, tr, hW, hX, hM⟩ := hj
  replace hW := hW.kx (xs (i + 1))
  replace hX := hX.kx (xs (i + 1))
  replace hM := hM.kx (xs (i + 1))
  refine g_aload_n C (pc := 800) dL_law_800 2 rfl ?_
  refine g_arg C S (pc := 801) 1 (by omega) hL (by decide) dL_law_801 dL_law_802 dL_law_803 dL_law_804 dL_law_805 ?_
  refine g_arg C S (pc := 806) 2 (by omega) hL (by decide) dL_law_806 dL_law_807 dL_law_808 dL_law_809 dL_law_810 ?_
  refine g_arg C S (pc := 811) 3 (by omega) hL (by decide) dL_law_811 dL_law_812 dL_law_813 dL_law_814 dL_law_815 ?_
  have rest : ∀ (r9 : Option Value) (ρ9 : Rho) (J1 : Mem), PX_since ρ I (gF Gm) (gB Gm) (kpx kp (xs (i + 1))) (fun k => gB (Gi k)) (xs (i + 1)) (xs (i + 2)) (xs (i + 3)) r9 ρ9 J1 → G κ 119 ρ9 819 (LV i) (r9.toList ++ []) J1 := ?_
  · cases hc : kp (xs (i + 1)).toNatClampNeg with
    | true => exact g_callV C (k := 0) (pc := 816) mf_X11_since lk_RL_101 (c_X11_since_y 119 ρ I (gF Gm) (gB Gm) (kpx kp (xs (i + 1))) (fun k => gB (Gi k)) (xs (i + 1)) (xs (i + 2)) (xs (i + 3)) (by decide) hx hX.1.1 hW.1.1 hX.1.2.1 hW.1.2.1 (fun k hk => ⟨(hX.2.1 k hk).1, fun hp => ⟨((hX.2.1 k hk).2 hp).2.1.same (hW.2 k hk hp).2.symm, (hW.2 k hk hp).1.2.1.same (hW.2 k hk hp).2.symm⟩⟩) (fun k e => (kpx_v e).trans hc)) (by decide) (by decide) rfl hx.1.1 rfl (by omega) (Nat.le_of_ble_eq_true rfl) dL_law_816 rest
    | false => exact g_callV C (k := 0) (pc := 816) mf_X11_since lk_RL_101 (c_X11_since_n 119 ρ I (gF Gm) (gB Gm) (kpx kp (xs (i + 1))) (fun k => gB (Gi k)) (xs (i + 1)) (xs (i + 2)) (xs (i + 3)) (by decide) hx hX.1.1 hW.1.1 hX.1.2.1 hW.1.2.1 (fun k hk => ⟨(hX.2.1 k hk).1, fun hp => ⟨((hX.2.1 k hk).2 hp).2.1.same (hW.2 k hk hp).2.symm, (hW.2 k hk hp).1.2.1.same (hW.2 k hk hp).2.symm⟩⟩) (fun k e => (kpx_v e).trans hc)) (by decide) (by decide) rfl hx.1.1 rfl (by omega) (Nat.le_of_ble_eq_true rfl) dL_law_816 rest
  intro r9 ρ9 J1 h1
  obtain ⟨⟨v1, hr9⟩, hxm, f1⟩ := fx_since (G := Gm) (kp := kpx kp (xs (i + 1))) (Gi := Gi) (L := L') (tb := tb) (ln := ln) (sz := sz) (cl := cl) (ft := ft) (tr := tr) h1
  obtain ⟨hx9, hm9⟩ := hxm hx hm
  have hM1 := hM.up hW f1
  rw [hr9]
  show G κ 119 ρ9 819 (LV i) [.int v1] J1
  refine g_aload_n C (pc := 819) dL_law_819 1 rfl ?_
  refine g_arg C S (pc := 820) 1 (by omega) hL (by decide) dL_law_820 dL_law_821 dL_law_822 dL_law_823 dL_law_824 ?_
  refine g_arg C S (pc := 825) 2 (by omega) hL (by decide) dL_law_825 dL_law_826 dL_law_827 dL_law_828 dL_law_829 ?_
  refine g_arg C S (pc := 830) 3 (by omega) hL (by decide) dL_law_830 dL_law_831 dL_law_832 dL_law_833 dL_law_834 ?_
  refine g_callVI C (pc := 835) mf_X12_since lk_RL_105 (c_X12_since 119 ρ9 J1 (gF Gm) (gB Gm) (kpx kp (xs (i + 1))) (fun k => gB (Gi k)) (xs (i + 1)) (xs (i + 2)) (xs (i + 3)) (by decide) hm9 (hM1.2.1.qn hM1.1) hW.1.1 hW.1.2.1 hW.1.2.2.1.2.1 hW.1.2.2.1.2.2.1 (fun k hk => (hM1.2.2.1 k hk).1) (fun k hk hp => ⟨((hM1.2.2.1 k hk).2 hp).im (hW.2 k hk hp).2, (hW.2 k hk hp).1.2.1.same (hW.2 k hk hp).2.symm, (hW.2 k hk hp).1.2.2.1.2.1.same (hW.2 k hk hp).2.symm, (hW.2 k hk hp).1.2.2.1.2.2.1.same (hW.2 k hk hp).2.symm⟩) hW.1.2.2.1.2.2.2.2) (by decide) (by decide) rfl (show shp 97 = (21, 43) by decide +kernel) rfl (by omega) (Nat.le_of_ble_eq_true rfl) dL_law_835 (fun v2 J2 h2 => ?_)
  obtain ⟨e, hj2⟩ := st_since hW hX hM1 h1 h2
  have e : v1 = v2 := by rw [hr9] at e; cases e; rfl
  refine g_icmp_eq C (pc := 838) 1288 dL_law_838 (by decide) (fun _ => K _ J2 hx9 hm9 hj2) (fun c9 => absurd e c9)
set_option maxHeartbeats 1000000 in
theorem law_see {κ : Kap} {nm : String} {L : Nat} {xs : Nat → Int32} (C : Cx κ (yl nm) cL_law 4 30 119) (S : Scr κ L xs) {i : Nat} (hi : i + 5 ≤ L) (hL : L ≤ 320) {ρ : Rho} {I : Mem} (hx : XS 119 ρ) (hm : MS 119 ρ) (hj : JJ I) (K : ∀ ρ' I', XS 119 ρ' → MS 119 ρ' → JJ I' → G κ 119 ρ' 1288 (LV i) [] I') : G κ 119 ρ 843 (LV i) [] I := by
  obtain ⟨Gm, kp, Gi, L', tb, ln, sz, cl, ft, tr, hW, hX, hM⟩ := hj
  refine g_aload_n C (pc := 843) dL_law_843 2 rfl ?_
  refine g_arg C S (pc := 844) 1 (by omega) hL (by decide) dL_law_844 dL_law_845 dL_law_846 dL_law_847 dL_law_848 ?_
  refine g_arg C S (pc := 849) 2 (by omega) hL (by decide) dL_law_849 dL_law_850 dL_law_851 dL_law_852 dL_law_853 ?_
  refine g_callVI C (pc := 854) mf_X11_see lk_RL_106 (c_X11_see 119 ρ I (gF Gm) (gB Gm) (gSn Gm) (gSq Gm) (gSd Gm) (xs (i + 1)) (xs (i + 2)) (by decide) hx hX.1.1 hW.1.1 hX.1.2.1 hW.1.2.1 (hX.1.sn hW.1)) (by decide) (by decide) rfl hx.1.1 rfl (by omega) (Nat.le_of_ble_eq_true rfl) dL_law_854 (fun v1 J1 h1 => ?_)
  have f1 := fx_see (G := Gm) (kp := kp) (Gi := Gi) (L := L') (tb := tb) (ln := ln) (sz := sz) (cl := cl) (ft := ft) (tr := tr) h1
  have hM1 := hM.up hW f1
  have hx9 := hx
  have hm9 := hm
  refine g_aload_n C (pc := 857) dL_law_857 1 rfl ?_
  refine g_arg C S (pc := 858) 1 (by omega) hL (by decide) dL_law_858 dL_law_859 dL_law_860 dL_law_861 dL_law_862 ?_
  refine g_arg C S (pc := 863) 2 (by omega) hL (by decide) dL_law_863 dL_law_864 dL_law_865 dL_law_866 dL_law_867 ?_
  refine g_callVI C (pc := 868) mf_X12_see lk_RL_109 (c_X12_see 119 ρ J1 (gF Gm) (gB Gm) (gSn Gm) (xs (i + 1)) (xs (i + 2)) (by decide) hm9 (hM1.2.1.qn hM1.1) hW.1.1 hW.1.2.1 hM1.2.1.snn hW.1.2.2.2.2.1.1) (by decide) (by decide) rfl (show shp 97 = (21, 43) by decide +kernel) rfl (by omega) (Nat.le_of_ble_eq_true rfl) dL_law_868 (fun v2 J2 h2 => ?_)
  obtain ⟨e, hj2⟩ := st_see hW hX hM1 h1 h2
  refine g_icmp_eq C (pc := 871) 1288 dL_law_871 (by decide) (fun _ => K _ J2 hx9 hm9 hj2) (fun c9 => absurd e c9)
set_option maxHeartbeats 1000000 in
theorem law_forget {κ : Kap} {nm : String} {L : Nat} {xs : Nat → Int32} (C : Cx κ (yl nm) cL_law 4 30 119) (S : Scr κ L xs) {i : Nat} (hi : i + 5 ≤ L) (hL : L ≤ 320) {ρ : Rho} {I : Mem} (hx : XS 119 ρ) (hm : MS 119 ρ) (hj : JJ I) (K : ∀ ρ' I', XS 119 ρ' → MS 119 ρ' → JJ I' → G κ 119 ρ' 1288 (LV i) [] I') : G κ 119 ρ 876 (LV i) [] I := by
  obtain ⟨Gm, kp, Gi, L', tb, ln, sz, cl, ft, tr, hW, hX, hM⟩ := hj
  refine g_aload_n C (pc := 876) dL_law_876 2 rfl ?_
  refine g_arg C S (pc := 877) 1 (by omega) hL (by decide) dL_law_877 dL_law_878 dL_law_879 dL_law_880 dL_law_881 ?_
  refine g_callVI C (pc := 882) mf_X11_forget lk_RL_110 (c_X11_forget 119 ρ I (xs (i + 1)) (by decide) hx.1) (by decide) (by decide) rfl hx.1.1 rfl (by omega) (Nat.le_of_ble_eq_true rfl) dL_law_882 (fun v1 J1 h1 => ?_)
  have f1 := fx_forget (G := Gm) (kp := kp) (Gi := Gi) (L := L') (tb := tb) (ln := ln) (sz := sz) (cl := cl) (ft := ft) (tr := tr) h1
  have hM1 := hM.up hW f1
  have hx9 := hx
  have hm9 := hm
  refine g_aload_n C (pc := 885) dL_law_885 1 rfl ?_
  refine g_arg C S (pc := 886) 1 (by omega) hL (by decide) dL_law_886 dL_law_887 dL_law_888 dL_law_889 dL_law_890 ?_
  refine g_callVI C (pc := 891) mf_X12_forget lk_RL_113 (c_X12_forget 119 ρ J1 (gSn Gm) (xs (i + 1)) (by decide) hm9 hM1.2.1.snn hW.1.2.2.2.2.1.1) (by decide) (by decide) rfl (show shp 97 = (21, 43) by decide +kernel) rfl (by omega) (Nat.le_of_ble_eq_true rfl) dL_law_891 (fun v2 J2 h2 => ?_)
  obtain ⟨e, hj2⟩ := st_forget hW hX hM1 h1 h2
  refine g_icmp_eq C (pc := 894) 1288 dL_law_894 (by decide) (fun _ => K _ J2 hx9 hm9 hj2) (fun c9 => absurd e c9)
set_option maxHeartbeats 1000000 in
theorem law_fits {κ : Kap} {nm : String} {L : Nat} {xs : Nat → Int32} (C : Cx κ (yl nm) cL_law 4 30 119) (S : Scr κ L xs) {i : Nat} (hi : i + 5 ≤ L) (hL : L ≤ 320) {ρ : Rho} {I : Mem} (hx : XS 119 ρ) (hm : MS 119 ρ) (hj : JJ I) (K : ∀ ρ' I', XS 119 ρ' → MS 119 ρ' → JJ I' → G κ 119 ρ' 1288 (LV i) [] I') : G κ 119 ρ 899 (LV i) [] I := by
  obtain ⟨Gm, kp, Gi, L', tb, ln, sz, cl, ft, tr, hW, hX, hM⟩ := hj
  refine g_aload_n C (pc := 899) dL_law_899 2 rfl ?_
  refine g_arg C S (pc := 900) 1 (by omega) hL (by decide) dL_law_900 dL_law_901 dL_law_902 dL_law_903 dL_law_904 ?_
  refine g_callV C (k := 0) (pc := 905) mf_X11_fits lk_RL_114 (c_X11_fits 119 ρ I (gF Gm) (gB Gm) (gSn Gm) (gSq Gm) (gSd Gm) (xs (i + 1)) (by decide) hx hX.1.1 hW.1.1 hX.1.2.1 hW.1.2.1 (hX.1.sn hW.1)) (by decide) (by decide) rfl hx.1.1 rfl (by omega) (Nat.le_of_ble_eq_true rfl) dL_law_905 (fun r9 ρ9 J1 h1 => ?_)
  obtain ⟨⟨v1, hr9⟩, hxm, f1⟩ := fx_fits (G := Gm) (kp := kp) (Gi := Gi) (L := L') (tb := tb) (ln := ln) (sz := sz) (cl := cl) (ft := ft) (tr := tr) h1
  obtain ⟨hx9, hm9⟩ := hxm hx hm
  have hM1 := hM.up hW f1
  rw [hr9]
  show G κ 119 ρ9 908 (LV i) [.int v1] J1
  refine g_aload_n C (pc := 908) dL_law_908 1 rfl ?_
  refine g_arg C S (pc := 909) 1 (by omega) hL (by decide) dL_law_909 dL_law_910 dL_law_911 dL_law_912 dL_law_913 ?_
  refine g_callVI C (pc := 914) mf_X12_fits lk_RL_117 (c_X12_fits 119 ρ9 J1 (gF Gm) (gB Gm) (gSn Gm) (gSq Gm) (gSd Gm) (xs (i + 1)) (by decide) hm9 (hM1.2.1.qn hM1.1) hW.1.1 hW.1.2.1 hW.1.2.2.1.2.1 hW.1.2.2.1.2.2.1 (hM1.2.1.sn hW.1) hW.1.2.2.1.2.2.2.2) (by decide) (by decide) rfl (show shp 97 = (21, 43) by decide +kernel) rfl (by omega) (Nat.le_of_ble_eq_true rfl) dL_law_914 (fun v2 J2 h2 => ?_)
  obtain ⟨e, hj2⟩ := st_fits hW hX hM1 h1 h2
  have e : v1 = v2 := by rw [hr9] at e; cases e; rfl
  refine g_icmp_eq C (pc := 917) 1288 dL_law_917 (by decide) (fun _ => K _ J2 hx9 hm9 hj2) (fun c9 => absurd e c9)
set_option maxHeartbeats 1000000 in
theorem law_where {κ : Kap} {nm : String} {L : Nat} {xs : Nat → Int32} (C : Cx κ (yl nm) cL_law 4 30 119) (S : Scr κ L xs) {i : Nat} (hi : i + 5 ≤ L) (hL : L ≤ 320) {ρ : Rho} {I : Mem} (hx : XS 119 ρ) (hm : MS 119 ρ) (hj : JJ I) (K : ∀ ρ' I', XS 119 ρ' → MS 119 ρ' → JJ I' → G κ 119 ρ' 1288 (LV i) [] I') : G κ 119 ρ 922 (LV i) [] I := by
  obtain ⟨Gm, kp, Gi, L', tb, ln, sz, cl, ft, tr, hW, hX, hM⟩ := hj
  refine g_aload_n C (pc := 922) dL_law_922 2 rfl ?_
  refine g_arg C S (pc := 923) 1 (by omega) hL (by decide) dL_law_923 dL_law_924 dL_law_925 dL_law_926 dL_law_927 ?_
  refine g_arg C S (pc := 928) 2 (by omega) hL (by decide) dL_law_928 dL_law_929 dL_law_930 dL_law_931 dL_law_932 ?_
  refine g_callV C (k := 0) (pc := 933) mf_X11_where lk_RL_118 (c_X11_where 119 ρ I (gF Gm) (gB Gm) (gSn Gm) (gSq Gm) (gSd Gm) (xs (i + 1)) (xs (i + 2)) (by decide) hx hX.1.1 hW.1.1 hX.1.2.1 hW.1.2.1 (hX.1.sn hW.1)) (by decide) (by decide) rfl hx.1.1 rfl (by omega) (Nat.le_of_ble_eq_true rfl) dL_law_933 (fun r9 ρ9 J1 h1 => ?_)
  obtain ⟨⟨v1, hr9⟩, hxm, f1⟩ := fx_where (G := Gm) (kp := kp) (Gi := Gi) (L := L') (tb := tb) (ln := ln) (sz := sz) (cl := cl) (ft := ft) (tr := tr) h1
  obtain ⟨hx9, hm9⟩ := hxm hx hm
  have hM1 := hM.up hW f1
  rw [hr9]
  show G κ 119 ρ9 936 (LV i) [.int v1] J1
  refine g_aload_n C (pc := 936) dL_law_936 1 rfl ?_
  refine g_arg C S (pc := 937) 1 (by omega) hL (by decide) dL_law_937 dL_law_938 dL_law_939 dL_law_940 dL_law_941 ?_
  refine g_arg C S (pc := 942) 2 (by omega) hL (by decide) dL_law_942 dL_law_943 dL_law_944 dL_law_945 dL_law_946 ?_
  refine g_callVI C (pc := 947) mf_X12_where lk_RL_121 (c_X12_where 119 ρ9 J1 (gF Gm) (gB Gm) (gSn Gm) (gSq Gm) (gSd Gm) (xs (i + 1)) (xs (i + 2)) (by decide) hm9 (hM1.2.1.qn hM1.1) hW.1.1 hW.1.2.1 hW.1.2.2.1.2.1 hW.1.2.2.1.2.2.1 (hM1.2.1.sn hW.1) hW.1.2.2.1.2.2.2.2) (by decide) (by decide) rfl (show shp 97 = (21, 43) by decide +kernel) rfl (by omega) (Nat.le_of_ble_eq_true rfl) dL_law_947 (fun v2 J2 h2 => ?_)
  obtain ⟨e, hj2⟩ := st_where hW hX hM1 h1 h2
  have e : v1 = v2 := by rw [hr9] at e; cases e; rfl
  refine g_icmp_eq C (pc := 950) 1288 dL_law_950 (by decide) (fun _ => K _ J2 hx9 hm9 hj2) (fun c9 => absurd e c9)
set_option maxHeartbeats 1000000 in
theorem law_tell {κ : Kap} {nm : String} {L : Nat} {xs : Nat → Int32} (C : Cx κ (yl nm) cL_law 4 30 119) (S : Scr κ L xs) {i : Nat} (hi : i + 5 ≤ L) (hL : L ≤ 320) {ρ : Rho} {I : Mem} (hx : XS 119 ρ) (hm : MS 119 ρ) (hj : JJ I) (K : ∀ ρ' I', XS 119 ρ' → MS 119 ρ' → JJ I' → G κ 119 ρ' 1288 (LV i) [] I') : G κ 119 ρ 955 (LV i) [] I := by
  obtain ⟨Gm, kp, Gi, L', tb, ln, sz, cl, ft, tr, hW, hX, hM⟩ := hj
  refine g_aload_n C (pc := 955) dL_law_955 2 rfl ?_
  refine g_arg C S (pc := 956) 1 (by omega) hL (by decide) dL_law_956 dL_law_957 dL_law_958 dL_law_959 dL_law_960 ?_
  refine g_callVI C (pc := 961) mf_X11_tell lk_RL_122 (c_X11_tell 119 ρ I (gTn Gm) (xs (i + 1)) (by decide) hx hX.1.2.2.2.2.1 hW.1.2.2.2.2.2.1) (by decide) (by decide) rfl hx.1.1 rfl (by omega) (Nat.le_of_ble_eq_true rfl) dL_law_961 (fun v1 J1 h1 => ?_)
  have f1 := fx_tell (G := Gm) (kp := kp) (Gi := Gi) (L := L') (tb := tb) (ln := ln) (sz := sz) (cl := cl) (ft := ft) (tr := tr) h1
  have hM1 := hM.up hW f1
  have hx9 := hx
  have hm9 := hm
  refine g_aload_n C (pc := 964) dL_law_964 1 rfl ?_
  refine g_arg C S (pc := 965) 1 (by omega) hL (by decide) dL_law_965 dL_law_966 dL_law_967 dL_law_968 dL_law_969 ?_
  refine g_callVI C (pc := 970) mf_X12_tell lk_RL_125 (c_X12_tell 119 ρ J1 (gTn Gm) (xs (i + 1)) (by decide) hm9 hM1.2.1.tn hW.1.2.2.2.2.2.1) (by decide) (by decide) rfl (show shp 97 = (21, 43) by decide +kernel) rfl (by omega) (Nat.le_of_ble_eq_true rfl) dL_law_970 (fun v2 J2 h2 => ?_)
  obtain ⟨e, hj2⟩ := st_tell hW hX hM1 h1 h2
  refine g_icmp_eq C (pc := 973) 1288 dL_law_973 (by decide) (fun _ => K _ J2 hx9 hm9 hj2) (fun c9 => absurd e c9)
set_option maxHeartbeats 1000000 in
theorem law_drop {κ : Kap} {nm : String} {L : Nat} {xs : Nat → Int32} (C : Cx κ (yl nm) cL_law 4 30 119) (S : Scr κ L xs) {i : Nat} (hi : i + 5 ≤ L) (hL : L ≤ 320) {ρ : Rho} {I : Mem} (hx : XS 119 ρ) (hm : MS 119 ρ) (hj : JJ I) (K : ∀ ρ' I', XS 119 ρ' → MS 119 ρ' → JJ I' → G κ 119 ρ' 1288 (LV i) [] I') : G κ 119 ρ 978 (LV i) [] I := by
  obtain ⟨Gm, kp, Gi, L', tb, ln, sz, cl, ft, tr, hW, hX, hM⟩ := hj
  refine g_aload_n C (pc := 978) dL_law_978 2 rfl ?_
  refine g_arg C S (pc := 979) 1 (by omega) hL (by decide) dL_law_979 dL_law_980 dL_law_981 dL_law_982 dL_law_983 ?_
  refine g_callVI C (pc := 984) mf_X11_drop lk_RL_126 (c_X11_drop 119 ρ I (xs (i + 1)) (by decide) hx.1) (by decide) (by decide) rfl hx.1.1 rfl (by omega) (Nat.le_of_ble_eq_true rfl) dL_law_984 (fun v1 J1 h1 => ?_)
  have f1 := fx_drop (G := Gm) (kp := kp) (Gi := Gi) (L := L') (tb := tb) (ln := ln) (sz := sz) (cl := cl) (ft := ft) (tr := tr) h1
  have hM1 := hM.up hW f1
  have hx9 := hx
  have hm9 := hm
  refine g_aload_n C (pc := 987) dL_law_987 1 rfl ?_
  refine g_arg C S (pc := 988) 1 (by omega) hL (by decide) dL_law_988 dL_law_989 dL_law_990 dL_law_991 dL_law_992 ?_
  refine g_callVI C (pc := 993) mf_X12_drop lk_RL_129 (c_X12_drop 119 ρ J1 (gTn Gm) (xs (i + 1)) (by decide) hm9 hM1.2.1.tn hW.1.2.2.2.2.2.1) (by decide) (by decide) rfl (show shp 97 = (21, 43) by decide +kernel) rfl (by omega) (Nat.le_of_ble_eq_true rfl) dL_law_993 (fun v2 J2 h2 => ?_)
  obtain ⟨e, hj2⟩ := st_drop hW hX hM1 h1 h2
  refine g_icmp_eq C (pc := 996) 1288 dL_law_996 (by decide) (fun _ => K _ J2 hx9 hm9 hj2) (fun c9 => absurd e c9)
set_option maxHeartbeats 1000000 in
theorem law_blow {κ : Kap} {nm : String} {L : Nat} {xs : Nat → Int32} (C : Cx κ (yl nm) cL_law 4 30 119) (S : Scr κ L xs) {i : Nat} (hi : i + 5 ≤ L) (hL : L ≤ 320) {ρ : Rho} {I : Mem} (hx : XS 119 ρ) (hm : MS 119 ρ) (hj : JJ I) (K : ∀ ρ' I', XS 119 ρ' → MS 119 ρ' → JJ I' → G κ 119 ρ' 1288 (LV i) [] I') : G κ 119 ρ 1001 (LV i) [] I := by
  obtain ⟨Gm, kp, Gi, L', tb, ln, sz, cl, ft, tr, hW, hX, hM⟩ := hj
  refine g_aload_n C (pc := 1001) dL_law_1001 2 rfl ?_
  refine g_arg C S (pc := 1002) 1 (by omega) hL (by decide) dL_law_1002 dL_law_1003 dL_law_1004 dL_law_1005 dL_law_1006 ?_
  refine g_callVI C (pc := 1007) mf_X11_blow lk_RL_130 (c_X11_blow 119 ρ I (gF Gm) (gB Gm) (gTn Gm) (gTl Gm) (xs (i + 1)) (by decide) hx hX.1.1 hW.1.1 hX.1.2.1 hW.1.2.1 hX.1.2.2.2.2.1 hW.1.2.2.2.2.2.1 (hX.1.tl hW.1)) (by decide) (by decide) rfl hx.1.1 rfl (by omega) (Nat.le_of_ble_eq_true rfl) dL_law_1007 (fun v1 J1 h1 => ?_)
  have f1 := fx_blow (G := Gm) (kp := kp) (Gi := Gi) (L := L') (tb := tb) (ln := ln) (sz := sz) (cl := cl) (ft := ft) (tr := tr) h1
  have hM1 := hM.up hW f1
  have hx9 := hx
  have hm9 := hm
  refine g_aload_n C (pc := 1010) dL_law_1010 1 rfl ?_
  refine g_arg C S (pc := 1011) 1 (by omega) hL (by decide) dL_law_1011 dL_law_1012 dL_law_1013 dL_law_1014 dL_law_1015 ?_
  refine g_callVI C (pc := 1016) mf_X12_blow lk_RL_133 (c_X12_blow 119 ρ J1 (gF Gm) (gB Gm) (gTn Gm) (gTl Gm) (xs (i + 1)) (by decide) hm9 (hM1.2.1.qn hM1.1) hW.1.1 hW.1.2.1 hW.1.2.2.1.2.1 hW.1.2.2.1.2.2.1 hM1.2.1.tn hW.1.2.2.2.2.2.1 (hM1.2.1.tl hW.1)) (by decide) (by decide) rfl (show shp 97 = (21, 43) by decide +kernel) rfl (by omega) (Nat.le_of_ble_eq_true rfl) dL_law_1016 (fun v2 J2 h2 => ?_)
  obtain ⟨e, hj2⟩ := st_blow hW hX hM1 h1 h2
  refine g_icmp_eq C (pc := 1019) 1288 dL_law_1019 (by decide) (fun _ => K _ J2 hx9 hm9 hj2) (fun c9 => absurd e c9)
set_option maxHeartbeats 1000000 in
theorem law_gale {κ : Kap} {nm : String} {L : Nat} {xs : Nat → Int32} (C : Cx κ (yl nm) cL_law 4 30 119) (S : Scr κ L xs) {i : Nat} (hi : i + 5 ≤ L) (hL : L ≤ 320) {ρ : Rho} {I : Mem} (hx : XS 119 ρ) (hm : MS 119 ρ) (hj : JJ I) (K : ∀ ρ' I', XS 119 ρ' → MS 119 ρ' → JJ I' → G κ 119 ρ' 1288 (LV i) [] I') : G κ 119 ρ 1024 (LV i) [] I := by
  obtain ⟨Gm, kp, Gi, L', tb, ln, sz, cl, ft, tr, hW, hX, hM⟩ := hj
  refine g_aload_n C (pc := 1024) dL_law_1024 2 rfl ?_
  refine g_arg C S (pc := 1025) 1 (by omega) hL (by decide) dL_law_1025 dL_law_1026 dL_law_1027 dL_law_1028 dL_law_1029 ?_
  refine g_arg C S (pc := 1030) 2 (by omega) hL (by decide) dL_law_1030 dL_law_1031 dL_law_1032 dL_law_1033 dL_law_1034 ?_
  refine g_arg C S (pc := 1035) 3 (by omega) hL (by decide) dL_law_1035 dL_law_1036 dL_law_1037 dL_law_1038 dL_law_1039 ?_
  refine g_callVI C (pc := 1040) mf_X11_gale lk_RL_134 (c_X11_gale 119 ρ I (gF Gm) (gB Gm) (xs (i + 1)) (xs (i + 2)) (xs (i + 3)) (by decide) hx hX.1.1 hW.1.1 hX.1.2.1 hW.1.2.1 hW.1.2.2.1.2.2.2.1) (by decide) (by decide) rfl hx.1.1 rfl (by omega) (Nat.le_of_ble_eq_true rfl) dL_law_1040 (fun v1 J1 h1 => ?_)
  have f1 := fx_gale (G := Gm) (kp := kp) (Gi := Gi) (L := L') (tb := tb) (ln := ln) (sz := sz) (cl := cl) (ft := ft) (tr := tr) h1
  have hM1 := hM.up hW f1
  have hx9 := hx
  have hm9 := hm
  refine g_aload_n C (pc := 1043) dL_law_1043 1 rfl ?_
  refine g_arg C S (pc := 1044) 1 (by omega) hL (by decide) dL_law_1044 dL_law_1045 dL_law_1046 dL_law_1047 dL_law_1048 ?_
  refine g_arg C S (pc := 1049) 2 (by omega) hL (by decide) dL_law_1049 dL_law_1050 dL_law_1051 dL_law_1052 dL_law_1053 ?_
  refine g_arg C S (pc := 1054) 3 (by omega) hL (by decide) dL_law_1054 dL_law_1055 dL_law_1056 dL_law_1057 dL_law_1058 ?_
  refine g_callVI C (pc := 1059) mf_X12_gale lk_RL_137 (c_X12_gale 119 ρ J1 (gF Gm) (gB Gm) (xs (i + 1)) (xs (i + 2)) (xs (i + 3)) (by decide) hm9 (hM1.2.1.qn hM1.1) hW.1.1 hW.1.2.1 hW.1.2.2.1.2.1 hW.1.2.2.1.2.2.1 hW.1.2.2.1.2.2.2.1) (by decide) (by decide) rfl (show shp 97 = (21, 43) by decide +kernel) rfl (by omega) (Nat.le_of_ble_eq_true rfl) dL_law_1059 (fun v2 J2 h2 => ?_)
  obtain ⟨e, hj2⟩ := st_gale hW hX hM1 h1 h2
  refine g_icmp_eq C (pc := 1062) 1288 dL_law_1062 (by decide) (fun _ => K _ J2 hx9 hm9 hj2) (fun c9 => absurd e c9)
set_option maxHeartbeats 1000000 in
theorem law_keep {κ : Kap} {nm : String} {L : Nat} {xs : Nat → Int32} (C : Cx κ (yl nm) cL_law 4 30 119) (S : Scr κ L xs) {i : Nat} (hi : i + 5 ≤ L) (hL : L ≤ 320) {ρ : Rho} {I : Mem} (hx : XS 119 ρ) (hm : MS 119 ρ) (hj : JJ I) (K : ∀ ρ' I', XS 119 ρ' → MS 119 ρ' → JJ I' → G κ 119 ρ' 1288 (LV i) [] I') : G κ 119 ρ 1067 (LV i) [] I := by
  obtain ⟨Gm, kp, Gi, L', tb, ln, sz, cl, ft, tr, hW, hX, hM⟩ := hj
  refine g_aload_n C (pc := 1067) dL_law_1067 2 rfl ?_
  refine g_arg C S (pc := 1068) 1 (by omega) hL (by decide) dL_law_1068 dL_law_1069 dL_law_1070 dL_law_1071 dL_law_1072 ?_
  refine g_callVI C (pc := 1073) mf_X11_keep lk_RL_138 (c_X11_keep 119 ρ I kp (xs (i + 1)) (by decide) hx (fun k hk => (hX.2.1 k hk).1)) (by decide) (by decide) rfl hx.1.1 rfl (by omega) (Nat.le_of_ble_eq_true rfl) dL_law_1073 (fun v1 J1 h1 => ?_)
  have f1 := fx_keep (G := Gm) (kp := kp) (Gi := Gi) (L := L') (tb := tb) (ln := ln) (sz := sz) (cl := cl) (ft := ft) (tr := tr) h1
  have hM1 := hM.up hW f1
  have hx9 := hx
  have hm9 := hm
  refine g_aload_n C (pc := 1076) dL_law_1076 1 rfl ?_
  refine g_arg C S (pc := 1077) 1 (by omega) hL (by decide) dL_law_1077 dL_law_1078 dL_law_1079 dL_law_1080 dL_law_1081 ?_
  refine g_callVI C (pc := 1082) mf_X12_keep lk_RL_141 (c_X12_keep 119 ρ J1 kp (xs (i + 1)) (by decide) hm9 (fun k hk => (hM1.2.2.1 k hk).1)) (by decide) (by decide) rfl (show shp 97 = (21, 43) by decide +kernel) rfl (by omega) (Nat.le_of_ble_eq_true rfl) dL_law_1082 (fun v2 J2 h2 => ?_)
  obtain ⟨e, hj2⟩ := st_keep hW hX hM1 h1 h2
  refine g_icmp_eq C (pc := 1085) 1288 dL_law_1085 (by decide) (fun _ => K _ J2 hx9 hm9 hj2) (fun c9 => absurd e c9)
set_option maxHeartbeats 1000000 in
theorem law_back {κ : Kap} {nm : String} {L : Nat} {xs : Nat → Int32} (C : Cx κ (yl nm) cL_law 4 30 119) (S : Scr κ L xs) {i : Nat} (hi : i + 5 ≤ L) (hL : L ≤ 320) {ρ : Rho} {I : Mem} (hx : XS 119 ρ) (hm : MS 119 ρ) (hj : JJ I) (K : ∀ ρ' I', XS 119 ρ' → MS 119 ρ' → JJ I' → G κ 119 ρ' 1288 (LV i) [] I') : G κ 119 ρ 1090 (LV i) [] I := by
  obtain ⟨Gm, kp, Gi, L', tb, ln, sz, cl, ft, tr, hW, hX, hM⟩ := hj
  replace hW := hW.kx (xs (i + 1))
  replace hX := hX.kx (xs (i + 1))
  replace hM := hM.kx (xs (i + 1))
  refine g_aload_n C (pc := 1090) dL_law_1090 2 rfl ?_
  refine g_arg C S (pc := 1091) 1 (by omega) hL (by decide) dL_law_1091 dL_law_1092 dL_law_1093 dL_law_1094 dL_law_1095 ?_
  have rest : ∀ (v1 : Int32) (J1 : Mem), PX_back I (kpx kp (xs (i + 1))) (xs (i + 1)) v1 J1 → G κ 119 ρ 1099 (LV i) [.int v1] J1 := ?_
  · cases hc : kp (xs (i + 1)).toNatClampNeg with
    | true => exact g_callVI C (pc := 1096) mf_X11_back lk_RL_142 (c_X11_back_y 119 ρ I (kpx kp (xs (i + 1))) (xs (i + 1)) (by decide) hx (fun k hk => (hX.2.1 k hk).1) (fun k e => (kpx_v e).trans hc)) (by decide) (by decide) rfl hx.1.1 rfl (by omega) (Nat.le_of_ble_eq_true rfl) dL_law_1096 rest
    | false => exact g_callVI C (pc := 1096) mf_X11_back lk_RL_142 (c_X11_back_n 119 ρ I (kpx kp (xs (i + 1))) (xs (i + 1)) (by decide) hx (fun k hk => (hX.2.1 k hk).1) (fun k e => (kpx_v e).trans hc)) (by decide) (by decide) rfl hx.1.1 rfl (by omega) (Nat.le_of_ble_eq_true rfl) dL_law_1096 rest
  intro v1 J1 h1
  have f1 := fx_back (G := Gm) (kp := kpx kp (xs (i + 1))) (Gi := Gi) (L := L') (tb := tb) (ln := ln) (sz := sz) (cl := cl) (ft := ft) (tr := tr) h1
  have hM1 := hM.up hW f1
  have hx9 := hx
  have hm9 := hm
  refine g_aload_n C (pc := 1099) dL_law_1099 1 rfl ?_
  refine g_arg C S (pc := 1100) 1 (by omega) hL (by decide) dL_law_1100 dL_law_1101 dL_law_1102 dL_law_1103 dL_law_1104 ?_
  refine g_callVI C (pc := 1105) mf_X12_back lk_RL_145 (c_X12_back 119 ρ J1 (kpx kp (xs (i + 1))) (xs (i + 1)) (by decide) hm9 (fun k hk => (hM1.2.2.1 k hk).1)) (by decide) (by decide) rfl (show shp 97 = (21, 43) by decide +kernel) rfl (by omega) (Nat.le_of_ble_eq_true rfl) dL_law_1105 (fun v2 J2 h2 => ?_)
  obtain ⟨e, hj2⟩ := st_back hW hX hM1 h1 h2
  refine g_icmp_eq C (pc := 1108) 1288 dL_law_1108 (by decide) (fun _ => K _ J2 hx9 hm9 hj2) (fun c9 => absurd e c9)
set_option maxHeartbeats 1000000 in
theorem law_sheet {κ : Kap} {nm : String} {L : Nat} {xs : Nat → Int32} (C : Cx κ (yl nm) cL_law 4 30 119) (S : Scr κ L xs) {i : Nat} (hi : i + 5 ≤ L) (hL : L ≤ 320) {ρ : Rho} {I : Mem} (hx : XS 119 ρ) (hm : MS 119 ρ) (hj : JJ I) (K : ∀ ρ' I', XS 119 ρ' → MS 119 ρ' → JJ I' → G κ 119 ρ' 1288 (LV i) [] I') : G κ 119 ρ 1113 (LV i) [] I := by
  obtain ⟨Gm, kp, Gi, L', tb, ln, sz, cl, ft, tr, hW, hX, hM⟩ := hj
  refine g_aload_n C (pc := 1113) dL_law_1113 2 rfl ?_
  refine g_arg C S (pc := 1114) 1 (by omega) hL (by decide) dL_law_1114 dL_law_1115 dL_law_1116 dL_law_1117 dL_law_1118 ?_
  refine g_arg C S (pc := 1119) 2 (by omega) hL (by decide) dL_law_1119 dL_law_1120 dL_law_1121 dL_law_1122 dL_law_1123 ?_
  refine g_arg C S (pc := 1124) 3 (by omega) hL (by decide) dL_law_1124 dL_law_1125 dL_law_1126 dL_law_1127 dL_law_1128 ?_
  refine g_callVI C (pc := 1129) mf_X11_sheet lk_RL_146 (c_X11_sheet 119 ρ I (xs (i + 1)) (xs (i + 2)) (xs (i + 3)) (by decide) hx) (by decide) (by decide) rfl hx.1.1 rfl (by omega) (Nat.le_of_ble_eq_true rfl) dL_law_1129 (fun v1 J1 h1 => ?_)
  have f1 := fx_sheet (G := Gm) (kp := kp) (Gi := Gi) (L := L') (tb := tb) (ln := ln) (sz := sz) (cl := cl) (ft := ft) (tr := tr) h1
  have hM1 := hM.up hW f1
  have hx9 := hx
  have hm9 := hm
  refine g_aload_n C (pc := 1132) dL_law_1132 1 rfl ?_
  refine g_arg C S (pc := 1133) 1 (by omega) hL (by decide) dL_law_1133 dL_law_1134 dL_law_1135 dL_law_1136 dL_law_1137 ?_
  refine g_arg C S (pc := 1138) 2 (by omega) hL (by decide) dL_law_1138 dL_law_1139 dL_law_1140 dL_law_1141 dL_law_1142 ?_
  refine g_arg C S (pc := 1143) 3 (by omega) hL (by decide) dL_law_1143 dL_law_1144 dL_law_1145 dL_law_1146 dL_law_1147 ?_
  refine g_callVI C (pc := 1148) mf_X12_sheet lk_RL_149 (c_X12_sheet 119 ρ J1 (xs (i + 1)) (xs (i + 2)) (xs (i + 3)) (by decide) hm9) (by decide) (by decide) rfl (show shp 97 = (21, 43) by decide +kernel) rfl (by omega) (Nat.le_of_ble_eq_true rfl) dL_law_1148 (fun v2 J2 h2 => ?_)
  obtain ⟨e, hj2⟩ := st_sheet hW hX hM1 h1 h2
  refine g_icmp_eq C (pc := 1151) 1288 dL_law_1151 (by decide) (fun _ => K _ J2 hx9 hm9 hj2) (fun c9 => absurd e c9)
set_option maxHeartbeats 1000000 in
theorem law_lay {κ : Kap} {nm : String} {L : Nat} {xs : Nat → Int32} (C : Cx κ (yl nm) cL_law 4 30 119) (S : Scr κ L xs) {i : Nat} (hi : i + 5 ≤ L) (hL : L ≤ 320) {ρ : Rho} {I : Mem} (hx : XS 119 ρ) (hm : MS 119 ρ) (hj : JJ I) (K : ∀ ρ' I', XS 119 ρ' → MS 119 ρ' → JJ I' → G κ 119 ρ' 1288 (LV i) [] I') : G κ 119 ρ 1156 (LV i) [] I := by
  obtain ⟨Gm, kp, Gi, L', tb, ln, sz, cl, ft, tr, hW, hX, hM⟩ := hj
  refine g_aload_n C (pc := 1156) dL_law_1156 2 rfl ?_
  refine g_arg C S (pc := 1157) 1 (by omega) hL (by decide) dL_law_1157 dL_law_1158 dL_law_1159 dL_law_1160 dL_law_1161 ?_
  refine g_arg C S (pc := 1162) 2 (by omega) hL (by decide) dL_law_1162 dL_law_1163 dL_law_1164 dL_law_1165 dL_law_1166 ?_
  refine g_arg C S (pc := 1167) 3 (by omega) hL (by decide) dL_law_1167 dL_law_1168 dL_law_1169 dL_law_1170 dL_law_1171 ?_
  refine g_callVI C (pc := 1172) mf_X11_lay lk_RL_150 (c_X11_lay 119 ρ I ln sz cl (xs (i + 1)) (xs (i + 2)) (xs (i + 3)) (by decide) hx hX.2.2.2.1) (by decide) (by decide) rfl hx.1.1 rfl (by omega) (Nat.le_of_ble_eq_true rfl) dL_law_1172 (fun v1 J1 h1 => ?_)
  have f1 := fx_lay (G := Gm) (kp := kp) (Gi := Gi) (L := L') (tb := tb) (ln := ln) (sz := sz) (cl := cl) (ft := ft) (tr := tr) h1
  have hM1 := hM.up hW f1
  have hx9 := hx
  have hm9 := hm
  refine g_aload_n C (pc := 1175) dL_law_1175 1 rfl ?_
  refine g_arg C S (pc := 1176) 1 (by omega) hL (by decide) dL_law_1176 dL_law_1177 dL_law_1178 dL_law_1179 dL_law_1180 ?_
  refine g_arg C S (pc := 1181) 2 (by omega) hL (by decide) dL_law_1181 dL_law_1182 dL_law_1183 dL_law_1184 dL_law_1185 ?_
  refine g_arg C S (pc := 1186) 3 (by omega) hL (by decide) dL_law_1186 dL_law_1187 dL_law_1188 dL_law_1189 dL_law_1190 ?_
  refine g_callVI C (pc := 1191) mf_X12_lay lk_RL_153 (c_X12_lay 119 ρ J1 ln sz cl (xs (i + 1)) (xs (i + 2)) (xs (i + 3)) (by decide) hm9 hM1.2.2.2.2.1) (by decide) (by decide) rfl (show shp 97 = (21, 43) by decide +kernel) rfl (by omega) (Nat.le_of_ble_eq_true rfl) dL_law_1191 (fun v2 J2 h2 => ?_)
  obtain ⟨e, hj2⟩ := st_lay hW hX hM1 h1 h2
  refine g_icmp_eq C (pc := 1194) 1288 dL_law_1194 (by decide) (fun _ => K _ J2 hx9 hm9 hj2) (fun c9 => absurd e c9)
set_option maxHeartbeats 1000000 in
theorem law_read {κ : Kap} {nm : String} {L : Nat} {xs : Nat → Int32} (C : Cx κ (yl nm) cL_law 4 30 119) (S : Scr κ L xs) {i : Nat} (hi : i + 5 ≤ L) (hL : L ≤ 320) {ρ : Rho} {I : Mem} (hx : XS 119 ρ) (hm : MS 119 ρ) (hj : JJ I) (K : ∀ ρ' I', XS 119 ρ' → MS 119 ρ' → JJ I' → G κ 119 ρ' 1288 (LV i) [] I') : G κ 119 ρ 1199 (LV i) [] I := by
  obtain ⟨Gm, kp, Gi, L', tb, ln, sz, cl, ft, tr, hW, hX, hM⟩ := hj
  refine g_aload_n C (pc := 1199) dL_law_1199 2 rfl ?_
  refine g_arg C S (pc := 1200) 1 (by omega) hL (by decide) dL_law_1200 dL_law_1201 dL_law_1202 dL_law_1203 dL_law_1204 ?_
  refine g_arg C S (pc := 1205) 2 (by omega) hL (by decide) dL_law_1205 dL_law_1206 dL_law_1207 dL_law_1208 dL_law_1209 ?_
  refine g_arg C S (pc := 1210) 3 (by omega) hL (by decide) dL_law_1210 dL_law_1211 dL_law_1212 dL_law_1213 dL_law_1214 ?_
  refine g_arg C S (pc := 1215) 4 (by omega) hL (by decide) dL_law_1215 dL_law_1216 dL_law_1217 dL_law_1218 dL_law_1219 ?_
  refine g_callVI C (pc := 1220) mf_X11_read lk_RL_154 (c_X11_read 119 ρ I (gF Gm) (gB Gm) ln sz cl (gT Gm) (xs (i + 1)) (xs (i + 2)) (xs (i + 3)) (xs (i + 4)) (by decide) hx hX.1.1 hW.1.1 hX.1.2.1 hW.1.2.1 hX.2.2.2.1 hX.1.2.2.1 hW.1.2.2.2.1) (by decide) (by decide) rfl hx.1.1 rfl (by omega) (Nat.le_of_ble_eq_true rfl) dL_law_1220 (fun v1 J1 h1 => ?_)
  have f1 := fx_read (G := Gm) (kp := kp) (Gi := Gi) (L := L') (tb := tb) (ln := ln) (sz := sz) (cl := cl) (ft := ft) (tr := tr) h1
  have hM1 := hM.up hW f1
  have hx9 := hx
  have hm9 := hm
  refine g_aload_n C (pc := 1223) dL_law_1223 1 rfl ?_
  refine g_arg C S (pc := 1224) 1 (by omega) hL (by decide) dL_law_1224 dL_law_1225 dL_law_1226 dL_law_1227 dL_law_1228 ?_
  refine g_arg C S (pc := 1229) 2 (by omega) hL (by decide) dL_law_1229 dL_law_1230 dL_law_1231 dL_law_1232 dL_law_1233 ?_
  refine g_arg C S (pc := 1234) 3 (by omega) hL (by decide) dL_law_1234 dL_law_1235 dL_law_1236 dL_law_1237 dL_law_1238 ?_
  refine g_arg C S (pc := 1239) 4 (by omega) hL (by decide) dL_law_1239 dL_law_1240 dL_law_1241 dL_law_1242 dL_law_1243 ?_
  refine g_callVI C (pc := 1244) mf_X12_read lk_RL_158 (c_X12_read 119 ρ J1 (gF Gm) (gB Gm) ln sz cl (gT Gm) (xs (i + 1)) (xs (i + 2)) (xs (i + 3)) (xs (i + 4)) (by decide) hm9 (hM1.2.1.qn hM1.1) hW.1.1 hW.1.2.1 hW.1.2.2.1.2.1 hW.1.2.2.1.2.2.1 hM1.2.2.2.2.1 hM1.2.1.t hW.1.2.2.2.1) (by decide) (by decide) rfl (show shp 97 = (21, 43) by decide +kernel) rfl (by omega) (Nat.le_of_ble_eq_true rfl) dL_law_1244 (fun v2 J2 h2 => ?_)
  obtain ⟨e, hj2⟩ := st_read hW hX hM1 h1 h2
  refine g_icmp_eq C (pc := 1247) 1288 dL_law_1247 (by decide) (fun _ => K _ J2 hx9 hm9 hj2) (fun c9 => absurd e c9)
set_option maxHeartbeats 1000000 in
theorem law_torn {κ : Kap} {nm : String} {L : Nat} {xs : Nat → Int32} (C : Cx κ (yl nm) cL_law 4 30 119) (S : Scr κ L xs) {i : Nat} (hi : i + 5 ≤ L) (hL : L ≤ 320) {ρ : Rho} {I : Mem} (hx : XS 119 ρ) (hm : MS 119 ρ) (hj : JJ I) (K : ∀ ρ' I', XS 119 ρ' → MS 119 ρ' → JJ I' → G κ 119 ρ' 1288 (LV i) [] I') : G κ 119 ρ 1252 (LV i) [] I := by
  obtain ⟨Gm, kp, Gi, L', tb, ln, sz, cl, ft, tr, hW, hX, hM⟩ := hj
  refine g_aload_n C (pc := 1252) dL_law_1252 2 rfl ?_
  refine g_callVI C (pc := 1253) mf_X11_torn lk_RL_159 (c_X11_torn 119 ρ I (by decide) hx.1) (by decide) (by decide) rfl hx.1.1 rfl (by omega) (Nat.le_of_ble_eq_true rfl) dL_law_1253 (fun v1 J1 h1 => ?_)
  have f1 := fx_torn (G := Gm) (kp := kp) (Gi := Gi) (L := L') (tb := tb) (ln := ln) (sz := sz) (cl := cl) (ft := ft) (tr := tr) h1
  have hM1 := hM.up hW f1
  have hx9 := hx
  have hm9 := hm
  refine g_aload_n C (pc := 1256) dL_law_1256 1 rfl ?_
  refine g_callVI C (pc := 1257) mf_X12_torn lk_RL_162 (c_X12_torn 119 ρ J1 (by decide) hm9) (by decide) (by decide) rfl (show shp 97 = (21, 43) by decide +kernel) rfl (by omega) (Nat.le_of_ble_eq_true rfl) dL_law_1257 (fun v2 J2 h2 => ?_)
  obtain ⟨e, hj2⟩ := st_torn hW hX hM1 h1 h2
  refine g_icmp_eq C (pc := 1260) 1288 dL_law_1260 (by decide) (fun _ => K _ J2 hx9 hm9 hj2) (fun c9 => absurd e c9)
set_option maxHeartbeats 1000000 in
theorem law_count {κ : Kap} {nm : String} {L : Nat} {xs : Nat → Int32} (C : Cx κ (yl nm) cL_law 4 30 119) (S : Scr κ L xs) {i : Nat} (hi : i + 5 ≤ L) (hL : L ≤ 320) {ρ : Rho} {I : Mem} (hx : XS 119 ρ) (hm : MS 119 ρ) (hj : JJ I) (K : ∀ ρ' I', XS 119 ρ' → MS 119 ρ' → JJ I' → G κ 119 ρ' 1288 (LV i) [] I') : G κ 119 ρ 1265 (LV i) [] I := by
  obtain ⟨Gm, kp, Gi, L', tb, ln, sz, cl, ft, tr, hW, hX, hM⟩ := hj
  refine g_aload_n C (pc := 1265) dL_law_1265 2 rfl ?_
  refine g_arg C S (pc := 1266) 1 (by omega) hL (by decide) dL_law_1266 dL_law_1267 dL_law_1268 dL_law_1269 dL_law_1270 ?_
  refine g_callVI C (pc := 1271) mf_X11_count lk_RL_163 (c_X11_count 119 ρ I (gF Gm) (gB Gm) ln sz cl kp (xs (i + 1)) (by decide) hx hX.1.1 hW.1.1 hX.1.2.1 hW.1.2.1 hX.2.2.2.1 (fun k hk => (hX.2.1 k hk).1)) (by decide) (by decide) rfl hx.1.1 rfl (by omega) (Nat.le_of_ble_eq_true rfl) dL_law_1271 (fun v1 J1 h1 => ?_)
  have f1 := fx_count (G := Gm) (kp := kp) (Gi := Gi) (L := L') (tb := tb) (ln := ln) (sz := sz) (cl := cl) (ft := ft) (tr := tr) h1
  have hM1 := hM.up hW f1
  have hx9 := hx
  have hm9 := hm
  refine g_aload_n C (pc := 1274) dL_law_1274 1 rfl ?_
  refine g_arg C S (pc := 1275) 1 (by omega) hL (by decide) dL_law_1275 dL_law_1276 dL_law_1277 dL_law_1278 dL_law_1279 ?_
  refine g_callVI C (pc := 1280) mf_X12_count lk_RL_166 (c_X12_count 119 ρ J1 (gF Gm) (gB Gm) ln sz cl kp (xs (i + 1)) (by decide) hm9 (hM1.2.1.qn hM1.1) hW.1.1 hW.1.2.1 hM1.2.2.2.2.1 (fun k hk => (hM1.2.2.1 k hk).1)) (by decide) (by decide) rfl (show shp 97 = (21, 43) by decide +kernel) rfl (by omega) (Nat.le_of_ble_eq_true rfl) dL_law_1280 (fun v2 J2 h2 => ?_)
  obtain ⟨e, hj2⟩ := st_count hW hX hM1 h1 h2
  refine g_icmp_eq C (pc := 1283) 1288 dL_law_1283 (by decide) (fun _ => K _ J2 hx9 hm9 hj2) (fun c9 => absurd e c9)
