-- the law's cases
/-- the law's argument: an int row below the memory -/
def ArgI (γ : gT) (g : GT) (ar N : Nat) (a : Nat → Int) : Prop := va_T .int ar N (fun j => vI (a j)) (AL g) (gS γ) (gS γ).heap ∧ ∀ j, -2147483648 ≤ a j ∧ a j < 2147483648
theorem v_aarg {γ : gT} {g : GT} {ar N : Nat} {a : Nat → Int} {cc : ByteArray} {nL : Nat} {own : String} {rm : Room} {G : Mem} {k n : Nat} {pc : Nat} {L : List (Option Value)} {st : List Value} {z : Int} (hA : ArgI γ g ar N a) (hz : 0 ≤ z ∧ z < (N : Int)) (hN : N < 2147483648) (d : decode cc pc = .ok (.iaload, 1)) (kk : V γ g cc nL own rm G k n (pc + 1) L (vI (a z.toNat) :: st)) : V γ g cc nL own rm G k n pc L (vI z :: .ref ar :: st) := by
  obtain ⟨p, l, e, R, s, m, args, below, meth, c0, Q⟩ := γ
  intro C H locs ls hP hS hL
  exact va_ti C.1 C.2.1 hA.1 hS (i32_in hz.1 hz.2 hN) (v := vI (a z.toNat)) (by rw [i32_nat hz.1 (by omega)]) d (kk C H locs ls hP hS hL)
theorem v_alenA {γ : gT} {g : GT} {ar N : Nat} {a : Nat → Int} {cc : ByteArray} {nL : Nat} {own : String} {rm : Room} {G : Mem} {k n : Nat} {pc : Nat} {L : List (Option Value)} {st : List Value} (hA : ArgI γ g ar N a) (d : decode cc pc = .ok (.arraylength, 1)) (kk : V γ g cc nL own rm G k n (pc + 1) L (vI (N : Int) :: st)) : V γ g cc nL own rm G k n pc L (.ref ar :: st) := by
  obtain ⟨p, l, e, R, s, m, args, below, meth, c0, Q⟩ := γ
  intro C H locs ls hP hS hL
  exact va_tlen C.1 C.2.1 hA.1 hS (v := Int32.ofInt (N : Int)) rfl d (kk C H locs ls hP hS hL)
theorem v_dcmp {γ : gT} {g : GT} {cc : ByteArray} {nL : Nat} {own : String} {rm : Room} {G : Mem} {k n : Nat} {pc : Nat} {L : List (Option Value)} {st : List Value} {x y : UInt64} {op : CmpOp} (d : decode cc pc = .ok (.dcmp op, 1)) (kk : V γ g cc nL own rm G k n (pc + 1) L (.int (Op.cmpValue (FP.dcmp x y) op) :: st)) : V γ g cc nL own rm G k n pc L (.double y :: .double x :: st) :=
  v_row (fun p l e R s m args below meth c Q H locs ls C hL q => lv_dcmp C.1 C.2.1 d q) kk
theorem LawM {G G1 : Mem} {Y A : Int} (hI : LawI G Y A) (hk : KP9 G G1) : MoI (G1 107) ∧ McL G1 ∧ (0 ≤ G1 106 5 ∧ G1 106 5 ≤ 8) ∧ (0 ≤ G1 107 1 ∧ G1 107 1 ≤ 30000) ∧ G1 107 2 ≤ Y ∧ (0 ≤ G1 106 10 ∧ G1 106 10 ≤ 60) ∧ (∀ j, 0 ≤ j → j < G1 106 10 → 32 ≤ G1 111 j ∧ G1 111 j ≤ 126) ∧ (0 ≤ G1 106 3 ∧ G1 106 3 ≤ 1) ∧ (-1 ≤ G1 106 6 ∧ G1 106 6 ≤ 1000) ∧ (-1 ≤ G1 106 7 ∧ G1 106 7 ≤ 1000) ∧ (0 ≤ G1 106 15 ∧ G1 106 15 ≤ 79) ∧ ∀ z, 0 ≤ z → z < G1 106 15 → 0 ≤ G1 115 z ∧ G1 115 z < 65536 := by
  obtain ⟨aS, ⟨p1, p2, p3⟩, ⟨s1, s2, s3⟩, ⟨c1, c2, c3, c4⟩, ⟨e1, e2, e3, e4⟩, ⟨t1, t2, t3⟩, aM⟩ := hI
  have hR := aS.2.2.1
  have r1 : G 107 1 = G 4 9 := hR.1.2.1
  have r2 : G 107 2 = G 4 10 := hR.1.2.2.1
  have hlv := SSk_lv aS
  have hyy := aS.2.2.2.2.2.1
  have h8 := p1.1
  rw [KP9_7 hk 107 (by omega) (by omega), KP9_7 hk 106 (by omega) (by omega), KP9_7 hk 111 (by omega) (by omega), KP9_7 hk 115 (by omega) (by omega)]
  refine ⟨aS.2.1, ?_, by omega, by omega, by omega, by omega, fun j j0 j1 => ?_, by omega, by omega, by omega, by omega, fun z z0 z1 => ?_⟩
  · unfold McL
    rw [KP9_7 hk 116 (by omega) (by omega), KP9_7 hk 117 (by omega) (by omega)]
    exact aM
  · rw [c3]
    exact c4 j j0 (by omega)
  · have := t3 z z0 (by omega)
    omega
set_option maxHeartbeats 4000000 in
set_option maxRecDepth 100000 in
theorem lc_0 {γ : gT} {g : GT} {ar N : Nat} {a : Nat → Int} {G : Mem} {k n : Nat} {Y A i : Int} (hA : ArgI γ g ar N a) (hI : LawI G Y A) (hy : 0 ≤ Y ∧ Y ≤ 900000 ∧ 0 ≤ A ∧ A ≤ 900000000) (hi : 0 ≤ i ∧ i + 3 ≤ (N : Int)) (hN : N ≤ 1536) (hkk : k ≤ 580000) (hnn : n ≤ 7000000)
    (kk : ∀ (G2 : Mem) (k2 n2 : Nat), LawI G2 (Y + 1200) (A + 6000) → k2 ≤ k + 25 → n2 ≤ n + 4300 → V γ g cL_law 9 RL room_1 G2 k2 n2 2167 [some (.ref ar), some (vR g 0), some (vR g 106), some (vR g 119), some (vR g 120), some (vI i), none, none, none] []) : V γ g cL_law 9 RL room_1 G k n 252 [some (.ref ar), some (vR g 0), some (vR g 106), some (vR g 119), some (vR g 120), some (vI i), none, none, none] [] := by
  refine v_aload_n (pc := 252) rfl dL_law_252 ?_
  refine v_aload_n (pc := 253) rfl dL_law_253 ?_
  refine v_iload (pc := 254) rfl dL_law_254 ?_
  refine v_iconst (pc := 256) (z := 1) dL_law_256 ?_
  refine v_iadd (pc := 257) dL_law_257 ?_
  refine v_aarg (pc := 258) hA (by omega) (by omega) dL_law_258 ?_
  obtain ⟨x1, hx1, rx1⟩ : ∃ y : Int, y = a (i + 1).toNat ∧ -2147483648 ≤ y ∧ y < 2147483648 := ⟨_, rfl, hA.2 _⟩
  refine v_stk (st' := [vI x1, vR g 0]) (by rw [hx1]; first | done | rfl) ?_
  refine v_aload_n (pc := 259) rfl dL_law_259 ?_
  refine v_iload (pc := 260) rfl dL_law_260 ?_
  refine v_iconst (pc := 262) (z := 2) dL_law_262 ?_
  refine v_iadd (pc := 263) dL_law_263 ?_
  refine v_aarg (pc := 264) hA (by omega) (by omega) dL_law_264 ?_
  obtain ⟨x2, hx2, rx2⟩ : ∃ y : Int, y = a (i + 2).toNat ∧ -2147483648 ≤ y ∧ y < 2147483648 := ⟨_, rfl, hA.2 _⟩
  refine v_stk (st' := [vI x2, vI x1, vR g 0]) (by rw [hx2]; first | done | rfl) ?_
  refine v_aload_n (pc := 265) rfl dL_law_265 ?_
  refine v_callSH (pc := 266) (rest := []) (c_L_addDie (G := G) hI.1.1 hI.2.1.1 (by have := SSk_lv hI.1; omega) (by have := hI.1.2.2.2.2.2.1; omega) (by omega) (by omega)) sok_L_addDie wM_L_120 ⟨Nat.le_of_ble_eq_true rfl, Nat.le_of_ble_eq_true rfl⟩ ⟨by show k + 1 ≤ 603072; omega, by show n + 6 ≤ 7219306; omega⟩ (Nat.le_of_ble_eq_true rfl) rfl dL_law_266 (fun v G1 h1 => ?_) (fun _ _ h => h.elim)
  obtain ⟨⟨c0, hc0⟩, hk9⟩ := kp_addDie hI h1
  subst hc0
  have hm := LawM hI hk9
  refine v_stk (st' := [vI c0]) rfl ?_
  refine v_istore (pc := 269) (by decide) rfl dL_law_269 ?_
  refine v_aload_n (pc := 271) rfl dL_law_271 ?_
  refine v_aload_n (pc := 272) rfl dL_law_272 ?_
  refine v_iload (pc := 273) rfl dL_law_273 ?_
  refine v_iconst (pc := 275) (z := 1) dL_law_275 ?_
  refine v_iadd (pc := 276) dL_law_276 ?_
  refine v_aarg (pc := 277) hA (by omega) (by omega) dL_law_277 ?_
  refine v_stk (st' := [vI x1, vR g 106]) (by rw [hx1]; first | done | rfl) ?_
  refine v_aload_n (pc := 278) rfl dL_law_278 ?_
  refine v_iload (pc := 279) rfl dL_law_279 ?_
  refine v_iconst (pc := 281) (z := 2) dL_law_281 ?_
  refine v_iadd (pc := 282) dL_law_282 ?_
  refine v_aarg (pc := 283) hA (by omega) (by omega) dL_law_283 ?_
  refine v_stk (st' := [vI x2, vI x1, vR g 106]) (by rw [hx2]; first | done | rfl) ?_
  refine v_callV (pc := 284) (rest := []) (c_X4_addDie (G := G1) hm.1 hm.2.2.1 (by omega) (by omega)) iok_X4_addDie wM_L_125 rfl (by decide) (by decide) rfl ⟨Nat.le_of_ble_eq_true rfl, Nat.le_of_ble_eq_true rfl⟩ ⟨by show (k + 1) + 0 ≤ 603072; omega, by show (n + 6) + 0 ≤ 7219306; omega⟩ (Nat.le_of_ble_eq_true rfl) rfl dL_law_284 (fun w G2 h2 => ?_) (fun _ _ h => h.elim)
  obtain ⟨c, r, hc1, hw1, hcr, hrr, h8, h119, hL2⟩ := op_addDie hI (by omega) h1 h2
  subst hw1
  refine v_stk (st' := [vI r]) rfl ?_
  refine v_loc (L' := [some (.ref ar), some (vR g 0), some (vR g 106), some (vR g 119), some (vR g 120), some (vI i), some (vI c), none, none]) ⟨rfl, rfl, rfl, rfl, rfl, rfl, hc1, trivial⟩ ?_
  refine v_istore (pc := 287) (by decide) rfl dL_law_287 ?_
  refine v_aload_n (pc := 289) rfl dL_law_289 ?_
  refine v_callV (pc := 290) (rest := []) (c_X4_thrown (G := G2)) iok_X4_thrown wM_L_126 rfl (by decide) (by decide) rfl ⟨Nat.le_of_ble_eq_true rfl, Nat.le_of_ble_eq_true rfl⟩ ⟨by show ((k + 1) + 0) + 0 ≤ 603072; omega, by show ((n + 6) + 0) + 0 ≤ 7219306; omega⟩ (Nat.le_of_ble_eq_true rfl) rfl dL_law_290 (fun u G3 h3 => ?_) (fun _ _ h => h.elim)
  obtain ⟨rfl, hG9⟩ := h3
  rw [hG9]
  refine v_stk (st' := [vI c]) (by rw [← h8]; rfl) ?_
  refine v_iload (pc := 293) rfl dL_law_293 ?_
  refine v_icmp_eq (pc := 295) (tgt := 300) (by omega) dL_law_295 (by decide) (fun bq1 => ?_) (fun bq1 => ?_)
  · skip
    refine v_iload (pc := 300) rfl dL_law_300 ?_
    refine v_if_ne (pc := 302) (tgt := 317) (by omega) dL_law_302 (by decide) (fun bq2 => ?_) (fun bq2 => ?_)
    · skip
      refine v_goto (pc := 317) (tgt := 2167) dL_law_317 (by decide) ?_
      refine v_loc (L' := [some (.ref ar), some (vR g 0), some (vR g 106), some (vR g 119), some (vR g 120), some (vI i), none, none, none]) ⟨rfl, rfl, rfl, rfl, rfl, rfl, trivial⟩ ?_
      exact kk G2 _ _ (LawI_up hL2 (by omega) (by omega)) (by show (((k + 1) + 0) + 0) ≤ k + 25; omega) (by show (((n + 6) + 0) + 0) ≤ n + 4300; omega)
    · skip
      refine v_aload_n (pc := 305) rfl dL_law_305 ?_
      refine v_iconst (pc := 306) (z := 0) dL_law_306 ?_
      refine v_lald (pc := 307) (N := 1) rfl rfl (by decide) (by omega) (by decide) dL_law_307 ?_
      refine v_stk (st' := [vJ r]) (by rw [h119 (by omega)]; first | done | rfl) ?_
      refine v_iload (pc := 308) rfl dL_law_308 ?_
      refine v_i2l (pc := 310) (by omega) dL_law_310 ?_
      refine v_lc_eq (pc := 311) (tgt := 317) (by omega) (by omega) dL_law_311 dL_law_312 (by decide) (fun bq3 => ?_) (fun bq3 => ?_)
      · skip
        refine v_goto (pc := 317) (tgt := 2167) dL_law_317 (by decide) ?_
        refine v_loc (L' := [some (.ref ar), some (vR g 0), some (vR g 106), some (vR g 119), some (vR g 120), some (vI i), none, none, none]) ⟨rfl, rfl, rfl, rfl, rfl, rfl, trivial⟩ ?_
        exact kk G2 _ _ (LawI_up hL2 (by omega) (by omega)) (by show (((k + 1) + 0) + 0) ≤ k + 25; omega) (by show (((n + 6) + 0) + 0) ≤ n + 4300; omega)
      · skip
        first | exact absurd rfl bq3 | (exfalso; omega)
  · skip
    first | exact absurd rfl bq1 | (exfalso; omega)
set_option maxHeartbeats 4000000 in
set_option maxRecDepth 100000 in
theorem lc_1 {γ : gT} {g : GT} {ar N : Nat} {a : Nat → Int} {G : Mem} {k n : Nat} {Y A i : Int} (hA : ArgI γ g ar N a) (hI : LawI G Y A) (hy : 0 ≤ Y ∧ Y ≤ 900000 ∧ 0 ≤ A ∧ A ≤ 900000000) (hi : 0 ≤ i ∧ i + 3 ≤ (N : Int)) (hN : N ≤ 1536) (hkk : k ≤ 580000) (hnn : n ≤ 7000000)
    (kk : ∀ (G2 : Mem) (k2 n2 : Nat), LawI G2 (Y + 1200) (A + 6000) → k2 ≤ k + 25 → n2 ≤ n + 4300 → V γ g cL_law 9 RL room_1 G2 k2 n2 2167 [some (.ref ar), some (vR g 0), some (vR g 106), some (vR g 119), some (vR g 120), some (vI i), none, none, none] []) : V γ g cL_law 9 RL room_1 G k n 320 [some (.ref ar), some (vR g 0), some (vR g 106), some (vR g 119), some (vR g 120), some (vI i), none, none, none] [] := by
  refine v_aload_n (pc := 320) rfl dL_law_320 ?_
  refine v_aload_n (pc := 321) rfl dL_law_321 ?_
  refine v_iload (pc := 322) rfl dL_law_322 ?_
  refine v_iconst (pc := 324) (z := 1) dL_law_324 ?_
  refine v_iadd (pc := 325) dL_law_325 ?_
  refine v_aarg (pc := 326) hA (by omega) (by omega) dL_law_326 ?_
  obtain ⟨x1, hx1, rx1⟩ : ∃ y : Int, y = a (i + 1).toNat ∧ -2147483648 ≤ y ∧ y < 2147483648 := ⟨_, rfl, hA.2 _⟩
  refine v_stk (st' := [vI x1, vR g 0]) (by rw [hx1]; first | done | rfl) ?_
  refine v_aload_n (pc := 327) rfl dL_law_327 ?_
  refine v_callSH (pc := 328) (rest := []) (c_L_sharpen (G := G) hI.1.1 hI.2.1.1 (by have := SSk_lv hI.1; omega) (by have := hI.1.2.2.2.2.2.1; omega) (by omega)) sok_L_sharpen wM_L_129 ⟨Nat.le_of_ble_eq_true rfl, Nat.le_of_ble_eq_true rfl⟩ ⟨by show k + 1 ≤ 603072; omega, by show n + 6 ≤ 7219306; omega⟩ (Nat.le_of_ble_eq_true rfl) rfl dL_law_328 (fun v G1 h1 => ?_) (fun _ _ h => h.elim)
  obtain ⟨⟨c0, hc0⟩, hk9⟩ := kp_sharpen hI h1
  subst hc0
  have hm := LawM hI hk9
  refine v_stk (st' := [vI c0]) rfl ?_
  refine v_istore (pc := 331) (by decide) rfl dL_law_331 ?_
  refine v_aload_n (pc := 333) rfl dL_law_333 ?_
  refine v_aload_n (pc := 334) rfl dL_law_334 ?_
  refine v_iload (pc := 335) rfl dL_law_335 ?_
  refine v_iconst (pc := 337) (z := 1) dL_law_337 ?_
  refine v_iadd (pc := 338) dL_law_338 ?_
  refine v_aarg (pc := 339) hA (by omega) (by omega) dL_law_339 ?_
  refine v_stk (st' := [vI x1, vR g 106]) (by rw [hx1]; first | done | rfl) ?_
  refine v_callV (pc := 340) (rest := []) (c_X4_sharpen (G := G1) hm.1 hm.2.2.1 (by omega)) iok_X4_sharpen wM_L_132 rfl (by decide) (by decide) rfl ⟨Nat.le_of_ble_eq_true rfl, Nat.le_of_ble_eq_true rfl⟩ ⟨by show (k + 1) + 0 ≤ 603072; omega, by show (n + 6) + 0 ≤ 7219306; omega⟩ (Nat.le_of_ble_eq_true rfl) rfl dL_law_340 (fun w G2 h2 => ?_) (fun _ _ h => h.elim)
  obtain ⟨c, r, hc1, hw1, hcr, hrr, h8, h119, hL2⟩ := op_sharpen hI (by omega) h1 h2
  subst hw1
  refine v_stk (st' := [vI r]) rfl ?_
  refine v_loc (L' := [some (.ref ar), some (vR g 0), some (vR g 106), some (vR g 119), some (vR g 120), some (vI i), some (vI c), none, none]) ⟨rfl, rfl, rfl, rfl, rfl, rfl, hc1, trivial⟩ ?_
  refine v_istore (pc := 343) (by decide) rfl dL_law_343 ?_
  refine v_aload_n (pc := 345) rfl dL_law_345 ?_
  refine v_callV (pc := 346) (rest := []) (c_X4_thrown (G := G2)) iok_X4_thrown wM_L_126 rfl (by decide) (by decide) rfl ⟨Nat.le_of_ble_eq_true rfl, Nat.le_of_ble_eq_true rfl⟩ ⟨by show ((k + 1) + 0) + 0 ≤ 603072; omega, by show ((n + 6) + 0) + 0 ≤ 7219306; omega⟩ (Nat.le_of_ble_eq_true rfl) rfl dL_law_346 (fun u G3 h3 => ?_) (fun _ _ h => h.elim)
  obtain ⟨rfl, hG9⟩ := h3
  rw [hG9]
  refine v_stk (st' := [vI c]) (by rw [← h8]; rfl) ?_
  refine v_iload (pc := 349) rfl dL_law_349 ?_
  refine v_icmp_eq (pc := 351) (tgt := 356) (by omega) dL_law_351 (by decide) (fun bq1 => ?_) (fun bq1 => ?_)
  · skip
    refine v_iload (pc := 356) rfl dL_law_356 ?_
    refine v_if_ne (pc := 358) (tgt := 373) (by omega) dL_law_358 (by decide) (fun bq2 => ?_) (fun bq2 => ?_)
    · skip
      refine v_goto (pc := 373) (tgt := 2167) dL_law_373 (by decide) ?_
      refine v_loc (L' := [some (.ref ar), some (vR g 0), some (vR g 106), some (vR g 119), some (vR g 120), some (vI i), none, none, none]) ⟨rfl, rfl, rfl, rfl, rfl, rfl, trivial⟩ ?_
      exact kk G2 _ _ (LawI_up hL2 (by omega) (by omega)) (by show (((k + 1) + 0) + 0) ≤ k + 25; omega) (by show (((n + 6) + 0) + 0) ≤ n + 4300; omega)
    · skip
      refine v_aload_n (pc := 361) rfl dL_law_361 ?_
      refine v_iconst (pc := 362) (z := 0) dL_law_362 ?_
      refine v_lald (pc := 363) (N := 1) rfl rfl (by decide) (by omega) (by decide) dL_law_363 ?_
      refine v_stk (st' := [vJ r]) (by rw [h119 (by omega)]; first | done | rfl) ?_
      refine v_iload (pc := 364) rfl dL_law_364 ?_
      refine v_i2l (pc := 366) (by omega) dL_law_366 ?_
      refine v_lc_eq (pc := 367) (tgt := 373) (by omega) (by omega) dL_law_367 dL_law_368 (by decide) (fun bq3 => ?_) (fun bq3 => ?_)
      · skip
        refine v_goto (pc := 373) (tgt := 2167) dL_law_373 (by decide) ?_
        refine v_loc (L' := [some (.ref ar), some (vR g 0), some (vR g 106), some (vR g 119), some (vR g 120), some (vI i), none, none, none]) ⟨rfl, rfl, rfl, rfl, rfl, rfl, trivial⟩ ?_
        exact kk G2 _ _ (LawI_up hL2 (by omega) (by omega)) (by show (((k + 1) + 0) + 0) ≤ k + 25; omega) (by show (((n + 6) + 0) + 0) ≤ n + 4300; omega)
      · skip
        first | exact absurd rfl bq3 | (exfalso; omega)
  · skip
    first | exact absurd rfl bq1 | (exfalso; omega)
set_option maxHeartbeats 4000000 in
set_option maxRecDepth 100000 in
theorem lc_2 {γ : gT} {g : GT} {ar N : Nat} {a : Nat → Int} {G : Mem} {k n : Nat} {Y A i : Int} (hA : ArgI γ g ar N a) (hI : LawI G Y A) (hy : 0 ≤ Y ∧ Y ≤ 900000 ∧ 0 ≤ A ∧ A ≤ 900000000) (hi : 0 ≤ i ∧ i + 3 ≤ (N : Int)) (hN : N ≤ 1536) (hkk : k ≤ 580000) (hnn : n ≤ 7000000)
    (kk : ∀ (G2 : Mem) (k2 n2 : Nat), LawI G2 (Y + 1200) (A + 6000) → k2 ≤ k + 25 → n2 ≤ n + 4300 → V γ g cL_law 9 RL room_1 G2 k2 n2 2167 [some (.ref ar), some (vR g 0), some (vR g 106), some (vR g 119), some (vR g 120), some (vI i), none, none, none] []) : V γ g cL_law 9 RL room_1 G k n 376 [some (.ref ar), some (vR g 0), some (vR g 106), some (vR g 119), some (vR g 120), some (vI i), none, none, none] [] := by
  refine v_aload_n (pc := 376) rfl dL_law_376 ?_
  refine v_aload_n (pc := 377) rfl dL_law_377 ?_
  refine v_iload (pc := 378) rfl dL_law_378 ?_
  refine v_iconst (pc := 380) (z := 1) dL_law_380 ?_
  refine v_iadd (pc := 381) dL_law_381 ?_
  refine v_aarg (pc := 382) hA (by omega) (by omega) dL_law_382 ?_
  obtain ⟨x1, hx1, rx1⟩ : ∃ y : Int, y = a (i + 1).toNat ∧ -2147483648 ≤ y ∧ y < 2147483648 := ⟨_, rfl, hA.2 _⟩
  refine v_stk (st' := [vI x1, vR g 0]) (by rw [hx1]; first | done | rfl) ?_
  refine v_aload_n (pc := 383) rfl dL_law_383 ?_
  refine v_callSH (pc := 384) (rest := []) (c_L_addLeaves (G := G) hI.1.1 hI.2.1.1 (by have := SSk_lv hI.1; omega) (by have := hI.1.2.2.2.2.2.1; omega) (by omega)) sok_L_addLeaves wM_L_133 ⟨Nat.le_of_ble_eq_true rfl, Nat.le_of_ble_eq_true rfl⟩ ⟨by show k + 1 ≤ 603072; omega, by show n + 6 ≤ 7219306; omega⟩ (Nat.le_of_ble_eq_true rfl) rfl dL_law_384 (fun v G1 h1 => ?_) (fun _ _ h => h.elim)
  obtain ⟨⟨c0, hc0⟩, hk9⟩ := kp_addLeaves hI h1
  subst hc0
  have hm := LawM hI hk9
  refine v_stk (st' := [vI c0]) rfl ?_
  refine v_istore (pc := 387) (by decide) rfl dL_law_387 ?_
  refine v_aload_n (pc := 389) rfl dL_law_389 ?_
  refine v_aload_n (pc := 390) rfl dL_law_390 ?_
  refine v_iload (pc := 391) rfl dL_law_391 ?_
  refine v_iconst (pc := 393) (z := 1) dL_law_393 ?_
  refine v_iadd (pc := 394) dL_law_394 ?_
  refine v_aarg (pc := 395) hA (by omega) (by omega) dL_law_395 ?_
  refine v_stk (st' := [vI x1, vR g 106]) (by rw [hx1]; first | done | rfl) ?_
  refine v_callV (pc := 396) (rest := []) (c_X4_addLeaves (G := G1) hm.1 hm.2.2.1 (by have := hm.2.2.2.1; omega) (by omega)) iok_X4_addLeaves wM_L_135 rfl (by decide) (by decide) rfl ⟨Nat.le_of_ble_eq_true rfl, Nat.le_of_ble_eq_true rfl⟩ ⟨by show (k + 1) + 0 ≤ 603072; omega, by show (n + 6) + 0 ≤ 7219306; omega⟩ (Nat.le_of_ble_eq_true rfl) rfl dL_law_396 (fun w G2 h2 => ?_) (fun _ _ h => h.elim)
  obtain ⟨c, r, hc1, hw1, hcr, hrr, h8, h119, hL2⟩ := op_addLeaves hI (by omega) h1 h2
  subst hw1
  refine v_stk (st' := [vI r]) rfl ?_
  refine v_loc (L' := [some (.ref ar), some (vR g 0), some (vR g 106), some (vR g 119), some (vR g 120), some (vI i), some (vI c), none, none]) ⟨rfl, rfl, rfl, rfl, rfl, rfl, hc1, trivial⟩ ?_
  refine v_istore (pc := 399) (by decide) rfl dL_law_399 ?_
  refine v_aload_n (pc := 401) rfl dL_law_401 ?_
  refine v_callV (pc := 402) (rest := []) (c_X4_thrown (G := G2)) iok_X4_thrown wM_L_126 rfl (by decide) (by decide) rfl ⟨Nat.le_of_ble_eq_true rfl, Nat.le_of_ble_eq_true rfl⟩ ⟨by show ((k + 1) + 0) + 0 ≤ 603072; omega, by show ((n + 6) + 0) + 0 ≤ 7219306; omega⟩ (Nat.le_of_ble_eq_true rfl) rfl dL_law_402 (fun u G3 h3 => ?_) (fun _ _ h => h.elim)
  obtain ⟨rfl, hG9⟩ := h3
  rw [hG9]
  refine v_stk (st' := [vI c]) (by rw [← h8]; rfl) ?_
  refine v_iload (pc := 405) rfl dL_law_405 ?_
  refine v_icmp_eq (pc := 407) (tgt := 412) (by omega) dL_law_407 (by decide) (fun bq1 => ?_) (fun bq1 => ?_)
  · skip
    refine v_iload (pc := 412) rfl dL_law_412 ?_
    refine v_if_ne (pc := 414) (tgt := 429) (by omega) dL_law_414 (by decide) (fun bq2 => ?_) (fun bq2 => ?_)
    · skip
      refine v_goto (pc := 429) (tgt := 2167) dL_law_429 (by decide) ?_
      refine v_loc (L' := [some (.ref ar), some (vR g 0), some (vR g 106), some (vR g 119), some (vR g 120), some (vI i), none, none, none]) ⟨rfl, rfl, rfl, rfl, rfl, rfl, trivial⟩ ?_
      exact kk G2 _ _ (LawI_up hL2 (by omega) (by omega)) (by show (((k + 1) + 0) + 0) ≤ k + 25; omega) (by show (((n + 6) + 0) + 0) ≤ n + 4300; omega)
    · skip
      refine v_aload_n (pc := 417) rfl dL_law_417 ?_
      refine v_iconst (pc := 418) (z := 0) dL_law_418 ?_
      refine v_lald (pc := 419) (N := 1) rfl rfl (by decide) (by omega) (by decide) dL_law_419 ?_
      refine v_stk (st' := [vJ r]) (by rw [h119 (by omega)]; first | done | rfl) ?_
      refine v_iload (pc := 420) rfl dL_law_420 ?_
      refine v_i2l (pc := 422) (by omega) dL_law_422 ?_
      refine v_lc_eq (pc := 423) (tgt := 429) (by omega) (by omega) dL_law_423 dL_law_424 (by decide) (fun bq3 => ?_) (fun bq3 => ?_)
      · skip
        refine v_goto (pc := 429) (tgt := 2167) dL_law_429 (by decide) ?_
        refine v_loc (L' := [some (.ref ar), some (vR g 0), some (vR g 106), some (vR g 119), some (vR g 120), some (vI i), none, none, none]) ⟨rfl, rfl, rfl, rfl, rfl, rfl, trivial⟩ ?_
        exact kk G2 _ _ (LawI_up hL2 (by omega) (by omega)) (by show (((k + 1) + 0) + 0) ≤ k + 25; omega) (by show (((n + 6) + 0) + 0) ≤ n + 4300; omega)
      · skip
        first | exact absurd rfl bq3 | (exfalso; omega)
  · skip
    first | exact absurd rfl bq1 | (exfalso; omega)
set_option maxHeartbeats 4000000 in
set_option maxRecDepth 100000 in
theorem lc_3 {γ : gT} {g : GT} {ar N : Nat} {a : Nat → Int} {G : Mem} {k n : Nat} {Y A i : Int} (hA : ArgI γ g ar N a) (hI : LawI G Y A) (hy : 0 ≤ Y ∧ Y ≤ 900000 ∧ 0 ≤ A ∧ A ≤ 900000000) (hi : 0 ≤ i ∧ i + 3 ≤ (N : Int)) (hN : N ≤ 1536) (hkk : k ≤ 580000) (hnn : n ≤ 7000000)
    (kk : ∀ (G2 : Mem) (k2 n2 : Nat), LawI G2 (Y + 1200) (A + 6000) → k2 ≤ k + 25 → n2 ≤ n + 4300 → V γ g cL_law 9 RL room_1 G2 k2 n2 2167 [some (.ref ar), some (vR g 0), some (vR g 106), some (vR g 119), some (vR g 120), some (vI i), none, none, none] []) : V γ g cL_law 9 RL room_1 G k n 432 [some (.ref ar), some (vR g 0), some (vR g 106), some (vR g 119), some (vR g 120), some (vI i), none, none, none] [] := by
  refine v_aload_n (pc := 432) rfl dL_law_432 ?_
  refine v_aload_n (pc := 433) rfl dL_law_433 ?_
  refine v_iload (pc := 434) rfl dL_law_434 ?_
  refine v_iconst (pc := 436) (z := 1) dL_law_436 ?_
  refine v_iadd (pc := 437) dL_law_437 ?_
  refine v_aarg (pc := 438) hA (by omega) (by omega) dL_law_438 ?_
  obtain ⟨x1, hx1, rx1⟩ : ∃ y : Int, y = a (i + 1).toNat ∧ -2147483648 ≤ y ∧ y < 2147483648 := ⟨_, rfl, hA.2 _⟩
  refine v_stk (st' := [vI x1, vR g 0]) (by rw [hx1]; first | done | rfl) ?_
  refine v_aload_n (pc := 439) rfl dL_law_439 ?_
  refine v_iload (pc := 440) rfl dL_law_440 ?_
  refine v_iconst (pc := 442) (z := 2) dL_law_442 ?_
  refine v_iadd (pc := 443) dL_law_443 ?_
  refine v_aarg (pc := 444) hA (by omega) (by omega) dL_law_444 ?_
  obtain ⟨x2, hx2, rx2⟩ : ∃ y : Int, y = a (i + 2).toNat ∧ -2147483648 ≤ y ∧ y < 2147483648 := ⟨_, rfl, hA.2 _⟩
  refine v_stk (st' := [vI x2, vI x1, vR g 0]) (by rw [hx2]; first | done | rfl) ?_
  refine v_aload_n (pc := 445) rfl dL_law_445 ?_
  refine v_callSH (pc := 446) (rest := []) (c_L_strike (G := G) hI.1.1 hI.2.1.1 (by have := SSk_lv hI.1; omega) (by have := hI.1.2.2.2.2.2.1; omega) (by omega) (by omega)) sok_L_strike wM_L_136 ⟨Nat.le_of_ble_eq_true rfl, Nat.le_of_ble_eq_true rfl⟩ ⟨by show k + 1 ≤ 603072; omega, by show n + 6 ≤ 7219306; omega⟩ (Nat.le_of_ble_eq_true rfl) rfl dL_law_446 (fun v G1 h1 => ?_) (fun _ _ h => h.elim)
  obtain ⟨⟨c0, hc0⟩, hk9⟩ := kp_strike hI h1
  subst hc0
  have hm := LawM hI hk9
  refine v_stk (st' := [vI c0]) rfl ?_
  refine v_istore (pc := 449) (by decide) rfl dL_law_449 ?_
  refine v_aload_n (pc := 451) rfl dL_law_451 ?_
  refine v_aload_n (pc := 452) rfl dL_law_452 ?_
  refine v_iload (pc := 453) rfl dL_law_453 ?_
  refine v_iconst (pc := 455) (z := 1) dL_law_455 ?_
  refine v_iadd (pc := 456) dL_law_456 ?_
  refine v_aarg (pc := 457) hA (by omega) (by omega) dL_law_457 ?_
  refine v_stk (st' := [vI x1, vR g 106]) (by rw [hx1]; first | done | rfl) ?_
  refine v_aload_n (pc := 458) rfl dL_law_458 ?_
  refine v_iload (pc := 459) rfl dL_law_459 ?_
  refine v_iconst (pc := 461) (z := 2) dL_law_461 ?_
  refine v_iadd (pc := 462) dL_law_462 ?_
  refine v_aarg (pc := 463) hA (by omega) (by omega) dL_law_463 ?_
  refine v_stk (st' := [vI x2, vI x1, vR g 106]) (by rw [hx2]; first | done | rfl) ?_
  refine v_callV (pc := 464) (rest := []) (c_X4_strike (G := G1) hm.1 hm.2.2.1 (by have := hm.2.2.2.1; omega) (by omega) (by omega)) iok_X4_strike wM_L_138 rfl (by decide) (by decide) rfl ⟨Nat.le_of_ble_eq_true rfl, Nat.le_of_ble_eq_true rfl⟩ ⟨by show (k + 1) + 0 ≤ 603072; omega, by show (n + 6) + 0 ≤ 7219306; omega⟩ (Nat.le_of_ble_eq_true rfl) rfl dL_law_464 (fun w G2 h2 => ?_) (fun _ _ h => h.elim)
  obtain ⟨c, r, hc1, hw1, hcr, hrr, h8, h119, hL2⟩ := op_strike hI (by omega) h1 h2
  subst hw1
  refine v_stk (st' := [vI r]) rfl ?_
  refine v_loc (L' := [some (.ref ar), some (vR g 0), some (vR g 106), some (vR g 119), some (vR g 120), some (vI i), some (vI c), none, none]) ⟨rfl, rfl, rfl, rfl, rfl, rfl, hc1, trivial⟩ ?_
  refine v_istore (pc := 467) (by decide) rfl dL_law_467 ?_
  refine v_aload_n (pc := 469) rfl dL_law_469 ?_
  refine v_callV (pc := 470) (rest := []) (c_X4_thrown (G := G2)) iok_X4_thrown wM_L_126 rfl (by decide) (by decide) rfl ⟨Nat.le_of_ble_eq_true rfl, Nat.le_of_ble_eq_true rfl⟩ ⟨by show ((k + 1) + 0) + 0 ≤ 603072; omega, by show ((n + 6) + 0) + 0 ≤ 7219306; omega⟩ (Nat.le_of_ble_eq_true rfl) rfl dL_law_470 (fun u G3 h3 => ?_) (fun _ _ h => h.elim)
  obtain ⟨rfl, hG9⟩ := h3
  rw [hG9]
  refine v_stk (st' := [vI c]) (by rw [← h8]; rfl) ?_
  refine v_iload (pc := 473) rfl dL_law_473 ?_
  refine v_icmp_eq (pc := 475) (tgt := 480) (by omega) dL_law_475 (by decide) (fun bq1 => ?_) (fun bq1 => ?_)
  · skip
    refine v_iload (pc := 480) rfl dL_law_480 ?_
    refine v_if_ne (pc := 482) (tgt := 497) (by omega) dL_law_482 (by decide) (fun bq2 => ?_) (fun bq2 => ?_)
    · skip
      refine v_goto (pc := 497) (tgt := 2167) dL_law_497 (by decide) ?_
      refine v_loc (L' := [some (.ref ar), some (vR g 0), some (vR g 106), some (vR g 119), some (vR g 120), some (vI i), none, none, none]) ⟨rfl, rfl, rfl, rfl, rfl, rfl, trivial⟩ ?_
      exact kk G2 _ _ (LawI_up hL2 (by omega) (by omega)) (by show (((k + 1) + 0) + 0) ≤ k + 25; omega) (by show (((n + 6) + 0) + 0) ≤ n + 4300; omega)
    · skip
      refine v_aload_n (pc := 485) rfl dL_law_485 ?_
      refine v_iconst (pc := 486) (z := 0) dL_law_486 ?_
      refine v_lald (pc := 487) (N := 1) rfl rfl (by decide) (by omega) (by decide) dL_law_487 ?_
      refine v_stk (st' := [vJ r]) (by rw [h119 (by omega)]; first | done | rfl) ?_
      refine v_iload (pc := 488) rfl dL_law_488 ?_
      refine v_i2l (pc := 490) (by omega) dL_law_490 ?_
      refine v_lc_eq (pc := 491) (tgt := 497) (by omega) (by omega) dL_law_491 dL_law_492 (by decide) (fun bq3 => ?_) (fun bq3 => ?_)
      · skip
        refine v_goto (pc := 497) (tgt := 2167) dL_law_497 (by decide) ?_
        refine v_loc (L' := [some (.ref ar), some (vR g 0), some (vR g 106), some (vR g 119), some (vR g 120), some (vI i), none, none, none]) ⟨rfl, rfl, rfl, rfl, rfl, rfl, trivial⟩ ?_
        exact kk G2 _ _ (LawI_up hL2 (by omega) (by omega)) (by show (((k + 1) + 0) + 0) ≤ k + 25; omega) (by show (((n + 6) + 0) + 0) ≤ n + 4300; omega)
      · skip
        first | exact absurd rfl bq3 | (exfalso; omega)
  · skip
    first | exact absurd rfl bq1 | (exfalso; omega)
set_option maxHeartbeats 4000000 in
set_option maxRecDepth 100000 in
theorem lc_4 {γ : gT} {g : GT} {ar N : Nat} {a : Nat → Int} {G : Mem} {k n : Nat} {Y A i : Int} (hA : ArgI γ g ar N a) (hI : LawI G Y A) (hy : 0 ≤ Y ∧ Y ≤ 900000 ∧ 0 ≤ A ∧ A ≤ 900000000) (hi : 0 ≤ i ∧ i + 3 ≤ (N : Int)) (hN : N ≤ 1536) (hkk : k ≤ 580000) (hnn : n ≤ 7000000)
    (kk : ∀ (G2 : Mem) (k2 n2 : Nat), LawI G2 (Y + 1200) (A + 6000) → k2 ≤ k + 25 → n2 ≤ n + 4300 → V γ g cL_law 9 RL room_1 G2 k2 n2 2167 [some (.ref ar), some (vR g 0), some (vR g 106), some (vR g 119), some (vR g 120), some (vI i), none, none, none] []) : V γ g cL_law 9 RL room_1 G k n 500 [some (.ref ar), some (vR g 0), some (vR g 106), some (vR g 119), some (vR g 120), some (vI i), none, none, none] [] := by
  refine v_aload_n (pc := 500) rfl dL_law_500 ?_
  refine v_aload_n (pc := 501) rfl dL_law_501 ?_
  refine v_iload (pc := 502) rfl dL_law_502 ?_
  refine v_iconst (pc := 504) (z := 1) dL_law_504 ?_
  refine v_iadd (pc := 505) dL_law_505 ?_
  refine v_aarg (pc := 506) hA (by omega) (by omega) dL_law_506 ?_
  obtain ⟨x1, hx1, rx1⟩ : ∃ y : Int, y = a (i + 1).toNat ∧ -2147483648 ≤ y ∧ y < 2147483648 := ⟨_, rfl, hA.2 _⟩
  refine v_stk (st' := [vI x1, vR g 0]) (by rw [hx1]; first | done | rfl) ?_
  refine v_aload_n (pc := 507) rfl dL_law_507 ?_
  refine v_callSH (pc := 508) (rest := []) (c_L_passYears (G := G) hI.1.1 hI.2.1.1 (by have := SSk_lv hI.1; omega) (by have := hI.1.2.2.2.2.2.1; omega) (by omega)) sok_L_passYears wM_L_139 ⟨Nat.le_of_ble_eq_true rfl, Nat.le_of_ble_eq_true rfl⟩ ⟨by show k + 1 ≤ 603072; omega, by show n + 6 ≤ 7219306; omega⟩ (Nat.le_of_ble_eq_true rfl) rfl dL_law_508 (fun v G1 h1 => ?_) (fun _ _ h => h.elim)
  obtain ⟨⟨c0, hc0⟩, hk9⟩ := kp_passYears hI h1
  subst hc0
  have hm := LawM hI hk9
  refine v_stk (st' := [vI c0]) rfl ?_
  refine v_istore (pc := 511) (by decide) rfl dL_law_511 ?_
  refine v_aload_n (pc := 513) rfl dL_law_513 ?_
  refine v_aload_n (pc := 514) rfl dL_law_514 ?_
  refine v_iload (pc := 515) rfl dL_law_515 ?_
  refine v_iconst (pc := 517) (z := 1) dL_law_517 ?_
  refine v_iadd (pc := 518) dL_law_518 ?_
  refine v_aarg (pc := 519) hA (by omega) (by omega) dL_law_519 ?_
  refine v_stk (st' := [vI x1, vR g 106]) (by rw [hx1]; first | done | rfl) ?_
  refine v_callV (pc := 520) (rest := []) (c_X4_passYears (G := G1) hm.1 hm.2.2.1 (by have := hm.2.2.2.2.1; omega) (by omega)) iok_X4_passYears wM_L_141 rfl (by decide) (by decide) rfl ⟨Nat.le_of_ble_eq_true rfl, Nat.le_of_ble_eq_true rfl⟩ ⟨by show (k + 1) + 0 ≤ 603072; omega, by show (n + 6) + 0 ≤ 7219306; omega⟩ (Nat.le_of_ble_eq_true rfl) rfl dL_law_520 (fun w G2 h2 => ?_) (fun _ _ h => h.elim)
  obtain ⟨c, r, hc1, hw1, hcr, hrr, h8, h119, hL2⟩ := op_passYears hI (by omega) h1 h2
  subst hw1
  refine v_stk (st' := [vI r]) rfl ?_
  refine v_loc (L' := [some (.ref ar), some (vR g 0), some (vR g 106), some (vR g 119), some (vR g 120), some (vI i), some (vI c), none, none]) ⟨rfl, rfl, rfl, rfl, rfl, rfl, hc1, trivial⟩ ?_
  refine v_istore (pc := 523) (by decide) rfl dL_law_523 ?_
  refine v_aload_n (pc := 525) rfl dL_law_525 ?_
  refine v_callV (pc := 526) (rest := []) (c_X4_thrown (G := G2)) iok_X4_thrown wM_L_126 rfl (by decide) (by decide) rfl ⟨Nat.le_of_ble_eq_true rfl, Nat.le_of_ble_eq_true rfl⟩ ⟨by show ((k + 1) + 0) + 0 ≤ 603072; omega, by show ((n + 6) + 0) + 0 ≤ 7219306; omega⟩ (Nat.le_of_ble_eq_true rfl) rfl dL_law_526 (fun u G3 h3 => ?_) (fun _ _ h => h.elim)
  obtain ⟨rfl, hG9⟩ := h3
  rw [hG9]
  refine v_stk (st' := [vI c]) (by rw [← h8]; rfl) ?_
  refine v_iload (pc := 529) rfl dL_law_529 ?_
  refine v_icmp_eq (pc := 531) (tgt := 536) (by omega) dL_law_531 (by decide) (fun bq1 => ?_) (fun bq1 => ?_)
  · skip
    refine v_iload (pc := 536) rfl dL_law_536 ?_
    refine v_if_ne (pc := 538) (tgt := 553) (by omega) dL_law_538 (by decide) (fun bq2 => ?_) (fun bq2 => ?_)
    · skip
      refine v_goto (pc := 553) (tgt := 2167) dL_law_553 (by decide) ?_
      refine v_loc (L' := [some (.ref ar), some (vR g 0), some (vR g 106), some (vR g 119), some (vR g 120), some (vI i), none, none, none]) ⟨rfl, rfl, rfl, rfl, rfl, rfl, trivial⟩ ?_
      exact kk G2 _ _ (LawI_up hL2 (by omega) (by omega)) (by show (((k + 1) + 0) + 0) ≤ k + 25; omega) (by show (((n + 6) + 0) + 0) ≤ n + 4300; omega)
    · skip
      refine v_aload_n (pc := 541) rfl dL_law_541 ?_
      refine v_iconst (pc := 542) (z := 0) dL_law_542 ?_
      refine v_lald (pc := 543) (N := 1) rfl rfl (by decide) (by omega) (by decide) dL_law_543 ?_
      refine v_stk (st' := [vJ r]) (by rw [h119 (by omega)]; first | done | rfl) ?_
      refine v_iload (pc := 544) rfl dL_law_544 ?_
      refine v_i2l (pc := 546) (by omega) dL_law_546 ?_
      refine v_lc_eq (pc := 547) (tgt := 553) (by omega) (by omega) dL_law_547 dL_law_548 (by decide) (fun bq3 => ?_) (fun bq3 => ?_)
      · skip
        refine v_goto (pc := 553) (tgt := 2167) dL_law_553 (by decide) ?_
        refine v_loc (L' := [some (.ref ar), some (vR g 0), some (vR g 106), some (vR g 119), some (vR g 120), some (vI i), none, none, none]) ⟨rfl, rfl, rfl, rfl, rfl, rfl, trivial⟩ ?_
        exact kk G2 _ _ (LawI_up hL2 (by omega) (by omega)) (by show (((k + 1) + 0) + 0) ≤ k + 25; omega) (by show (((n + 6) + 0) + 0) ≤ n + 4300; omega)
      · skip
        first | exact absurd rfl bq3 | (exfalso; omega)
  · skip
    first | exact absurd rfl bq1 | (exfalso; omega)
set_option maxHeartbeats 4000000 in
set_option maxRecDepth 100000 in
theorem lc_5 {γ : gT} {g : GT} {ar N : Nat} {a : Nat → Int} {G : Mem} {k n : Nat} {Y A i : Int} (hA : ArgI γ g ar N a) (hI : LawI G Y A) (hy : 0 ≤ Y ∧ Y ≤ 900000 ∧ 0 ≤ A ∧ A ≤ 900000000) (hi : 0 ≤ i ∧ i + 3 ≤ (N : Int)) (hN : N ≤ 1536) (hkk : k ≤ 580000) (hnn : n ≤ 7000000)
    (kk : ∀ (G2 : Mem) (k2 n2 : Nat), LawI G2 (Y + 1200) (A + 6000) → k2 ≤ k + 25 → n2 ≤ n + 4300 → V γ g cL_law 9 RL room_1 G2 k2 n2 2167 [some (.ref ar), some (vR g 0), some (vR g 106), some (vR g 119), some (vR g 120), some (vI i), none, none, none] []) : V γ g cL_law 9 RL room_1 G k n 556 [some (.ref ar), some (vR g 0), some (vR g 106), some (vR g 119), some (vR g 120), some (vI i), none, none, none] [] := by
  refine v_aload_n (pc := 556) rfl dL_law_556 ?_
  refine v_aload_n (pc := 557) rfl dL_law_557 ?_
  refine v_iload (pc := 558) rfl dL_law_558 ?_
  refine v_iconst (pc := 560) (z := 1) dL_law_560 ?_
  refine v_iadd (pc := 561) dL_law_561 ?_
  refine v_aarg (pc := 562) hA (by omega) (by omega) dL_law_562 ?_
  obtain ⟨x1, hx1, rx1⟩ : ∃ y : Int, y = a (i + 1).toNat ∧ -2147483648 ≤ y ∧ y < 2147483648 := ⟨_, rfl, hA.2 _⟩
  refine v_stk (st' := [vI x1, vR g 0]) (by rw [hx1]; first | done | rfl) ?_
  refine v_aload_n (pc := 563) rfl dL_law_563 ?_
  refine v_callSH (pc := 564) (rest := []) (c_L_recall (G := G) hI.1.1 hI.2.1.1 (by have := SSk_lv hI.1; omega) (by have := hI.1.2.2.2.2.2.1; omega) (by omega)) sok_L_recall wM_L_142 ⟨Nat.le_of_ble_eq_true rfl, Nat.le_of_ble_eq_true rfl⟩ ⟨by show k + 1 ≤ 603072; omega, by show n + 6 ≤ 7219306; omega⟩ (Nat.le_of_ble_eq_true rfl) rfl dL_law_564 (fun v G1 h1 => ?_) (fun _ _ h => h.elim)
  obtain ⟨⟨c0, hc0⟩, hk9⟩ := kp_recall hI h1
  subst hc0
  have hm := LawM hI hk9
  refine v_stk (st' := [vI c0]) rfl ?_
  refine v_istore (pc := 567) (by decide) rfl dL_law_567 ?_
  refine v_aload_n (pc := 569) rfl dL_law_569 ?_
  refine v_aload_n (pc := 570) rfl dL_law_570 ?_
  refine v_iload (pc := 571) rfl dL_law_571 ?_
  refine v_iconst (pc := 573) (z := 1) dL_law_573 ?_
  refine v_iadd (pc := 574) dL_law_574 ?_
  refine v_aarg (pc := 575) hA (by omega) (by omega) dL_law_575 ?_
  refine v_stk (st' := [vI x1, vR g 106]) (by rw [hx1]; first | done | rfl) ?_
  refine v_callV (pc := 576) (rest := []) (c_X4_recall (G := G1) hm.1 hm.2.2.1 (by have := hm.2.2.2.1; omega) (by omega)) iok_X4_recall wM_L_144 rfl (by decide) (by decide) rfl ⟨Nat.le_of_ble_eq_true rfl, Nat.le_of_ble_eq_true rfl⟩ ⟨by show (k + 1) + 0 ≤ 603072; omega, by show (n + 6) + 0 ≤ 7219306; omega⟩ (Nat.le_of_ble_eq_true rfl) rfl dL_law_576 (fun w G2 h2 => ?_) (fun _ _ h => h.elim)
  obtain ⟨c, r, hc1, hw1, hcr, hrr, h8, h119, hL2⟩ := op_recall hI (by omega) h1 h2
  subst hw1
  refine v_stk (st' := [vI r]) rfl ?_
  refine v_loc (L' := [some (.ref ar), some (vR g 0), some (vR g 106), some (vR g 119), some (vR g 120), some (vI i), some (vI c), none, none]) ⟨rfl, rfl, rfl, rfl, rfl, rfl, hc1, trivial⟩ ?_
  refine v_istore (pc := 579) (by decide) rfl dL_law_579 ?_
  refine v_aload_n (pc := 581) rfl dL_law_581 ?_
  refine v_callV (pc := 582) (rest := []) (c_X4_thrown (G := G2)) iok_X4_thrown wM_L_126 rfl (by decide) (by decide) rfl ⟨Nat.le_of_ble_eq_true rfl, Nat.le_of_ble_eq_true rfl⟩ ⟨by show ((k + 1) + 0) + 0 ≤ 603072; omega, by show ((n + 6) + 0) + 0 ≤ 7219306; omega⟩ (Nat.le_of_ble_eq_true rfl) rfl dL_law_582 (fun u G3 h3 => ?_) (fun _ _ h => h.elim)
  obtain ⟨rfl, hG9⟩ := h3
  rw [hG9]
  refine v_stk (st' := [vI c]) (by rw [← h8]; rfl) ?_
  refine v_iload (pc := 585) rfl dL_law_585 ?_
  refine v_icmp_eq (pc := 587) (tgt := 592) (by omega) dL_law_587 (by decide) (fun bq1 => ?_) (fun bq1 => ?_)
  · skip
    refine v_iload (pc := 592) rfl dL_law_592 ?_
    refine v_if_ne (pc := 594) (tgt := 609) (by omega) dL_law_594 (by decide) (fun bq2 => ?_) (fun bq2 => ?_)
    · skip
      refine v_goto (pc := 609) (tgt := 2167) dL_law_609 (by decide) ?_
      refine v_loc (L' := [some (.ref ar), some (vR g 0), some (vR g 106), some (vR g 119), some (vR g 120), some (vI i), none, none, none]) ⟨rfl, rfl, rfl, rfl, rfl, rfl, trivial⟩ ?_
      exact kk G2 _ _ (LawI_up hL2 (by omega) (by omega)) (by show (((k + 1) + 0) + 0) ≤ k + 25; omega) (by show (((n + 6) + 0) + 0) ≤ n + 4300; omega)
    · skip
      refine v_aload_n (pc := 597) rfl dL_law_597 ?_
      refine v_iconst (pc := 598) (z := 0) dL_law_598 ?_
      refine v_lald (pc := 599) (N := 1) rfl rfl (by decide) (by omega) (by decide) dL_law_599 ?_
      refine v_stk (st' := [vJ r]) (by rw [h119 (by omega)]; first | done | rfl) ?_
      refine v_iload (pc := 600) rfl dL_law_600 ?_
      refine v_i2l (pc := 602) (by omega) dL_law_602 ?_
      refine v_lc_eq (pc := 603) (tgt := 609) (by omega) (by omega) dL_law_603 dL_law_604 (by decide) (fun bq3 => ?_) (fun bq3 => ?_)
      · skip
        refine v_goto (pc := 609) (tgt := 2167) dL_law_609 (by decide) ?_
        refine v_loc (L' := [some (.ref ar), some (vR g 0), some (vR g 106), some (vR g 119), some (vR g 120), some (vI i), none, none, none]) ⟨rfl, rfl, rfl, rfl, rfl, rfl, trivial⟩ ?_
        exact kk G2 _ _ (LawI_up hL2 (by omega) (by omega)) (by show (((k + 1) + 0) + 0) ≤ k + 25; omega) (by show (((n + 6) + 0) + 0) ≤ n + 4300; omega)
      · skip
        first | exact absurd rfl bq3 | (exfalso; omega)
  · skip
    first | exact absurd rfl bq1 | (exfalso; omega)
set_option maxHeartbeats 4000000 in
set_option maxRecDepth 100000 in
theorem lc_6 {γ : gT} {g : GT} {ar N : Nat} {a : Nat → Int} {G : Mem} {k n : Nat} {Y A i : Int} (hA : ArgI γ g ar N a) (hI : LawI G Y A) (hy : 0 ≤ Y ∧ Y ≤ 900000 ∧ 0 ≤ A ∧ A ≤ 900000000) (hi : 0 ≤ i ∧ i + 3 ≤ (N : Int)) (hN : N ≤ 1536) (hkk : k ≤ 580000) (hnn : n ≤ 7000000)
    (kk : ∀ (G2 : Mem) (k2 n2 : Nat), LawI G2 (Y + 1200) (A + 6000) → k2 ≤ k + 25 → n2 ≤ n + 4300 → V γ g cL_law 9 RL room_1 G2 k2 n2 2167 [some (.ref ar), some (vR g 0), some (vR g 106), some (vR g 119), some (vR g 120), some (vI i), none, none, none] []) : V γ g cL_law 9 RL room_1 G k n 612 [some (.ref ar), some (vR g 0), some (vR g 106), some (vR g 119), some (vR g 120), some (vI i), none, none, none] [] := by
  refine v_aload_n (pc := 612) rfl dL_law_612 ?_
  refine v_aload_n (pc := 613) rfl dL_law_613 ?_
  refine v_iload (pc := 614) rfl dL_law_614 ?_
  refine v_iconst (pc := 616) (z := 1) dL_law_616 ?_
  refine v_iadd (pc := 617) dL_law_617 ?_
  refine v_aarg (pc := 618) hA (by omega) (by omega) dL_law_618 ?_
  obtain ⟨x1, hx1, rx1⟩ : ∃ y : Int, y = a (i + 1).toNat ∧ -2147483648 ≤ y ∧ y < 2147483648 := ⟨_, rfl, hA.2 _⟩
  refine v_stk (st' := [vI x1, vR g 0]) (by rw [hx1]; first | done | rfl) ?_
  refine v_aload_n (pc := 619) rfl dL_law_619 ?_
  refine v_callSH (pc := 620) (rest := []) (c_L_pay (G := G) hI.1.1 hI.2.1.1 (by have := SSk_lv hI.1; omega) (by have := hI.1.2.2.2.2.2.1; omega) (by omega)) sok_L_pay wM_L_145 ⟨Nat.le_of_ble_eq_true rfl, Nat.le_of_ble_eq_true rfl⟩ ⟨by show k + 1 ≤ 603072; omega, by show n + 6 ≤ 7219306; omega⟩ (Nat.le_of_ble_eq_true rfl) rfl dL_law_620 (fun v G1 h1 => ?_) (fun _ _ h => h.elim)
  obtain ⟨⟨c0, hc0⟩, hk9⟩ := kp_pay hI h1
  subst hc0
  have hm := LawM hI hk9
  refine v_stk (st' := [vI c0]) rfl ?_
  refine v_istore (pc := 623) (by decide) rfl dL_law_623 ?_
  refine v_aload_n (pc := 625) rfl dL_law_625 ?_
  refine v_aload_n (pc := 626) rfl dL_law_626 ?_
  refine v_iload (pc := 627) rfl dL_law_627 ?_
  refine v_iconst (pc := 629) (z := 1) dL_law_629 ?_
  refine v_iadd (pc := 630) dL_law_630 ?_
  refine v_aarg (pc := 631) hA (by omega) (by omega) dL_law_631 ?_
  refine v_stk (st' := [vI x1, vR g 106]) (by rw [hx1]; first | done | rfl) ?_
  refine v_callV (pc := 632) (rest := []) (c_X4_pay (G := G1) hm.1 hm.2.2.1 (by omega)) iok_X4_pay wM_L_147 rfl (by decide) (by decide) rfl ⟨Nat.le_of_ble_eq_true rfl, Nat.le_of_ble_eq_true rfl⟩ ⟨by show (k + 1) + 0 ≤ 603072; omega, by show (n + 6) + 0 ≤ 7219306; omega⟩ (Nat.le_of_ble_eq_true rfl) rfl dL_law_632 (fun w G2 h2 => ?_) (fun _ _ h => h.elim)
  obtain ⟨c, r, hc1, hw1, hcr, hrr, h8, h119, hL2⟩ := op_pay hI (by omega) h1 h2
  subst hw1
  refine v_stk (st' := [vI r]) rfl ?_
  refine v_loc (L' := [some (.ref ar), some (vR g 0), some (vR g 106), some (vR g 119), some (vR g 120), some (vI i), some (vI c), none, none]) ⟨rfl, rfl, rfl, rfl, rfl, rfl, hc1, trivial⟩ ?_
  refine v_istore (pc := 635) (by decide) rfl dL_law_635 ?_
  refine v_aload_n (pc := 637) rfl dL_law_637 ?_
  refine v_callV (pc := 638) (rest := []) (c_X4_thrown (G := G2)) iok_X4_thrown wM_L_126 rfl (by decide) (by decide) rfl ⟨Nat.le_of_ble_eq_true rfl, Nat.le_of_ble_eq_true rfl⟩ ⟨by show ((k + 1) + 0) + 0 ≤ 603072; omega, by show ((n + 6) + 0) + 0 ≤ 7219306; omega⟩ (Nat.le_of_ble_eq_true rfl) rfl dL_law_638 (fun u G3 h3 => ?_) (fun _ _ h => h.elim)
  obtain ⟨rfl, hG9⟩ := h3
  rw [hG9]
  refine v_stk (st' := [vI c]) (by rw [← h8]; rfl) ?_
  refine v_iload (pc := 641) rfl dL_law_641 ?_
  refine v_icmp_eq (pc := 643) (tgt := 648) (by omega) dL_law_643 (by decide) (fun bq1 => ?_) (fun bq1 => ?_)
  · skip
    refine v_iload (pc := 648) rfl dL_law_648 ?_
    refine v_if_ne (pc := 650) (tgt := 665) (by omega) dL_law_650 (by decide) (fun bq2 => ?_) (fun bq2 => ?_)
    · skip
      refine v_goto (pc := 665) (tgt := 2167) dL_law_665 (by decide) ?_
      refine v_loc (L' := [some (.ref ar), some (vR g 0), some (vR g 106), some (vR g 119), some (vR g 120), some (vI i), none, none, none]) ⟨rfl, rfl, rfl, rfl, rfl, rfl, trivial⟩ ?_
      exact kk G2 _ _ (LawI_up hL2 (by omega) (by omega)) (by show (((k + 1) + 0) + 0) ≤ k + 25; omega) (by show (((n + 6) + 0) + 0) ≤ n + 4300; omega)
    · skip
      refine v_aload_n (pc := 653) rfl dL_law_653 ?_
      refine v_iconst (pc := 654) (z := 0) dL_law_654 ?_
      refine v_lald (pc := 655) (N := 1) rfl rfl (by decide) (by omega) (by decide) dL_law_655 ?_
      refine v_stk (st' := [vJ r]) (by rw [h119 (by omega)]; first | done | rfl) ?_
      refine v_iload (pc := 656) rfl dL_law_656 ?_
      refine v_i2l (pc := 658) (by omega) dL_law_658 ?_
      refine v_lc_eq (pc := 659) (tgt := 665) (by omega) (by omega) dL_law_659 dL_law_660 (by decide) (fun bq3 => ?_) (fun bq3 => ?_)
      · skip
        refine v_goto (pc := 665) (tgt := 2167) dL_law_665 (by decide) ?_
        refine v_loc (L' := [some (.ref ar), some (vR g 0), some (vR g 106), some (vR g 119), some (vR g 120), some (vI i), none, none, none]) ⟨rfl, rfl, rfl, rfl, rfl, rfl, trivial⟩ ?_
        exact kk G2 _ _ (LawI_up hL2 (by omega) (by omega)) (by show (((k + 1) + 0) + 0) ≤ k + 25; omega) (by show (((n + 6) + 0) + 0) ≤ n + 4300; omega)
      · skip
        first | exact absurd rfl bq3 | (exfalso; omega)
  · skip
    first | exact absurd rfl bq1 | (exfalso; omega)
set_option maxHeartbeats 4000000 in
set_option maxRecDepth 100000 in
theorem lc_7 {γ : gT} {g : GT} {ar N : Nat} {a : Nat → Int} {G : Mem} {k n : Nat} {Y A i : Int} (hA : ArgI γ g ar N a) (hI : LawI G Y A) (hy : 0 ≤ Y ∧ Y ≤ 900000 ∧ 0 ≤ A ∧ A ≤ 900000000) (hi : 0 ≤ i ∧ i + 3 ≤ (N : Int)) (hN : N ≤ 1536) (hkk : k ≤ 580000) (hnn : n ≤ 7000000)
    (kk : ∀ (G2 : Mem) (k2 n2 : Nat), LawI G2 (Y + 1200) (A + 6000) → k2 ≤ k + 25 → n2 ≤ n + 4300 → V γ g cL_law 9 RL room_1 G2 k2 n2 2167 [some (.ref ar), some (vR g 0), some (vR g 106), some (vR g 119), some (vR g 120), some (vI i), none, none, none] []) : V γ g cL_law 9 RL room_1 G k n 668 [some (.ref ar), some (vR g 0), some (vR g 106), some (vR g 119), some (vR g 120), some (vI i), none, none, none] [] := by
  refine v_aload_n (pc := 668) rfl dL_law_668 ?_
  refine v_callV (pc := 669) (rest := []) (c_X3_dieCount (G := G) ) iok_X3_dieCount wM_L_148 rfl (by decide) (by decide) rfl ⟨Nat.le_of_ble_eq_true rfl, Nat.le_of_ble_eq_true rfl⟩ ⟨by show k + 0 ≤ 603072; omega, by show n + 0 ≤ 7219306; omega⟩ (Nat.le_of_ble_eq_true rfl) rfl dL_law_669 (fun v G1 h1 => ?_) (fun _ _ h => h.elim)
  obtain ⟨x0, hx0⟩ : ∃ x, v = some (vI x) := ⟨_, h1.1⟩
  have hk9 : KP9 G G1 := KP9_e h1.2
  subst hx0
  have hm := LawM hI hk9
  refine v_stk (st' := [vI x0]) rfl ?_
  refine v_aload_n (pc := 672) rfl dL_law_672 ?_
  refine v_callV (pc := 673) (rest := [vI x0]) (c_X4_dieCount (G := G1) ) iok_X4_dieCount wM_L_151 rfl (by decide) (by decide) rfl ⟨Nat.le_of_ble_eq_true rfl, Nat.le_of_ble_eq_true rfl⟩ ⟨by show (k + 0) + 0 ≤ 603072; omega, by show (n + 0) + 0 ≤ 7219306; omega⟩ (Nat.le_of_ble_eq_true rfl) rfl dL_law_673 (fun w G2 h2 => ?_) (fun _ _ h => h.elim)
  obtain ⟨r, hv1, hw1, hrr, hL2⟩ := op_dieCount hI h1 h2
  subst hw1
  have hc2 : vI x0 = vI r := Option.some.inj hv1
  refine v_stk (st' := [vI r, vI r]) (by rw [← hc2]; rfl) ?_
  refine v_icmp_eq (pc := 676) (tgt := 2167) (by omega) dL_law_676 (by decide) (fun bq1 => ?_) (fun bq1 => ?_)
  · skip
    refine v_loc (L' := [some (.ref ar), some (vR g 0), some (vR g 106), some (vR g 119), some (vR g 120), some (vI i), none, none, none]) ⟨rfl, rfl, rfl, rfl, rfl, rfl, trivial⟩ ?_
    exact kk G2 _ _ (LawI_up hL2 (by omega) (by omega)) (by show ((k + 0) + 0) ≤ k + 25; omega) (by show ((n + 0) + 0) ≤ n + 4300; omega)
  · skip
    exact absurd rfl bq1
set_option maxHeartbeats 4000000 in
set_option maxRecDepth 100000 in
theorem lc_8 {γ : gT} {g : GT} {ar N : Nat} {a : Nat → Int} {G : Mem} {k n : Nat} {Y A i : Int} (hA : ArgI γ g ar N a) (hI : LawI G Y A) (hy : 0 ≤ Y ∧ Y ≤ 900000 ∧ 0 ≤ A ∧ A ≤ 900000000) (hi : 0 ≤ i ∧ i + 3 ≤ (N : Int)) (hN : N ≤ 1536) (hkk : k ≤ 580000) (hnn : n ≤ 7000000)
    (kk : ∀ (G2 : Mem) (k2 n2 : Nat), LawI G2 (Y + 1200) (A + 6000) → k2 ≤ k + 25 → n2 ≤ n + 4300 → V γ g cL_law 9 RL room_1 G2 k2 n2 2167 [some (.ref ar), some (vR g 0), some (vR g 106), some (vR g 119), some (vR g 120), some (vI i), none, none, none] []) : V γ g cL_law 9 RL room_1 G k n 681 [some (.ref ar), some (vR g 0), some (vR g 106), some (vR g 119), some (vR g 120), some (vI i), none, none, none] [] := by
  refine v_aload_n (pc := 681) rfl dL_law_681 ?_
  refine v_aload_n (pc := 682) rfl dL_law_682 ?_
  refine v_iload (pc := 683) rfl dL_law_683 ?_
  refine v_iconst (pc := 685) (z := 1) dL_law_685 ?_
  refine v_iadd (pc := 686) dL_law_686 ?_
  refine v_aarg (pc := 687) hA (by omega) (by omega) dL_law_687 ?_
  obtain ⟨x1, hx1, rx1⟩ : ∃ y : Int, y = a (i + 1).toNat ∧ -2147483648 ≤ y ∧ y < 2147483648 := ⟨_, rfl, hA.2 _⟩
  refine v_stk (st' := [vI x1, vR g 0]) (by rw [hx1]; first | done | rfl) ?_
  refine v_aload_n (pc := 688) rfl dL_law_688 ?_
  refine v_callSH (pc := 689) (rest := []) (c_L_dieValue (G := G) hI.1.1 (by omega)) sok_L_dieValue wM_L_152 ⟨Nat.le_of_ble_eq_true rfl, Nat.le_of_ble_eq_true rfl⟩ ⟨by show k + 1 ≤ 603072; omega, by show n + 6 ≤ 7219306; omega⟩ (Nat.le_of_ble_eq_true rfl) rfl dL_law_689 (fun v G1 h1 => ?_) (fun _ _ h => h.elim)
  obtain ⟨⟨c0, hc0⟩, hk9⟩ := kp_dieValue hI h1
  subst hc0
  have hm := LawM hI hk9
  refine v_stk (st' := [vI c0]) rfl ?_
  refine v_istore (pc := 692) (by decide) rfl dL_law_692 ?_
  refine v_aload_n (pc := 694) rfl dL_law_694 ?_
  refine v_aload_n (pc := 695) rfl dL_law_695 ?_
  refine v_iload (pc := 696) rfl dL_law_696 ?_
  refine v_iconst (pc := 698) (z := 1) dL_law_698 ?_
  refine v_iadd (pc := 699) dL_law_699 ?_
  refine v_aarg (pc := 700) hA (by omega) (by omega) dL_law_700 ?_
  refine v_stk (st' := [vI x1, vR g 106]) (by rw [hx1]; first | done | rfl) ?_
  refine v_callV (pc := 701) (rest := []) (c_X4_dieValue (G := G1) hm.1 (by omega)) iok_X4_dieValue wM_L_154 rfl (by decide) (by decide) rfl ⟨Nat.le_of_ble_eq_true rfl, Nat.le_of_ble_eq_true rfl⟩ ⟨by show (k + 1) + 0 ≤ 603072; omega, by show (n + 6) + 0 ≤ 7219306; omega⟩ (Nat.le_of_ble_eq_true rfl) rfl dL_law_701 (fun w G2 h2 => ?_) (fun _ _ h => h.elim)
  obtain ⟨c, r, hc1, hw1, hcr, hrr, h8, h119, hL2⟩ := op_dieValue (by omega) hI h1 h2
  subst hw1
  refine v_stk (st' := [vI r]) rfl ?_
  refine v_loc (L' := [some (.ref ar), some (vR g 0), some (vR g 106), some (vR g 119), some (vR g 120), some (vI i), some (vI c), none, none]) ⟨rfl, rfl, rfl, rfl, rfl, rfl, hc1, trivial⟩ ?_
  refine v_istore (pc := 704) (by decide) rfl dL_law_704 ?_
  refine v_aload_n (pc := 706) rfl dL_law_706 ?_
  refine v_callV (pc := 707) (rest := []) (c_X4_thrown (G := G2)) iok_X4_thrown wM_L_126 rfl (by decide) (by decide) rfl ⟨Nat.le_of_ble_eq_true rfl, Nat.le_of_ble_eq_true rfl⟩ ⟨by show ((k + 1) + 0) + 0 ≤ 603072; omega, by show ((n + 6) + 0) + 0 ≤ 7219306; omega⟩ (Nat.le_of_ble_eq_true rfl) rfl dL_law_707 (fun u G3 h3 => ?_) (fun _ _ h => h.elim)
  obtain ⟨rfl, hG9⟩ := h3
  rw [hG9]
  refine v_stk (st' := [vI c]) (by rw [← h8]; rfl) ?_
  refine v_iload (pc := 710) rfl dL_law_710 ?_
  refine v_icmp_eq (pc := 712) (tgt := 717) (by omega) dL_law_712 (by decide) (fun bq1 => ?_) (fun bq1 => ?_)
  · skip
    refine v_iload (pc := 717) rfl dL_law_717 ?_
    refine v_if_ne (pc := 719) (tgt := 734) (by omega) dL_law_719 (by decide) (fun bq2 => ?_) (fun bq2 => ?_)
    · skip
      refine v_goto (pc := 734) (tgt := 2167) dL_law_734 (by decide) ?_
      refine v_loc (L' := [some (.ref ar), some (vR g 0), some (vR g 106), some (vR g 119), some (vR g 120), some (vI i), none, none, none]) ⟨rfl, rfl, rfl, rfl, rfl, rfl, trivial⟩ ?_
      exact kk G2 _ _ (LawI_up hL2 (by omega) (by omega)) (by show (((k + 1) + 0) + 0) ≤ k + 25; omega) (by show (((n + 6) + 0) + 0) ≤ n + 4300; omega)
    · skip
      refine v_aload_n (pc := 722) rfl dL_law_722 ?_
      refine v_iconst (pc := 723) (z := 0) dL_law_723 ?_
      refine v_lald (pc := 724) (N := 1) rfl rfl (by decide) (by omega) (by decide) dL_law_724 ?_
      refine v_stk (st' := [vJ r]) (by rw [h119 (by omega)]; first | done | rfl) ?_
      refine v_iload (pc := 725) rfl dL_law_725 ?_
      refine v_i2l (pc := 727) (by omega) dL_law_727 ?_
      refine v_lc_eq (pc := 728) (tgt := 734) (by omega) (by omega) dL_law_728 dL_law_729 (by decide) (fun bq3 => ?_) (fun bq3 => ?_)
      · skip
        refine v_goto (pc := 734) (tgt := 2167) dL_law_734 (by decide) ?_
        refine v_loc (L' := [some (.ref ar), some (vR g 0), some (vR g 106), some (vR g 119), some (vR g 120), some (vI i), none, none, none]) ⟨rfl, rfl, rfl, rfl, rfl, rfl, trivial⟩ ?_
        exact kk G2 _ _ (LawI_up hL2 (by omega) (by omega)) (by show (((k + 1) + 0) + 0) ≤ k + 25; omega) (by show (((n + 6) + 0) + 0) ≤ n + 4300; omega)
      · skip
        first | exact absurd rfl bq3 | (exfalso; omega)
  · skip
    first | exact absurd rfl bq1 | (exfalso; omega)
set_option maxHeartbeats 4000000 in
set_option maxRecDepth 100000 in
theorem lc_9 {γ : gT} {g : GT} {ar N : Nat} {a : Nat → Int} {G : Mem} {k n : Nat} {Y A i : Int} (hA : ArgI γ g ar N a) (hI : LawI G Y A) (hy : 0 ≤ Y ∧ Y ≤ 900000 ∧ 0 ≤ A ∧ A ≤ 900000000) (hi : 0 ≤ i ∧ i + 3 ≤ (N : Int)) (hN : N ≤ 1536) (hkk : k ≤ 580000) (hnn : n ≤ 7000000)
    (kk : ∀ (G2 : Mem) (k2 n2 : Nat), LawI G2 (Y + 1200) (A + 6000) → k2 ≤ k + 25 → n2 ≤ n + 4300 → V γ g cL_law 9 RL room_1 G2 k2 n2 2167 [some (.ref ar), some (vR g 0), some (vR g 106), some (vR g 119), some (vR g 120), some (vI i), none, none, none] []) : V γ g cL_law 9 RL room_1 G k n 737 [some (.ref ar), some (vR g 0), some (vR g 106), some (vR g 119), some (vR g 120), some (vI i), none, none, none] [] := by
  refine v_aload_n (pc := 737) rfl dL_law_737 ?_
  refine v_aload_n (pc := 738) rfl dL_law_738 ?_
  refine v_iload (pc := 739) rfl dL_law_739 ?_
  refine v_iconst (pc := 741) (z := 1) dL_law_741 ?_
  refine v_iadd (pc := 742) dL_law_742 ?_
  refine v_aarg (pc := 743) hA (by omega) (by omega) dL_law_743 ?_
  obtain ⟨x1, hx1, rx1⟩ : ∃ y : Int, y = a (i + 1).toNat ∧ -2147483648 ≤ y ∧ y < 2147483648 := ⟨_, rfl, hA.2 _⟩
  refine v_stk (st' := [vI x1, vR g 0]) (by rw [hx1]; first | done | rfl) ?_
  refine v_aload_n (pc := 744) rfl dL_law_744 ?_
  refine v_callSH (pc := 745) (rest := []) (c_L_coinWeight (G := G) hI.1.1 (by omega)) sok_L_coinWeight wM_L_155 ⟨Nat.le_of_ble_eq_true rfl, Nat.le_of_ble_eq_true rfl⟩ ⟨by show k + 1 ≤ 603072; omega, by show n + 6 ≤ 7219306; omega⟩ (Nat.le_of_ble_eq_true rfl) rfl dL_law_745 (fun v G1 h1 => ?_) (fun _ _ h => h.elim)
  obtain ⟨⟨c0, hc0⟩, hk9⟩ := kp_coinWeight hI h1
  subst hc0
  have hm := LawM hI hk9
  refine v_stk (st' := [vI c0]) rfl ?_
  refine v_istore (pc := 748) (by decide) rfl dL_law_748 ?_
  refine v_aload_n (pc := 750) rfl dL_law_750 ?_
  refine v_aload_n (pc := 751) rfl dL_law_751 ?_
  refine v_iload (pc := 752) rfl dL_law_752 ?_
  refine v_iconst (pc := 754) (z := 1) dL_law_754 ?_
  refine v_iadd (pc := 755) dL_law_755 ?_
  refine v_aarg (pc := 756) hA (by omega) (by omega) dL_law_756 ?_
  refine v_stk (st' := [vI x1, vR g 106]) (by rw [hx1]; first | done | rfl) ?_
  refine v_callV (pc := 757) (rest := []) (c_X4_coinWeight (G := G1) hm.1 (by omega)) iok_X4_coinWeight wM_L_157 rfl (by decide) (by decide) rfl ⟨Nat.le_of_ble_eq_true rfl, Nat.le_of_ble_eq_true rfl⟩ ⟨by show (k + 1) + 0 ≤ 603072; omega, by show (n + 6) + 0 ≤ 7219306; omega⟩ (Nat.le_of_ble_eq_true rfl) rfl dL_law_757 (fun w G2 h2 => ?_) (fun _ _ h => h.elim)
  obtain ⟨c, r, hc1, hw1, hcr, hrr, h8, h119, hL2⟩ := op_coinWeight (by omega) hI h1 h2
  subst hw1
  refine v_stk (st' := [vI r]) rfl ?_
  refine v_loc (L' := [some (.ref ar), some (vR g 0), some (vR g 106), some (vR g 119), some (vR g 120), some (vI i), some (vI c), none, none]) ⟨rfl, rfl, rfl, rfl, rfl, rfl, hc1, trivial⟩ ?_
  refine v_istore (pc := 760) (by decide) rfl dL_law_760 ?_
  refine v_aload_n (pc := 762) rfl dL_law_762 ?_
  refine v_callV (pc := 763) (rest := []) (c_X4_thrown (G := G2)) iok_X4_thrown wM_L_126 rfl (by decide) (by decide) rfl ⟨Nat.le_of_ble_eq_true rfl, Nat.le_of_ble_eq_true rfl⟩ ⟨by show ((k + 1) + 0) + 0 ≤ 603072; omega, by show ((n + 6) + 0) + 0 ≤ 7219306; omega⟩ (Nat.le_of_ble_eq_true rfl) rfl dL_law_763 (fun u G3 h3 => ?_) (fun _ _ h => h.elim)
  obtain ⟨rfl, hG9⟩ := h3
  rw [hG9]
  refine v_stk (st' := [vI c]) (by rw [← h8]; rfl) ?_
  refine v_iload (pc := 766) rfl dL_law_766 ?_
  refine v_icmp_eq (pc := 768) (tgt := 773) (by omega) dL_law_768 (by decide) (fun bq1 => ?_) (fun bq1 => ?_)
  · skip
    refine v_iload (pc := 773) rfl dL_law_773 ?_
    refine v_if_ne (pc := 775) (tgt := 790) (by omega) dL_law_775 (by decide) (fun bq2 => ?_) (fun bq2 => ?_)
    · skip
      refine v_goto (pc := 790) (tgt := 2167) dL_law_790 (by decide) ?_
      refine v_loc (L' := [some (.ref ar), some (vR g 0), some (vR g 106), some (vR g 119), some (vR g 120), some (vI i), none, none, none]) ⟨rfl, rfl, rfl, rfl, rfl, rfl, trivial⟩ ?_
      exact kk G2 _ _ (LawI_up hL2 (by omega) (by omega)) (by show (((k + 1) + 0) + 0) ≤ k + 25; omega) (by show (((n + 6) + 0) + 0) ≤ n + 4300; omega)
    · skip
      refine v_aload_n (pc := 778) rfl dL_law_778 ?_
      refine v_iconst (pc := 779) (z := 0) dL_law_779 ?_
      refine v_lald (pc := 780) (N := 1) rfl rfl (by decide) (by omega) (by decide) dL_law_780 ?_
      refine v_stk (st' := [vJ r]) (by rw [h119 (by omega)]; first | done | rfl) ?_
      refine v_iload (pc := 781) rfl dL_law_781 ?_
      refine v_i2l (pc := 783) (by omega) dL_law_783 ?_
      refine v_lc_eq (pc := 784) (tgt := 790) (by omega) (by omega) dL_law_784 dL_law_785 (by decide) (fun bq3 => ?_) (fun bq3 => ?_)
      · skip
        refine v_goto (pc := 790) (tgt := 2167) dL_law_790 (by decide) ?_
        refine v_loc (L' := [some (.ref ar), some (vR g 0), some (vR g 106), some (vR g 119), some (vR g 120), some (vI i), none, none, none]) ⟨rfl, rfl, rfl, rfl, rfl, rfl, trivial⟩ ?_
        exact kk G2 _ _ (LawI_up hL2 (by omega) (by omega)) (by show (((k + 1) + 0) + 0) ≤ k + 25; omega) (by show (((n + 6) + 0) + 0) ≤ n + 4300; omega)
      · skip
        first | exact absurd rfl bq3 | (exfalso; omega)
  · skip
    first | exact absurd rfl bq1 | (exfalso; omega)
set_option maxHeartbeats 4000000 in
set_option maxRecDepth 100000 in
theorem lc_10 {γ : gT} {g : GT} {ar N : Nat} {a : Nat → Int} {G : Mem} {k n : Nat} {Y A i : Int} (hA : ArgI γ g ar N a) (hI : LawI G Y A) (hy : 0 ≤ Y ∧ Y ≤ 900000 ∧ 0 ≤ A ∧ A ≤ 900000000) (hi : 0 ≤ i ∧ i + 3 ≤ (N : Int)) (hN : N ≤ 1536) (hkk : k ≤ 580000) (hnn : n ≤ 7000000)
    (kk : ∀ (G2 : Mem) (k2 n2 : Nat), LawI G2 (Y + 1200) (A + 6000) → k2 ≤ k + 25 → n2 ≤ n + 4300 → V γ g cL_law 9 RL room_1 G2 k2 n2 2167 [some (.ref ar), some (vR g 0), some (vR g 106), some (vR g 119), some (vR g 120), some (vI i), none, none, none] []) : V γ g cL_law 9 RL room_1 G k n 793 [some (.ref ar), some (vR g 0), some (vR g 106), some (vR g 119), some (vR g 120), some (vI i), none, none, none] [] := by
  refine v_aload_n (pc := 793) rfl dL_law_793 ?_
  refine v_aload_n (pc := 794) rfl dL_law_794 ?_
  refine v_iload (pc := 795) rfl dL_law_795 ?_
  refine v_iconst (pc := 797) (z := 1) dL_law_797 ?_
  refine v_iadd (pc := 798) dL_law_798 ?_
  refine v_aarg (pc := 799) hA (by omega) (by omega) dL_law_799 ?_
  obtain ⟨x1, hx1, rx1⟩ : ∃ y : Int, y = a (i + 1).toNat ∧ -2147483648 ≤ y ∧ y < 2147483648 := ⟨_, rfl, hA.2 _⟩
  refine v_stk (st' := [vI x1, vR g 0]) (by rw [hx1]; first | done | rfl) ?_
  refine v_aload_n (pc := 800) rfl dL_law_800 ?_
  refine v_callSH (pc := 801) (rest := []) (c_L_wear (G := G) hI.1.1 (by omega)) sok_L_wear wM_L_158 ⟨Nat.le_of_ble_eq_true rfl, Nat.le_of_ble_eq_true rfl⟩ ⟨by show k + 1 ≤ 603072; omega, by show n + 6 ≤ 7219306; omega⟩ (Nat.le_of_ble_eq_true rfl) rfl dL_law_801 (fun v G1 h1 => ?_) (fun _ _ h => h.elim)
  obtain ⟨⟨c0, hc0⟩, hk9⟩ := kp_wear hI h1
  subst hc0
  have hm := LawM hI hk9
  refine v_stk (st' := [vI c0]) rfl ?_
  refine v_istore (pc := 804) (by decide) rfl dL_law_804 ?_
  refine v_aload_n (pc := 806) rfl dL_law_806 ?_
  refine v_aload_n (pc := 807) rfl dL_law_807 ?_
  refine v_iload (pc := 808) rfl dL_law_808 ?_
  refine v_iconst (pc := 810) (z := 1) dL_law_810 ?_
  refine v_iadd (pc := 811) dL_law_811 ?_
  refine v_aarg (pc := 812) hA (by omega) (by omega) dL_law_812 ?_
  refine v_stk (st' := [vI x1, vR g 106]) (by rw [hx1]; first | done | rfl) ?_
  refine v_callV (pc := 813) (rest := []) (c_X4_wear (G := G1) hm.1 (by omega)) iok_X4_wear wM_L_160 rfl (by decide) (by decide) rfl ⟨Nat.le_of_ble_eq_true rfl, Nat.le_of_ble_eq_true rfl⟩ ⟨by show (k + 1) + 0 ≤ 603072; omega, by show (n + 6) + 0 ≤ 7219306; omega⟩ (Nat.le_of_ble_eq_true rfl) rfl dL_law_813 (fun w G2 h2 => ?_) (fun _ _ h => h.elim)
  obtain ⟨c, r, hc1, hw1, hcr, hrr, h8, h119, hL2⟩ := op_wear (by omega) hI h1 h2
  subst hw1
  refine v_stk (st' := [vI r]) rfl ?_
  refine v_loc (L' := [some (.ref ar), some (vR g 0), some (vR g 106), some (vR g 119), some (vR g 120), some (vI i), some (vI c), none, none]) ⟨rfl, rfl, rfl, rfl, rfl, rfl, hc1, trivial⟩ ?_
  refine v_istore (pc := 816) (by decide) rfl dL_law_816 ?_
  refine v_aload_n (pc := 818) rfl dL_law_818 ?_
  refine v_callV (pc := 819) (rest := []) (c_X4_thrown (G := G2)) iok_X4_thrown wM_L_126 rfl (by decide) (by decide) rfl ⟨Nat.le_of_ble_eq_true rfl, Nat.le_of_ble_eq_true rfl⟩ ⟨by show ((k + 1) + 0) + 0 ≤ 603072; omega, by show ((n + 6) + 0) + 0 ≤ 7219306; omega⟩ (Nat.le_of_ble_eq_true rfl) rfl dL_law_819 (fun u G3 h3 => ?_) (fun _ _ h => h.elim)
  obtain ⟨rfl, hG9⟩ := h3
  rw [hG9]
  refine v_stk (st' := [vI c]) (by rw [← h8]; rfl) ?_
  refine v_iload (pc := 822) rfl dL_law_822 ?_
  refine v_icmp_eq (pc := 824) (tgt := 829) (by omega) dL_law_824 (by decide) (fun bq1 => ?_) (fun bq1 => ?_)
  · skip
    refine v_iload (pc := 829) rfl dL_law_829 ?_
    refine v_if_ne (pc := 831) (tgt := 846) (by omega) dL_law_831 (by decide) (fun bq2 => ?_) (fun bq2 => ?_)
    · skip
      refine v_goto (pc := 846) (tgt := 2167) dL_law_846 (by decide) ?_
      refine v_loc (L' := [some (.ref ar), some (vR g 0), some (vR g 106), some (vR g 119), some (vR g 120), some (vI i), none, none, none]) ⟨rfl, rfl, rfl, rfl, rfl, rfl, trivial⟩ ?_
      exact kk G2 _ _ (LawI_up hL2 (by omega) (by omega)) (by show (((k + 1) + 0) + 0) ≤ k + 25; omega) (by show (((n + 6) + 0) + 0) ≤ n + 4300; omega)
    · skip
      refine v_aload_n (pc := 834) rfl dL_law_834 ?_
      refine v_iconst (pc := 835) (z := 0) dL_law_835 ?_
      refine v_lald (pc := 836) (N := 1) rfl rfl (by decide) (by omega) (by decide) dL_law_836 ?_
      refine v_stk (st' := [vJ r]) (by rw [h119 (by omega)]; first | done | rfl) ?_
      refine v_iload (pc := 837) rfl dL_law_837 ?_
      refine v_i2l (pc := 839) (by omega) dL_law_839 ?_
      refine v_lc_eq (pc := 840) (tgt := 846) (by omega) (by omega) dL_law_840 dL_law_841 (by decide) (fun bq3 => ?_) (fun bq3 => ?_)
      · skip
        refine v_goto (pc := 846) (tgt := 2167) dL_law_846 (by decide) ?_
        refine v_loc (L' := [some (.ref ar), some (vR g 0), some (vR g 106), some (vR g 119), some (vR g 120), some (vI i), none, none, none]) ⟨rfl, rfl, rfl, rfl, rfl, rfl, trivial⟩ ?_
        exact kk G2 _ _ (LawI_up hL2 (by omega) (by omega)) (by show (((k + 1) + 0) + 0) ≤ k + 25; omega) (by show (((n + 6) + 0) + 0) ≤ n + 4300; omega)
      · skip
        first | exact absurd rfl bq3 | (exfalso; omega)
  · skip
    first | exact absurd rfl bq1 | (exfalso; omega)
set_option maxHeartbeats 4000000 in
set_option maxRecDepth 100000 in
theorem lc_11 {γ : gT} {g : GT} {ar N : Nat} {a : Nat → Int} {G : Mem} {k n : Nat} {Y A i : Int} (hA : ArgI γ g ar N a) (hI : LawI G Y A) (hy : 0 ≤ Y ∧ Y ≤ 900000 ∧ 0 ≤ A ∧ A ≤ 900000000) (hi : 0 ≤ i ∧ i + 3 ≤ (N : Int)) (hN : N ≤ 1536) (hkk : k ≤ 580000) (hnn : n ≤ 7000000)
    (kk : ∀ (G2 : Mem) (k2 n2 : Nat), LawI G2 (Y + 1200) (A + 6000) → k2 ≤ k + 25 → n2 ≤ n + 4300 → V γ g cL_law 9 RL room_1 G2 k2 n2 2167 [some (.ref ar), some (vR g 0), some (vR g 106), some (vR g 119), some (vR g 120), some (vI i), none, none, none] []) : V γ g cL_law 9 RL room_1 G k n 849 [some (.ref ar), some (vR g 0), some (vR g 106), some (vR g 119), some (vR g 120), some (vI i), none, none, none] [] := by
  refine v_aload_n (pc := 849) rfl dL_law_849 ?_
  refine v_aload_n (pc := 850) rfl dL_law_850 ?_
  refine v_iload (pc := 851) rfl dL_law_851 ?_
  refine v_iconst (pc := 853) (z := 1) dL_law_853 ?_
  refine v_iadd (pc := 854) dL_law_854 ?_
  refine v_aarg (pc := 855) hA (by omega) (by omega) dL_law_855 ?_
  obtain ⟨x1, hx1, rx1⟩ : ∃ y : Int, y = a (i + 1).toNat ∧ -2147483648 ≤ y ∧ y < 2147483648 := ⟨_, rfl, hA.2 _⟩
  refine v_stk (st' := [vI x1, vR g 0]) (by rw [hx1]; first | done | rfl) ?_
  refine v_aload_n (pc := 856) rfl dL_law_856 ?_
  refine v_callSH (pc := 857) (rest := []) (c_L_nextGrade (G := G) hI.1.1 (by omega)) sok_L_nextGrade wM_L_161 ⟨Nat.le_of_ble_eq_true rfl, Nat.le_of_ble_eq_true rfl⟩ ⟨by show k + 2 ≤ 603072; omega, by show n + 12 ≤ 7219306; omega⟩ (Nat.le_of_ble_eq_true rfl) rfl dL_law_857 (fun v G1 h1 => ?_) (fun _ _ h => h.elim)
  obtain ⟨⟨c0, hc0⟩, hk9⟩ := kp_nextGrade hI h1
  subst hc0
  have hm := LawM hI hk9
  refine v_stk (st' := [vI c0]) rfl ?_
  refine v_istore (pc := 860) (by decide) rfl dL_law_860 ?_
  refine v_aload_n (pc := 862) rfl dL_law_862 ?_
  refine v_aload_n (pc := 863) rfl dL_law_863 ?_
  refine v_iload (pc := 864) rfl dL_law_864 ?_
  refine v_iconst (pc := 866) (z := 1) dL_law_866 ?_
  refine v_iadd (pc := 867) dL_law_867 ?_
  refine v_aarg (pc := 868) hA (by omega) (by omega) dL_law_868 ?_
  refine v_stk (st' := [vI x1, vR g 106]) (by rw [hx1]; first | done | rfl) ?_
  refine v_callV (pc := 869) (rest := []) (c_X4_nextGrade (G := G1) hm.1 (by omega)) iok_X4_nextGrade wM_L_163 rfl (by decide) (by decide) rfl ⟨Nat.le_of_ble_eq_true rfl, Nat.le_of_ble_eq_true rfl⟩ ⟨by show (k + 2) + 0 ≤ 603072; omega, by show (n + 12) + 0 ≤ 7219306; omega⟩ (Nat.le_of_ble_eq_true rfl) rfl dL_law_869 (fun w G2 h2 => ?_) (fun _ _ h => h.elim)
  obtain ⟨c, r, hc1, hw1, hcr, hrr, h8, h119, hL2⟩ := op_nextGrade (by omega) hI h1 h2
  subst hw1
  refine v_stk (st' := [vI r]) rfl ?_
  refine v_loc (L' := [some (.ref ar), some (vR g 0), some (vR g 106), some (vR g 119), some (vR g 120), some (vI i), some (vI c), none, none]) ⟨rfl, rfl, rfl, rfl, rfl, rfl, hc1, trivial⟩ ?_
  refine v_istore (pc := 872) (by decide) rfl dL_law_872 ?_
  refine v_aload_n (pc := 874) rfl dL_law_874 ?_
  refine v_callV (pc := 875) (rest := []) (c_X4_thrown (G := G2)) iok_X4_thrown wM_L_126 rfl (by decide) (by decide) rfl ⟨Nat.le_of_ble_eq_true rfl, Nat.le_of_ble_eq_true rfl⟩ ⟨by show ((k + 2) + 0) + 0 ≤ 603072; omega, by show ((n + 12) + 0) + 0 ≤ 7219306; omega⟩ (Nat.le_of_ble_eq_true rfl) rfl dL_law_875 (fun u G3 h3 => ?_) (fun _ _ h => h.elim)
  obtain ⟨rfl, hG9⟩ := h3
  rw [hG9]
  refine v_stk (st' := [vI c]) (by rw [← h8]; rfl) ?_
  refine v_iload (pc := 878) rfl dL_law_878 ?_
  refine v_icmp_eq (pc := 880) (tgt := 885) (by omega) dL_law_880 (by decide) (fun bq1 => ?_) (fun bq1 => ?_)
  · skip
    refine v_iload (pc := 885) rfl dL_law_885 ?_
    refine v_if_ne (pc := 887) (tgt := 902) (by omega) dL_law_887 (by decide) (fun bq2 => ?_) (fun bq2 => ?_)
    · skip
      refine v_goto (pc := 902) (tgt := 2167) dL_law_902 (by decide) ?_
      refine v_loc (L' := [some (.ref ar), some (vR g 0), some (vR g 106), some (vR g 119), some (vR g 120), some (vI i), none, none, none]) ⟨rfl, rfl, rfl, rfl, rfl, rfl, trivial⟩ ?_
      exact kk G2 _ _ (LawI_up hL2 (by omega) (by omega)) (by show (((k + 2) + 0) + 0) ≤ k + 25; omega) (by show (((n + 12) + 0) + 0) ≤ n + 4300; omega)
    · skip
      refine v_aload_n (pc := 890) rfl dL_law_890 ?_
      refine v_iconst (pc := 891) (z := 0) dL_law_891 ?_
      refine v_lald (pc := 892) (N := 1) rfl rfl (by decide) (by omega) (by decide) dL_law_892 ?_
      refine v_stk (st' := [vJ r]) (by rw [h119 (by omega)]; first | done | rfl) ?_
      refine v_iload (pc := 893) rfl dL_law_893 ?_
      refine v_i2l (pc := 895) (by omega) dL_law_895 ?_
      refine v_lc_eq (pc := 896) (tgt := 902) (by omega) (by omega) dL_law_896 dL_law_897 (by decide) (fun bq3 => ?_) (fun bq3 => ?_)
      · skip
        refine v_goto (pc := 902) (tgt := 2167) dL_law_902 (by decide) ?_
        refine v_loc (L' := [some (.ref ar), some (vR g 0), some (vR g 106), some (vR g 119), some (vR g 120), some (vI i), none, none, none]) ⟨rfl, rfl, rfl, rfl, rfl, rfl, trivial⟩ ?_
        exact kk G2 _ _ (LawI_up hL2 (by omega) (by omega)) (by show (((k + 2) + 0) + 0) ≤ k + 25; omega) (by show (((n + 12) + 0) + 0) ≤ n + 4300; omega)
      · skip
        first | exact absurd rfl bq3 | (exfalso; omega)
  · skip
    first | exact absurd rfl bq1 | (exfalso; omega)
set_option maxHeartbeats 4000000 in
set_option maxRecDepth 100000 in
theorem lc_12 {γ : gT} {g : GT} {ar N : Nat} {a : Nat → Int} {G : Mem} {k n : Nat} {Y A i : Int} (hA : ArgI γ g ar N a) (hI : LawI G Y A) (hy : 0 ≤ Y ∧ Y ≤ 900000 ∧ 0 ≤ A ∧ A ≤ 900000000) (hi : 0 ≤ i ∧ i + 3 ≤ (N : Int)) (hN : N ≤ 1536) (hkk : k ≤ 580000) (hnn : n ≤ 7000000)
    (kk : ∀ (G2 : Mem) (k2 n2 : Nat), LawI G2 (Y + 1200) (A + 6000) → k2 ≤ k + 25 → n2 ≤ n + 4300 → V γ g cL_law 9 RL room_1 G2 k2 n2 2167 [some (.ref ar), some (vR g 0), some (vR g 106), some (vR g 119), some (vR g 120), some (vI i), none, none, none] []) : V γ g cL_law 9 RL room_1 G k n 905 [some (.ref ar), some (vR g 0), some (vR g 106), some (vR g 119), some (vR g 120), some (vI i), none, none, none] [] := by
  refine v_aload_n (pc := 905) rfl dL_law_905 ?_
  refine v_aload_n (pc := 906) rfl dL_law_906 ?_
  refine v_iload (pc := 907) rfl dL_law_907 ?_
  refine v_iconst (pc := 909) (z := 1) dL_law_909 ?_
  refine v_iadd (pc := 910) dL_law_910 ?_
  refine v_aarg (pc := 911) hA (by omega) (by omega) dL_law_911 ?_
  obtain ⟨x1, hx1, rx1⟩ : ∃ y : Int, y = a (i + 1).toNat ∧ -2147483648 ≤ y ∧ y < 2147483648 := ⟨_, rfl, hA.2 _⟩
  refine v_stk (st' := [vI x1, vR g 0]) (by rw [hx1]; first | done | rfl) ?_
  refine v_aload_n (pc := 912) rfl dL_law_912 ?_
  refine v_callSH (pc := 913) (rest := []) (c_L_dieByWear (G := G) hI.1.1 (by omega)) sok_L_dieByWear wM_L_164 ⟨Nat.le_of_ble_eq_true rfl, Nat.le_of_ble_eq_true rfl⟩ ⟨by show k + 1 ≤ 603072; omega, by show n + 6 ≤ 7219306; omega⟩ (Nat.le_of_ble_eq_true rfl) rfl dL_law_913 (fun v G1 h1 => ?_) (fun _ _ h => h.elim)
  obtain ⟨⟨c0, hc0⟩, hk9⟩ := kp_dieByWear hI h1
  subst hc0
  have hm := LawM hI hk9
  refine v_stk (st' := [vI c0]) rfl ?_
  refine v_istore (pc := 916) (by decide) rfl dL_law_916 ?_
  refine v_aload_n (pc := 918) rfl dL_law_918 ?_
  refine v_aload_n (pc := 919) rfl dL_law_919 ?_
  refine v_iload (pc := 920) rfl dL_law_920 ?_
  refine v_iconst (pc := 922) (z := 1) dL_law_922 ?_
  refine v_iadd (pc := 923) dL_law_923 ?_
  refine v_aarg (pc := 924) hA (by omega) (by omega) dL_law_924 ?_
  refine v_stk (st' := [vI x1, vR g 106]) (by rw [hx1]; first | done | rfl) ?_
  refine v_callV (pc := 925) (rest := []) (c_X4_dieByWear (G := G1) hm.1 (by omega)) iok_X4_dieByWear wM_L_166 rfl (by decide) (by decide) rfl ⟨Nat.le_of_ble_eq_true rfl, Nat.le_of_ble_eq_true rfl⟩ ⟨by show (k + 1) + 0 ≤ 603072; omega, by show (n + 6) + 0 ≤ 7219306; omega⟩ (Nat.le_of_ble_eq_true rfl) rfl dL_law_925 (fun w G2 h2 => ?_) (fun _ _ h => h.elim)
  obtain ⟨c, r, hc1, hw1, hcr, hrr, h8, h119, hL2⟩ := op_dieByWear (by omega) hI h1 h2
  subst hw1
  refine v_stk (st' := [vI r]) rfl ?_
  refine v_loc (L' := [some (.ref ar), some (vR g 0), some (vR g 106), some (vR g 119), some (vR g 120), some (vI i), some (vI c), none, none]) ⟨rfl, rfl, rfl, rfl, rfl, rfl, hc1, trivial⟩ ?_
  refine v_istore (pc := 928) (by decide) rfl dL_law_928 ?_
  refine v_aload_n (pc := 930) rfl dL_law_930 ?_
  refine v_callV (pc := 931) (rest := []) (c_X4_thrown (G := G2)) iok_X4_thrown wM_L_126 rfl (by decide) (by decide) rfl ⟨Nat.le_of_ble_eq_true rfl, Nat.le_of_ble_eq_true rfl⟩ ⟨by show ((k + 1) + 0) + 0 ≤ 603072; omega, by show ((n + 6) + 0) + 0 ≤ 7219306; omega⟩ (Nat.le_of_ble_eq_true rfl) rfl dL_law_931 (fun u G3 h3 => ?_) (fun _ _ h => h.elim)
  obtain ⟨rfl, hG9⟩ := h3
  rw [hG9]
  refine v_stk (st' := [vI c]) (by rw [← h8]; rfl) ?_
  refine v_iload (pc := 934) rfl dL_law_934 ?_
  refine v_icmp_eq (pc := 936) (tgt := 941) (by omega) dL_law_936 (by decide) (fun bq1 => ?_) (fun bq1 => ?_)
  · skip
    refine v_iload (pc := 941) rfl dL_law_941 ?_
    refine v_if_ne (pc := 943) (tgt := 958) (by omega) dL_law_943 (by decide) (fun bq2 => ?_) (fun bq2 => ?_)
    · skip
      refine v_goto (pc := 958) (tgt := 2167) dL_law_958 (by decide) ?_
      refine v_loc (L' := [some (.ref ar), some (vR g 0), some (vR g 106), some (vR g 119), some (vR g 120), some (vI i), none, none, none]) ⟨rfl, rfl, rfl, rfl, rfl, rfl, trivial⟩ ?_
      exact kk G2 _ _ (LawI_up hL2 (by omega) (by omega)) (by show (((k + 1) + 0) + 0) ≤ k + 25; omega) (by show (((n + 6) + 0) + 0) ≤ n + 4300; omega)
    · skip
      refine v_aload_n (pc := 946) rfl dL_law_946 ?_
      refine v_iconst (pc := 947) (z := 0) dL_law_947 ?_
      refine v_lald (pc := 948) (N := 1) rfl rfl (by decide) (by omega) (by decide) dL_law_948 ?_
      refine v_stk (st' := [vJ r]) (by rw [h119 (by omega)]; first | done | rfl) ?_
      refine v_iload (pc := 949) rfl dL_law_949 ?_
      refine v_i2l (pc := 951) (by omega) dL_law_951 ?_
      refine v_lc_eq (pc := 952) (tgt := 958) (by omega) (by omega) dL_law_952 dL_law_953 (by decide) (fun bq3 => ?_) (fun bq3 => ?_)
      · skip
        refine v_goto (pc := 958) (tgt := 2167) dL_law_958 (by decide) ?_
        refine v_loc (L' := [some (.ref ar), some (vR g 0), some (vR g 106), some (vR g 119), some (vR g 120), some (vI i), none, none, none]) ⟨rfl, rfl, rfl, rfl, rfl, rfl, trivial⟩ ?_
        exact kk G2 _ _ (LawI_up hL2 (by omega) (by omega)) (by show (((k + 1) + 0) + 0) ≤ k + 25; omega) (by show (((n + 6) + 0) + 0) ≤ n + 4300; omega)
      · skip
        first | exact absurd rfl bq3 | (exfalso; omega)
  · skip
    first | exact absurd rfl bq1 | (exfalso; omega)
set_option maxHeartbeats 4000000 in
set_option maxRecDepth 100000 in
theorem lc_13 {γ : gT} {g : GT} {ar N : Nat} {a : Nat → Int} {G : Mem} {k n : Nat} {Y A i : Int} (hA : ArgI γ g ar N a) (hI : LawI G Y A) (hy : 0 ≤ Y ∧ Y ≤ 900000 ∧ 0 ≤ A ∧ A ≤ 900000000) (hi : 0 ≤ i ∧ i + 3 ≤ (N : Int)) (hN : N ≤ 1536) (hkk : k ≤ 580000) (hnn : n ≤ 7000000)
    (kk : ∀ (G2 : Mem) (k2 n2 : Nat), LawI G2 (Y + 1200) (A + 6000) → k2 ≤ k + 25 → n2 ≤ n + 4300 → V γ g cL_law 9 RL room_1 G2 k2 n2 2167 [some (.ref ar), some (vR g 0), some (vR g 106), some (vR g 119), some (vR g 120), some (vI i), none, none, none] []) : V γ g cL_law 9 RL room_1 G k n 961 [some (.ref ar), some (vR g 0), some (vR g 106), some (vR g 119), some (vR g 120), some (vI i), none, none, none] [] := by
  refine v_aload_n (pc := 961) rfl dL_law_961 ?_
  refine v_callV (pc := 962) (rest := []) (c_X3_leaves (G := G) ) iok_X3_leaves wM_L_167 rfl (by decide) (by decide) rfl ⟨Nat.le_of_ble_eq_true rfl, Nat.le_of_ble_eq_true rfl⟩ ⟨by show k + 0 ≤ 603072; omega, by show n + 0 ≤ 7219306; omega⟩ (Nat.le_of_ble_eq_true rfl) rfl dL_law_962 (fun v G1 h1 => ?_) (fun _ _ h => h.elim)
  obtain ⟨x0, hx0⟩ : ∃ x, v = some (vI x) := ⟨_, h1.1⟩
  have hk9 : KP9 G G1 := KP9_e h1.2
  subst hx0
  have hm := LawM hI hk9
  refine v_stk (st' := [vI x0]) rfl ?_
  refine v_aload_n (pc := 965) rfl dL_law_965 ?_
  refine v_callV (pc := 966) (rest := [vI x0]) (c_X4_leaves (G := G1) ) iok_X4_leaves wM_L_170 rfl (by decide) (by decide) rfl ⟨Nat.le_of_ble_eq_true rfl, Nat.le_of_ble_eq_true rfl⟩ ⟨by show (k + 0) + 0 ≤ 603072; omega, by show (n + 0) + 0 ≤ 7219306; omega⟩ (Nat.le_of_ble_eq_true rfl) rfl dL_law_966 (fun w G2 h2 => ?_) (fun _ _ h => h.elim)
  obtain ⟨r, hv1, hw1, hrr, hL2⟩ := op_leaves hI h1 h2
  subst hw1
  have hc2 : vI x0 = vI r := Option.some.inj hv1
  refine v_stk (st' := [vI r, vI r]) (by rw [← hc2]; rfl) ?_
  refine v_icmp_eq (pc := 969) (tgt := 2167) (by omega) dL_law_969 (by decide) (fun bq1 => ?_) (fun bq1 => ?_)
  · skip
    refine v_loc (L' := [some (.ref ar), some (vR g 0), some (vR g 106), some (vR g 119), some (vR g 120), some (vI i), none, none, none]) ⟨rfl, rfl, rfl, rfl, rfl, rfl, trivial⟩ ?_
    exact kk G2 _ _ (LawI_up hL2 (by omega) (by omega)) (by show ((k + 0) + 0) ≤ k + 25; omega) (by show ((n + 0) + 0) ≤ n + 4300; omega)
  · skip
    exact absurd rfl bq1
set_option maxHeartbeats 4000000 in
set_option maxRecDepth 100000 in
theorem lc_14 {γ : gT} {g : GT} {ar N : Nat} {a : Nat → Int} {G : Mem} {k n : Nat} {Y A i : Int} (hA : ArgI γ g ar N a) (hI : LawI G Y A) (hy : 0 ≤ Y ∧ Y ≤ 900000 ∧ 0 ≤ A ∧ A ≤ 900000000) (hi : 0 ≤ i ∧ i + 3 ≤ (N : Int)) (hN : N ≤ 1536) (hkk : k ≤ 580000) (hnn : n ≤ 7000000)
    (kk : ∀ (G2 : Mem) (k2 n2 : Nat), LawI G2 (Y + 1200) (A + 6000) → k2 ≤ k + 25 → n2 ≤ n + 4300 → V γ g cL_law 9 RL room_1 G2 k2 n2 2167 [some (.ref ar), some (vR g 0), some (vR g 106), some (vR g 119), some (vR g 120), some (vI i), none, none, none] []) : V γ g cL_law 9 RL room_1 G k n 974 [some (.ref ar), some (vR g 0), some (vR g 106), some (vR g 119), some (vR g 120), some (vI i), none, none, none] [] := by
  refine v_aload_n (pc := 974) rfl dL_law_974 ?_
  refine v_callV (pc := 975) (rest := []) (c_X3_year (G := G) ) iok_X3_year wM_L_171 rfl (by decide) (by decide) rfl ⟨Nat.le_of_ble_eq_true rfl, Nat.le_of_ble_eq_true rfl⟩ ⟨by show k + 0 ≤ 603072; omega, by show n + 0 ≤ 7219306; omega⟩ (Nat.le_of_ble_eq_true rfl) rfl dL_law_975 (fun v G1 h1 => ?_) (fun _ _ h => h.elim)
  obtain ⟨x0, hx0⟩ : ∃ x, v = some (vI x) := ⟨_, h1.1⟩
  have hk9 : KP9 G G1 := KP9_e h1.2
  subst hx0
  have hm := LawM hI hk9
  refine v_stk (st' := [vI x0]) rfl ?_
  refine v_aload_n (pc := 978) rfl dL_law_978 ?_
  refine v_callV (pc := 979) (rest := [vI x0]) (c_X4_year (G := G1) ) iok_X4_year wM_L_174 rfl (by decide) (by decide) rfl ⟨Nat.le_of_ble_eq_true rfl, Nat.le_of_ble_eq_true rfl⟩ ⟨by show (k + 0) + 0 ≤ 603072; omega, by show (n + 0) + 0 ≤ 7219306; omega⟩ (Nat.le_of_ble_eq_true rfl) rfl dL_law_979 (fun w G2 h2 => ?_) (fun _ _ h => h.elim)
  obtain ⟨r, hv1, hw1, hrr, hL2⟩ := op_year hI h1 h2
  subst hw1
  have hc2 : vI x0 = vI r := Option.some.inj hv1
  refine v_stk (st' := [vI r, vI r]) (by rw [← hc2]; rfl) ?_
  refine v_icmp_eq (pc := 982) (tgt := 2167) (by omega) dL_law_982 (by decide) (fun bq1 => ?_) (fun bq1 => ?_)
  · skip
    refine v_loc (L' := [some (.ref ar), some (vR g 0), some (vR g 106), some (vR g 119), some (vR g 120), some (vI i), none, none, none]) ⟨rfl, rfl, rfl, rfl, rfl, rfl, trivial⟩ ?_
    exact kk G2 _ _ (LawI_up hL2 (by omega) (by omega)) (by show ((k + 0) + 0) ≤ k + 25; omega) (by show ((n + 0) + 0) ≤ n + 4300; omega)
  · skip
    exact absurd rfl bq1
set_option maxHeartbeats 4000000 in
set_option maxRecDepth 100000 in
theorem lc_15 {γ : gT} {g : GT} {ar N : Nat} {a : Nat → Int} {G : Mem} {k n : Nat} {Y A i : Int} (hA : ArgI γ g ar N a) (hI : LawI G Y A) (hy : 0 ≤ Y ∧ Y ≤ 900000 ∧ 0 ≤ A ∧ A ≤ 900000000) (hi : 0 ≤ i ∧ i + 3 ≤ (N : Int)) (hN : N ≤ 1536) (hkk : k ≤ 580000) (hnn : n ≤ 7000000)
    (kk : ∀ (G2 : Mem) (k2 n2 : Nat), LawI G2 (Y + 1200) (A + 6000) → k2 ≤ k + 25 → n2 ≤ n + 4300 → V γ g cL_law 9 RL room_1 G2 k2 n2 2167 [some (.ref ar), some (vR g 0), some (vR g 106), some (vR g 119), some (vR g 120), some (vI i), none, none, none] []) : V γ g cL_law 9 RL room_1 G k n 987 [some (.ref ar), some (vR g 0), some (vR g 106), some (vR g 119), some (vR g 120), some (vI i), none, none, none] [] := by
  refine v_aload_n (pc := 987) rfl dL_law_987 ?_
  refine v_callV (pc := 988) (rest := []) (c_X3_vaultCoins (G := G) ) iok_X3_vaultCoins wM_L_175 rfl (by decide) (by decide) rfl ⟨Nat.le_of_ble_eq_true rfl, Nat.le_of_ble_eq_true rfl⟩ ⟨by show k + 0 ≤ 603072; omega, by show n + 0 ≤ 7219306; omega⟩ (Nat.le_of_ble_eq_true rfl) rfl dL_law_988 (fun v G1 h1 => ?_) (fun _ _ h => h.elim)
  obtain ⟨x0, hx0⟩ : ∃ x, v = some (vI x) := ⟨_, h1.1⟩
  have hk9 : KP9 G G1 := KP9_e h1.2
  subst hx0
  have hm := LawM hI hk9
  refine v_stk (st' := [vI x0]) rfl ?_
  refine v_aload_n (pc := 991) rfl dL_law_991 ?_
  refine v_callV (pc := 992) (rest := [vI x0]) (c_X4_vaultCoins (G := G1) ) iok_X4_vaultCoins wM_L_178 rfl (by decide) (by decide) rfl ⟨Nat.le_of_ble_eq_true rfl, Nat.le_of_ble_eq_true rfl⟩ ⟨by show (k + 0) + 0 ≤ 603072; omega, by show (n + 0) + 0 ≤ 7219306; omega⟩ (Nat.le_of_ble_eq_true rfl) rfl dL_law_992 (fun w G2 h2 => ?_) (fun _ _ h => h.elim)
  obtain ⟨r, hv1, hw1, hrr, hL2⟩ := op_vaultCoins hI h1 h2
  subst hw1
  have hc2 : vI x0 = vI r := Option.some.inj hv1
  refine v_stk (st' := [vI r, vI r]) (by rw [← hc2]; rfl) ?_
  refine v_icmp_eq (pc := 995) (tgt := 2167) (by omega) dL_law_995 (by decide) (fun bq1 => ?_) (fun bq1 => ?_)
  · skip
    refine v_loc (L' := [some (.ref ar), some (vR g 0), some (vR g 106), some (vR g 119), some (vR g 120), some (vI i), none, none, none]) ⟨rfl, rfl, rfl, rfl, rfl, rfl, trivial⟩ ?_
    exact kk G2 _ _ (LawI_up hL2 (by omega) (by omega)) (by show ((k + 0) + 0) ≤ k + 25; omega) (by show ((n + 0) + 0) ≤ n + 4300; omega)
  · skip
    exact absurd rfl bq1
set_option maxHeartbeats 4000000 in
set_option maxRecDepth 100000 in
theorem lc_16 {γ : gT} {g : GT} {ar N : Nat} {a : Nat → Int} {G : Mem} {k n : Nat} {Y A i : Int} (hA : ArgI γ g ar N a) (hI : LawI G Y A) (hy : 0 ≤ Y ∧ Y ≤ 900000 ∧ 0 ≤ A ∧ A ≤ 900000000) (hi : 0 ≤ i ∧ i + 3 ≤ (N : Int)) (hN : N ≤ 1536) (hkk : k ≤ 580000) (hnn : n ≤ 7000000)
    (kk : ∀ (G2 : Mem) (k2 n2 : Nat), LawI G2 (Y + 1200) (A + 6000) → k2 ≤ k + 25 → n2 ≤ n + 4300 → V γ g cL_law 9 RL room_1 G2 k2 n2 2167 [some (.ref ar), some (vR g 0), some (vR g 106), some (vR g 119), some (vR g 120), some (vI i), none, none, none] []) : V γ g cL_law 9 RL room_1 G k n 1000 [some (.ref ar), some (vR g 0), some (vR g 106), some (vR g 119), some (vR g 120), some (vI i), none, none, none] [] := by
  refine v_aload_n (pc := 1000) rfl dL_law_1000 ?_
  refine v_callV (pc := 1001) (rest := []) (c_X3_vaultValue (G := G) hI.1.1) iok_X3_vaultValue wM_L_179 rfl (by decide) (by decide) rfl ⟨Nat.le_of_ble_eq_true rfl, Nat.le_of_ble_eq_true rfl⟩ ⟨by show k + 0 ≤ 603072; omega, by show n + 0 ≤ 7219306; omega⟩ (Nat.le_of_ble_eq_true rfl) rfl dL_law_1001 (fun v G1 h1 => ?_) (fun _ _ h => h.elim)
  obtain ⟨x0, hx0⟩ : ∃ x, v = some (vI x) := ⟨_, h1.1⟩
  have hk9 : KP9 G G1 := KP9_e h1.2
  subst hx0
  have hm := LawM hI hk9
  refine v_stk (st' := [vI x0]) rfl ?_
  refine v_aload_n (pc := 1004) rfl dL_law_1004 ?_
  refine v_callV (pc := 1005) (rest := [vI x0]) (c_X4_vaultValue (G := G1) hm.1) iok_X4_vaultValue wM_L_182 rfl (by decide) (by decide) rfl ⟨Nat.le_of_ble_eq_true rfl, Nat.le_of_ble_eq_true rfl⟩ ⟨by show (k + 0) + 0 ≤ 603072; omega, by show (n + 0) + 0 ≤ 7219306; omega⟩ (Nat.le_of_ble_eq_true rfl) rfl dL_law_1005 (fun w G2 h2 => ?_) (fun _ _ h => h.elim)
  obtain ⟨r, hv1, hw1, hrr, hL2⟩ := op_vaultValue hI h1 h2
  subst hw1
  have hc2 : vI x0 = vI r := Option.some.inj hv1
  refine v_stk (st' := [vI r, vI r]) (by rw [← hc2]; rfl) ?_
  refine v_icmp_eq (pc := 1008) (tgt := 2167) (by omega) dL_law_1008 (by decide) (fun bq1 => ?_) (fun bq1 => ?_)
  · skip
    refine v_loc (L' := [some (.ref ar), some (vR g 0), some (vR g 106), some (vR g 119), some (vR g 120), some (vI i), none, none, none]) ⟨rfl, rfl, rfl, rfl, rfl, rfl, trivial⟩ ?_
    exact kk G2 _ _ (LawI_up hL2 (by omega) (by omega)) (by show ((k + 0) + 0) ≤ k + 25; omega) (by show ((n + 0) + 0) ≤ n + 4300; omega)
  · skip
    exact absurd rfl bq1
set_option maxHeartbeats 4000000 in
set_option maxRecDepth 100000 in
theorem lc_17 {γ : gT} {g : GT} {ar N : Nat} {a : Nat → Int} {G : Mem} {k n : Nat} {Y A i : Int} (hA : ArgI γ g ar N a) (hI : LawI G Y A) (hy : 0 ≤ Y ∧ Y ≤ 900000 ∧ 0 ≤ A ∧ A ≤ 900000000) (hi : 0 ≤ i ∧ i + 3 ≤ (N : Int)) (hN : N ≤ 1536) (hkk : k ≤ 580000) (hnn : n ≤ 7000000)
    (kk : ∀ (G2 : Mem) (k2 n2 : Nat), LawI G2 (Y + 1200) (A + 6000) → k2 ≤ k + 25 → n2 ≤ n + 4300 → V γ g cL_law 9 RL room_1 G2 k2 n2 2167 [some (.ref ar), some (vR g 0), some (vR g 106), some (vR g 119), some (vR g 120), some (vI i), none, none, none] []) : V γ g cL_law 9 RL room_1 G k n 1013 [some (.ref ar), some (vR g 0), some (vR g 106), some (vR g 119), some (vR g 120), some (vI i), none, none, none] [] := by
  refine v_aload_n (pc := 1013) rfl dL_law_1013 ?_
  refine v_callV (pc := 1014) (rest := []) (c_X3_vaultValueByDies (G := G) hI.1.1) iok_X3_vaultValueByDies wM_L_183 rfl (by decide) (by decide) rfl ⟨Nat.le_of_ble_eq_true rfl, Nat.le_of_ble_eq_true rfl⟩ ⟨by show k + 0 ≤ 603072; omega, by show n + 0 ≤ 7219306; omega⟩ (Nat.le_of_ble_eq_true rfl) rfl dL_law_1014 (fun v G1 h1 => ?_) (fun _ _ h => h.elim)
  obtain ⟨x0, hx0⟩ : ∃ x, v = some (vI x) := ⟨_, h1.1⟩
  have hk9 : KP9 G G1 := KP9_e h1.2
  subst hx0
  have hm := LawM hI hk9
  refine v_stk (st' := [vI x0]) rfl ?_
  refine v_aload_n (pc := 1017) rfl dL_law_1017 ?_
  refine v_callV (pc := 1018) (rest := [vI x0]) (c_X4_vaultValueByDies (G := G1) hm.1) iok_X4_vaultValueByDies wM_L_186 rfl (by decide) (by decide) rfl ⟨Nat.le_of_ble_eq_true rfl, Nat.le_of_ble_eq_true rfl⟩ ⟨by show (k + 0) + 0 ≤ 603072; omega, by show (n + 0) + 0 ≤ 7219306; omega⟩ (Nat.le_of_ble_eq_true rfl) rfl dL_law_1018 (fun w G2 h2 => ?_) (fun _ _ h => h.elim)
  obtain ⟨r, hv1, hw1, hrr, hL2⟩ := op_vaultValueByDies hI h1 h2
  subst hw1
  have hc2 : vI x0 = vI r := Option.some.inj hv1
  refine v_stk (st' := [vI r, vI r]) (by rw [← hc2]; rfl) ?_
  refine v_icmp_eq (pc := 1021) (tgt := 2167) (by omega) dL_law_1021 (by decide) (fun bq1 => ?_) (fun bq1 => ?_)
  · skip
    refine v_loc (L' := [some (.ref ar), some (vR g 0), some (vR g 106), some (vR g 119), some (vR g 120), some (vI i), none, none, none]) ⟨rfl, rfl, rfl, rfl, rfl, rfl, trivial⟩ ?_
    exact kk G2 _ _ (LawI_up hL2 (by omega) (by omega)) (by show ((k + 0) + 0) ≤ k + 25; omega) (by show ((n + 0) + 0) ≤ n + 4300; omega)
  · skip
    exact absurd rfl bq1
set_option maxHeartbeats 4000000 in
set_option maxRecDepth 100000 in
theorem lc_18 {γ : gT} {g : GT} {ar N : Nat} {a : Nat → Int} {G : Mem} {k n : Nat} {Y A i : Int} (hA : ArgI γ g ar N a) (hI : LawI G Y A) (hy : 0 ≤ Y ∧ Y ≤ 900000 ∧ 0 ≤ A ∧ A ≤ 900000000) (hi : 0 ≤ i ∧ i + 3 ≤ (N : Int)) (hN : N ≤ 1536) (hkk : k ≤ 580000) (hnn : n ≤ 7000000)
    (kk : ∀ (G2 : Mem) (k2 n2 : Nat), LawI G2 (Y + 1200) (A + 6000) → k2 ≤ k + 25 → n2 ≤ n + 4300 → V γ g cL_law 9 RL room_1 G2 k2 n2 2167 [some (.ref ar), some (vR g 0), some (vR g 106), some (vR g 119), some (vR g 120), some (vI i), none, none, none] []) : V γ g cL_law 9 RL room_1 G k n 1026 [some (.ref ar), some (vR g 0), some (vR g 106), some (vR g 119), some (vR g 120), some (vI i), none, none, none] [] := by
  refine v_aload_n (pc := 1026) rfl dL_law_1026 ?_
  refine v_callV (pc := 1027) (rest := []) (c_X3_vaultWeight (G := G) hI.1.1) iok_X3_vaultWeight wM_L_187 rfl (by decide) (by decide) rfl ⟨Nat.le_of_ble_eq_true rfl, Nat.le_of_ble_eq_true rfl⟩ ⟨by show k + 0 ≤ 603072; omega, by show n + 0 ≤ 7219306; omega⟩ (Nat.le_of_ble_eq_true rfl) rfl dL_law_1027 (fun v G1 h1 => ?_) (fun _ _ h => h.elim)
  obtain ⟨x0, hx0⟩ : ∃ x, v = some (vI x) := ⟨_, h1.1⟩
  have hk9 : KP9 G G1 := KP9_e h1.2
  subst hx0
  have hm := LawM hI hk9
  refine v_stk (st' := [vI x0]) rfl ?_
  refine v_aload_n (pc := 1030) rfl dL_law_1030 ?_
  refine v_callV (pc := 1031) (rest := [vI x0]) (c_X4_vaultWeight (G := G1) hm.1) iok_X4_vaultWeight wM_L_190 rfl (by decide) (by decide) rfl ⟨Nat.le_of_ble_eq_true rfl, Nat.le_of_ble_eq_true rfl⟩ ⟨by show (k + 0) + 0 ≤ 603072; omega, by show (n + 0) + 0 ≤ 7219306; omega⟩ (Nat.le_of_ble_eq_true rfl) rfl dL_law_1031 (fun w G2 h2 => ?_) (fun _ _ h => h.elim)
  obtain ⟨r, hv1, hw1, hrr, hL2⟩ := op_vaultWeight hI h1 h2
  subst hw1
  have hc2 : vI x0 = vI r := Option.some.inj hv1
  refine v_stk (st' := [vI r, vI r]) (by rw [← hc2]; rfl) ?_
  refine v_icmp_eq (pc := 1034) (tgt := 2167) (by omega) dL_law_1034 (by decide) (fun bq1 => ?_) (fun bq1 => ?_)
  · skip
    refine v_loc (L' := [some (.ref ar), some (vR g 0), some (vR g 106), some (vR g 119), some (vR g 120), some (vI i), none, none, none]) ⟨rfl, rfl, rfl, rfl, rfl, rfl, trivial⟩ ?_
    exact kk G2 _ _ (LawI_up hL2 (by omega) (by omega)) (by show ((k + 0) + 0) ≤ k + 25; omega) (by show ((n + 0) + 0) ≤ n + 4300; omega)
  · skip
    exact absurd rfl bq1
set_option maxHeartbeats 4000000 in
set_option maxRecDepth 100000 in
theorem lc_19 {γ : gT} {g : GT} {ar N : Nat} {a : Nat → Int} {G : Mem} {k n : Nat} {Y A i : Int} (hA : ArgI γ g ar N a) (hI : LawI G Y A) (hy : 0 ≤ Y ∧ Y ≤ 900000 ∧ 0 ≤ A ∧ A ≤ 900000000) (hi : 0 ≤ i ∧ i + 3 ≤ (N : Int)) (hN : N ≤ 1536) (hkk : k ≤ 580000) (hnn : n ≤ 7000000)
    (kk : ∀ (G2 : Mem) (k2 n2 : Nat), LawI G2 (Y + 1200) (A + 6000) → k2 ≤ k + 25 → n2 ≤ n + 4300 → V γ g cL_law 9 RL room_1 G2 k2 n2 2167 [some (.ref ar), some (vR g 0), some (vR g 106), some (vR g 119), some (vR g 120), some (vI i), none, none, none] []) : V γ g cL_law 9 RL room_1 G k n 1039 [some (.ref ar), some (vR g 0), some (vR g 106), some (vR g 119), some (vR g 120), some (vI i), none, none, none] [] := by
  refine v_aload_n (pc := 1039) rfl dL_law_1039 ?_
  refine v_aload_n (pc := 1040) rfl dL_law_1040 ?_
  refine v_iload (pc := 1041) rfl dL_law_1041 ?_
  refine v_iconst (pc := 1043) (z := 1) dL_law_1043 ?_
  refine v_iadd (pc := 1044) dL_law_1044 ?_
  refine v_aarg (pc := 1045) hA (by omega) (by omega) dL_law_1045 ?_
  obtain ⟨x1, hx1, rx1⟩ : ∃ y : Int, y = a (i + 1).toNat ∧ -2147483648 ≤ y ∧ y < 2147483648 := ⟨_, rfl, hA.2 _⟩
  refine v_stk (st' := [vI x1, vR g 0]) (by rw [hx1]; first | done | rfl) ?_
  refine v_aload_n (pc := 1046) rfl dL_law_1046 ?_
  refine v_callSH (pc := 1047) (rest := []) (c_L_coinsOfValue (G := G) hI.1.1 (by omega)) sok_L_coinsOfValue wM_L_191 ⟨Nat.le_of_ble_eq_true rfl, Nat.le_of_ble_eq_true rfl⟩ ⟨by show k + 1 ≤ 603072; omega, by show n + 6 ≤ 7219306; omega⟩ (Nat.le_of_ble_eq_true rfl) rfl dL_law_1047 (fun v G1 h1 => ?_) (fun _ _ h => h.elim)
  obtain ⟨⟨c0, hc0⟩, hk9⟩ := kp_coinsOfValue hI h1
  subst hc0
  have hm := LawM hI hk9
  refine v_stk (st' := [vI c0]) rfl ?_
  refine v_istore (pc := 1050) (by decide) rfl dL_law_1050 ?_
  refine v_aload_n (pc := 1052) rfl dL_law_1052 ?_
  refine v_aload_n (pc := 1053) rfl dL_law_1053 ?_
  refine v_iload (pc := 1054) rfl dL_law_1054 ?_
  refine v_iconst (pc := 1056) (z := 1) dL_law_1056 ?_
  refine v_iadd (pc := 1057) dL_law_1057 ?_
  refine v_aarg (pc := 1058) hA (by omega) (by omega) dL_law_1058 ?_
  refine v_stk (st' := [vI x1, vR g 106]) (by rw [hx1]; first | done | rfl) ?_
  refine v_callV (pc := 1059) (rest := []) (c_X4_coinsOfValue (G := G1) hm.1 (by omega)) iok_X4_coinsOfValue wM_L_193 rfl (by decide) (by decide) rfl ⟨Nat.le_of_ble_eq_true rfl, Nat.le_of_ble_eq_true rfl⟩ ⟨by show (k + 1) + 0 ≤ 603072; omega, by show (n + 6) + 0 ≤ 7219306; omega⟩ (Nat.le_of_ble_eq_true rfl) rfl dL_law_1059 (fun w G2 h2 => ?_) (fun _ _ h => h.elim)
  obtain ⟨c, r, hc1, hw1, hcr, hrr, h8, h119, hL2⟩ := op_coinsOfValue (by omega) hI h1 h2
  subst hw1
  refine v_stk (st' := [vI r]) rfl ?_
  refine v_loc (L' := [some (.ref ar), some (vR g 0), some (vR g 106), some (vR g 119), some (vR g 120), some (vI i), some (vI c), none, none]) ⟨rfl, rfl, rfl, rfl, rfl, rfl, hc1, trivial⟩ ?_
  refine v_istore (pc := 1062) (by decide) rfl dL_law_1062 ?_
  refine v_aload_n (pc := 1064) rfl dL_law_1064 ?_
  refine v_callV (pc := 1065) (rest := []) (c_X4_thrown (G := G2)) iok_X4_thrown wM_L_126 rfl (by decide) (by decide) rfl ⟨Nat.le_of_ble_eq_true rfl, Nat.le_of_ble_eq_true rfl⟩ ⟨by show ((k + 1) + 0) + 0 ≤ 603072; omega, by show ((n + 6) + 0) + 0 ≤ 7219306; omega⟩ (Nat.le_of_ble_eq_true rfl) rfl dL_law_1065 (fun u G3 h3 => ?_) (fun _ _ h => h.elim)
  obtain ⟨rfl, hG9⟩ := h3
  rw [hG9]
  refine v_stk (st' := [vI c]) (by rw [← h8]; rfl) ?_
  refine v_iload (pc := 1068) rfl dL_law_1068 ?_
  refine v_icmp_eq (pc := 1070) (tgt := 1075) (by omega) dL_law_1070 (by decide) (fun bq1 => ?_) (fun bq1 => ?_)
  · skip
    refine v_iload (pc := 1075) rfl dL_law_1075 ?_
    refine v_if_ne (pc := 1077) (tgt := 1092) (by omega) dL_law_1077 (by decide) (fun bq2 => ?_) (fun bq2 => ?_)
    · skip
      refine v_goto (pc := 1092) (tgt := 2167) dL_law_1092 (by decide) ?_
      refine v_loc (L' := [some (.ref ar), some (vR g 0), some (vR g 106), some (vR g 119), some (vR g 120), some (vI i), none, none, none]) ⟨rfl, rfl, rfl, rfl, rfl, rfl, trivial⟩ ?_
      exact kk G2 _ _ (LawI_up hL2 (by omega) (by omega)) (by show (((k + 1) + 0) + 0) ≤ k + 25; omega) (by show (((n + 6) + 0) + 0) ≤ n + 4300; omega)
    · skip
      refine v_aload_n (pc := 1080) rfl dL_law_1080 ?_
      refine v_iconst (pc := 1081) (z := 0) dL_law_1081 ?_
      refine v_lald (pc := 1082) (N := 1) rfl rfl (by decide) (by omega) (by decide) dL_law_1082 ?_
      refine v_stk (st' := [vJ r]) (by rw [h119 (by omega)]; first | done | rfl) ?_
      refine v_iload (pc := 1083) rfl dL_law_1083 ?_
      refine v_i2l (pc := 1085) (by omega) dL_law_1085 ?_
      refine v_lc_eq (pc := 1086) (tgt := 1092) (by omega) (by omega) dL_law_1086 dL_law_1087 (by decide) (fun bq3 => ?_) (fun bq3 => ?_)
      · skip
        refine v_goto (pc := 1092) (tgt := 2167) dL_law_1092 (by decide) ?_
        refine v_loc (L' := [some (.ref ar), some (vR g 0), some (vR g 106), some (vR g 119), some (vR g 120), some (vI i), none, none, none]) ⟨rfl, rfl, rfl, rfl, rfl, rfl, trivial⟩ ?_
        exact kk G2 _ _ (LawI_up hL2 (by omega) (by omega)) (by show (((k + 1) + 0) + 0) ≤ k + 25; omega) (by show (((n + 6) + 0) + 0) ≤ n + 4300; omega)
      · skip
        first | exact absurd rfl bq3 | (exfalso; omega)
  · skip
    first | exact absurd rfl bq1 | (exfalso; omega)
set_option maxHeartbeats 4000000 in
set_option maxRecDepth 100000 in
theorem lc_20 {γ : gT} {g : GT} {ar N : Nat} {a : Nat → Int} {G : Mem} {k n : Nat} {Y A i : Int} (hA : ArgI γ g ar N a) (hI : LawI G Y A) (hy : 0 ≤ Y ∧ Y ≤ 900000 ∧ 0 ≤ A ∧ A ≤ 900000000) (hi : 0 ≤ i ∧ i + 3 ≤ (N : Int)) (hN : N ≤ 1536) (hkk : k ≤ 580000) (hnn : n ≤ 7000000)
    (kk : ∀ (G2 : Mem) (k2 n2 : Nat), LawI G2 (Y + 1200) (A + 6000) → k2 ≤ k + 25 → n2 ≤ n + 4300 → V γ g cL_law 9 RL room_1 G2 k2 n2 2167 [some (.ref ar), some (vR g 0), some (vR g 106), some (vR g 119), some (vR g 120), some (vI i), none, none, none] []) : V γ g cL_law 9 RL room_1 G k n 1095 [some (.ref ar), some (vR g 0), some (vR g 106), some (vR g 119), some (vR g 120), some (vI i), none, none, none] [] := by
  refine v_aload_n (pc := 1095) rfl dL_law_1095 ?_
  refine v_aload_n (pc := 1096) rfl dL_law_1096 ?_
  refine v_iload (pc := 1097) rfl dL_law_1097 ?_
  refine v_iconst (pc := 1099) (z := 1) dL_law_1099 ?_
  refine v_iadd (pc := 1100) dL_law_1100 ?_
  refine v_aarg (pc := 1101) hA (by omega) (by omega) dL_law_1101 ?_
  obtain ⟨x1, hx1, rx1⟩ : ∃ y : Int, y = a (i + 1).toNat ∧ -2147483648 ≤ y ∧ y < 2147483648 := ⟨_, rfl, hA.2 _⟩
  refine v_stk (st' := [vI x1, vR g 0]) (by rw [hx1]; first | done | rfl) ?_
  refine v_callV (pc := 1102) (rest := []) (c_X3_coinsOfYear (G := G) hI.1.1 (by omega)) iok_X3_coinsOfYear wM_L_194 rfl (by decide) (by decide) rfl ⟨Nat.le_of_ble_eq_true rfl, Nat.le_of_ble_eq_true rfl⟩ ⟨by show k + 0 ≤ 603072; omega, by show n + 0 ≤ 7219306; omega⟩ (Nat.le_of_ble_eq_true rfl) rfl dL_law_1102 (fun v G1 h1 => ?_) (fun _ _ h => h.elim)
  obtain ⟨x0, hx0⟩ : ∃ x, v = some (vI x) := ⟨_, h1.1⟩
  have hk9 : KP9 G G1 := KP9_e h1.2
  subst hx0
  have hm := LawM hI hk9
  refine v_stk (st' := [vI x0]) rfl ?_
  refine v_aload_n (pc := 1105) rfl dL_law_1105 ?_
  refine v_aload_n (pc := 1106) rfl dL_law_1106 ?_
  refine v_iload (pc := 1107) rfl dL_law_1107 ?_
  refine v_iconst (pc := 1109) (z := 1) dL_law_1109 ?_
  refine v_iadd (pc := 1110) dL_law_1110 ?_
  refine v_aarg (pc := 1111) hA (by omega) (by omega) dL_law_1111 ?_
  refine v_stk (st' := [vI x1, vR g 106, vI x0]) (by rw [hx1]; first | done | rfl) ?_
  refine v_callV (pc := 1112) (rest := [vI x0]) (c_X4_coinsOfYear (G := G1) hm.1 (by omega)) iok_X4_coinsOfYear wM_L_197 rfl (by decide) (by decide) rfl ⟨Nat.le_of_ble_eq_true rfl, Nat.le_of_ble_eq_true rfl⟩ ⟨by show (k + 0) + 0 ≤ 603072; omega, by show (n + 0) + 0 ≤ 7219306; omega⟩ (Nat.le_of_ble_eq_true rfl) rfl dL_law_1112 (fun w G2 h2 => ?_) (fun _ _ h => h.elim)
  obtain ⟨r, hv1, hw1, hrr, hL2⟩ := op_coinsOfYear hI h1 h2
  subst hw1
  have hc2 : vI x0 = vI r := Option.some.inj hv1
  refine v_stk (st' := [vI r, vI r]) (by rw [← hc2]; rfl) ?_
  refine v_icmp_eq (pc := 1115) (tgt := 2167) (by omega) dL_law_1115 (by decide) (fun bq1 => ?_) (fun bq1 => ?_)
  · skip
    refine v_loc (L' := [some (.ref ar), some (vR g 0), some (vR g 106), some (vR g 119), some (vR g 120), some (vI i), none, none, none]) ⟨rfl, rfl, rfl, rfl, rfl, rfl, trivial⟩ ?_
    exact kk G2 _ _ (LawI_up hL2 (by omega) (by omega)) (by show ((k + 0) + 0) ≤ k + 25; omega) (by show ((n + 0) + 0) ≤ n + 4300; omega)
  · skip
    exact absurd rfl bq1
set_option maxHeartbeats 4000000 in
set_option maxRecDepth 100000 in
theorem lc_21 {γ : gT} {g : GT} {ar N : Nat} {a : Nat → Int} {G : Mem} {k n : Nat} {Y A i : Int} (hA : ArgI γ g ar N a) (hI : LawI G Y A) (hy : 0 ≤ Y ∧ Y ≤ 900000 ∧ 0 ≤ A ∧ A ≤ 900000000) (hi : 0 ≤ i ∧ i + 3 ≤ (N : Int)) (hN : N ≤ 1536) (hkk : k ≤ 580000) (hnn : n ≤ 7000000)
    (kk : ∀ (G2 : Mem) (k2 n2 : Nat), LawI G2 (Y + 1200) (A + 6000) → k2 ≤ k + 25 → n2 ≤ n + 4300 → V γ g cL_law 9 RL room_1 G2 k2 n2 2167 [some (.ref ar), some (vR g 0), some (vR g 106), some (vR g 119), some (vR g 120), some (vI i), none, none, none] []) : V γ g cL_law 9 RL room_1 G k n 1120 [some (.ref ar), some (vR g 0), some (vR g 106), some (vR g 119), some (vR g 120), some (vI i), none, none, none] [] := by
  refine v_aload_n (pc := 1120) rfl dL_law_1120 ?_
  refine v_aload_n (pc := 1121) rfl dL_law_1121 ?_
  refine v_iload (pc := 1122) rfl dL_law_1122 ?_
  refine v_iconst (pc := 1124) (z := 1) dL_law_1124 ?_
  refine v_iadd (pc := 1125) dL_law_1125 ?_
  refine v_aarg (pc := 1126) hA (by omega) (by omega) dL_law_1126 ?_
  obtain ⟨x1, hx1, rx1⟩ : ∃ y : Int, y = a (i + 1).toNat ∧ -2147483648 ≤ y ∧ y < 2147483648 := ⟨_, rfl, hA.2 _⟩
  refine v_stk (st' := [vI x1, vR g 0]) (by rw [hx1]; first | done | rfl) ?_
  refine v_i2c (pc := 1127) dL_law_1127 ?_
  obtain ⟨cc9, hcc9, rcc9⟩ : ∃ y : Int, y = x1 % 65536 ∧ 0 ≤ y ∧ y < 65536 := ⟨_, rfl, by omega⟩
  refine v_stk (st' := [vI cc9, vR g 0]) (by rw [hcc9]; first | done | rfl) ?_
  refine v_aload_n (pc := 1128) rfl dL_law_1128 ?_
  refine v_callSH (pc := 1129) (rest := []) (c_L_coinsOfGrade (G := G) hI.1.1 (by omega)) sok_L_coinsOfGrade wM_L_198 ⟨Nat.le_of_ble_eq_true rfl, Nat.le_of_ble_eq_true rfl⟩ ⟨by show k + 1 ≤ 603072; omega, by show n + 6 ≤ 7219306; omega⟩ (Nat.le_of_ble_eq_true rfl) rfl dL_law_1129 (fun v G1 h1 => ?_) (fun _ _ h => h.elim)
  obtain ⟨⟨c0, hc0⟩, hk9⟩ := kp_coinsOfGrade hI h1
  subst hc0
  have hm := LawM hI hk9
  refine v_stk (st' := [vI c0]) rfl ?_
  refine v_istore (pc := 1132) (by decide) rfl dL_law_1132 ?_
  refine v_aload_n (pc := 1134) rfl dL_law_1134 ?_
  refine v_aload_n (pc := 1135) rfl dL_law_1135 ?_
  refine v_iload (pc := 1136) rfl dL_law_1136 ?_
  refine v_iconst (pc := 1138) (z := 1) dL_law_1138 ?_
  refine v_iadd (pc := 1139) dL_law_1139 ?_
  refine v_aarg (pc := 1140) hA (by omega) (by omega) dL_law_1140 ?_
  refine v_stk (st' := [vI x1, vR g 106]) (by rw [hx1]; first | done | rfl) ?_
  refine v_i2c (pc := 1141) dL_law_1141 ?_
  refine v_stk (st' := [vI cc9, vR g 106]) (by rw [hcc9]; first | done | rfl) ?_
  refine v_callV (pc := 1142) (rest := []) (c_X4_coinsOfGrade (G := G1) hm.1 (by omega)) iok_X4_coinsOfGrade wM_L_201 rfl (by decide) (by decide) rfl ⟨Nat.le_of_ble_eq_true rfl, Nat.le_of_ble_eq_true rfl⟩ ⟨by show (k + 1) + 0 ≤ 603072; omega, by show (n + 6) + 0 ≤ 7219306; omega⟩ (Nat.le_of_ble_eq_true rfl) rfl dL_law_1142 (fun w G2 h2 => ?_) (fun _ _ h => h.elim)
  obtain ⟨c, r, hc1, hw1, hcr, hrr, h8, h119, hL2⟩ := op_coinsOfGrade (by omega) hI h1 h2
  subst hw1
  refine v_stk (st' := [vI r]) rfl ?_
  refine v_loc (L' := [some (.ref ar), some (vR g 0), some (vR g 106), some (vR g 119), some (vR g 120), some (vI i), some (vI c), none, none]) ⟨rfl, rfl, rfl, rfl, rfl, rfl, hc1, trivial⟩ ?_
  refine v_istore (pc := 1145) (by decide) rfl dL_law_1145 ?_
  refine v_aload_n (pc := 1147) rfl dL_law_1147 ?_
  refine v_callV (pc := 1148) (rest := []) (c_X4_thrown (G := G2)) iok_X4_thrown wM_L_126 rfl (by decide) (by decide) rfl ⟨Nat.le_of_ble_eq_true rfl, Nat.le_of_ble_eq_true rfl⟩ ⟨by show ((k + 1) + 0) + 0 ≤ 603072; omega, by show ((n + 6) + 0) + 0 ≤ 7219306; omega⟩ (Nat.le_of_ble_eq_true rfl) rfl dL_law_1148 (fun u G3 h3 => ?_) (fun _ _ h => h.elim)
  obtain ⟨rfl, hG9⟩ := h3
  rw [hG9]
  refine v_stk (st' := [vI c]) (by rw [← h8]; rfl) ?_
  refine v_iload (pc := 1151) rfl dL_law_1151 ?_
  refine v_icmp_eq (pc := 1153) (tgt := 1158) (by omega) dL_law_1153 (by decide) (fun bq1 => ?_) (fun bq1 => ?_)
  · skip
    refine v_iload (pc := 1158) rfl dL_law_1158 ?_
    refine v_if_ne (pc := 1160) (tgt := 1175) (by omega) dL_law_1160 (by decide) (fun bq2 => ?_) (fun bq2 => ?_)
    · skip
      refine v_goto (pc := 1175) (tgt := 2167) dL_law_1175 (by decide) ?_
      refine v_loc (L' := [some (.ref ar), some (vR g 0), some (vR g 106), some (vR g 119), some (vR g 120), some (vI i), none, none, none]) ⟨rfl, rfl, rfl, rfl, rfl, rfl, trivial⟩ ?_
      exact kk G2 _ _ (LawI_up hL2 (by omega) (by omega)) (by show (((k + 1) + 0) + 0) ≤ k + 25; omega) (by show (((n + 6) + 0) + 0) ≤ n + 4300; omega)
    · skip
      refine v_aload_n (pc := 1163) rfl dL_law_1163 ?_
      refine v_iconst (pc := 1164) (z := 0) dL_law_1164 ?_
      refine v_lald (pc := 1165) (N := 1) rfl rfl (by decide) (by omega) (by decide) dL_law_1165 ?_
      refine v_stk (st' := [vJ r]) (by rw [h119 (by omega)]; first | done | rfl) ?_
      refine v_iload (pc := 1166) rfl dL_law_1166 ?_
      refine v_i2l (pc := 1168) (by omega) dL_law_1168 ?_
      refine v_lc_eq (pc := 1169) (tgt := 1175) (by omega) (by omega) dL_law_1169 dL_law_1170 (by decide) (fun bq3 => ?_) (fun bq3 => ?_)
      · skip
        refine v_goto (pc := 1175) (tgt := 2167) dL_law_1175 (by decide) ?_
        refine v_loc (L' := [some (.ref ar), some (vR g 0), some (vR g 106), some (vR g 119), some (vR g 120), some (vI i), none, none, none]) ⟨rfl, rfl, rfl, rfl, rfl, rfl, trivial⟩ ?_
        exact kk G2 _ _ (LawI_up hL2 (by omega) (by omega)) (by show (((k + 1) + 0) + 0) ≤ k + 25; omega) (by show (((n + 6) + 0) + 0) ≤ n + 4300; omega)
      · skip
        first | exact absurd rfl bq3 | (exfalso; omega)
  · skip
    first | exact absurd rfl bq1 | (exfalso; omega)
set_option maxHeartbeats 4000000 in
set_option maxRecDepth 100000 in
theorem lc_22 {γ : gT} {g : GT} {ar N : Nat} {a : Nat → Int} {G : Mem} {k n : Nat} {Y A i : Int} (hA : ArgI γ g ar N a) (hI : LawI G Y A) (hy : 0 ≤ Y ∧ Y ≤ 900000 ∧ 0 ≤ A ∧ A ≤ 900000000) (hi : 0 ≤ i ∧ i + 3 ≤ (N : Int)) (hN : N ≤ 1536) (hkk : k ≤ 580000) (hnn : n ≤ 7000000)
    (kk : ∀ (G2 : Mem) (k2 n2 : Nat), LawI G2 (Y + 1200) (A + 6000) → k2 ≤ k + 25 → n2 ≤ n + 4300 → V γ g cL_law 9 RL room_1 G2 k2 n2 2167 [some (.ref ar), some (vR g 0), some (vR g 106), some (vR g 119), some (vR g 120), some (vI i), none, none, none] []) : V γ g cL_law 9 RL room_1 G k n 1178 [some (.ref ar), some (vR g 0), some (vR g 106), some (vR g 119), some (vR g 120), some (vI i), none, none, none] [] := by
  refine v_aload_n (pc := 1178) rfl dL_law_1178 ?_
  refine v_callV (pc := 1179) (rest := []) (c_X3_kinds (G := G) hI.1.1) iok_X3_kinds wM_L_202 rfl (by decide) (by decide) rfl ⟨Nat.le_of_ble_eq_true rfl, Nat.le_of_ble_eq_true rfl⟩ ⟨by show k + 0 ≤ 603072; omega, by show n + 0 ≤ 7219306; omega⟩ (Nat.le_of_ble_eq_true rfl) rfl dL_law_1179 (fun v G1 h1 => ?_) (fun _ _ h => h.elim)
  obtain ⟨x0, hx0⟩ : ∃ x, v = some (vI x) := ⟨_, h1.1⟩
  have hk9 : KP9 G G1 := KP9_e h1.2
  subst hx0
  have hm := LawM hI hk9
  refine v_stk (st' := [vI x0]) rfl ?_
  refine v_aload_n (pc := 1182) rfl dL_law_1182 ?_
  refine v_callV (pc := 1183) (rest := [vI x0]) (c_X4_kinds (G := G1) hm.1) iok_X4_kinds wM_L_205 rfl (by decide) (by decide) rfl ⟨Nat.le_of_ble_eq_true rfl, Nat.le_of_ble_eq_true rfl⟩ ⟨by show (k + 0) + 0 ≤ 603072; omega, by show (n + 0) + 0 ≤ 7219306; omega⟩ (Nat.le_of_ble_eq_true rfl) rfl dL_law_1183 (fun w G2 h2 => ?_) (fun _ _ h => h.elim)
  obtain ⟨r, hv1, hw1, hrr, hL2⟩ := op_kinds hI h1 h2
  subst hw1
  have hc2 : vI x0 = vI r := Option.some.inj hv1
  refine v_stk (st' := [vI r, vI r]) (by rw [← hc2]; rfl) ?_
  refine v_icmp_eq (pc := 1186) (tgt := 2167) (by omega) dL_law_1186 (by decide) (fun bq1 => ?_) (fun bq1 => ?_)
  · skip
    refine v_loc (L' := [some (.ref ar), some (vR g 0), some (vR g 106), some (vR g 119), some (vR g 120), some (vI i), none, none, none]) ⟨rfl, rfl, rfl, rfl, rfl, rfl, trivial⟩ ?_
    exact kk G2 _ _ (LawI_up hL2 (by omega) (by omega)) (by show ((k + 0) + 0) ≤ k + 25; omega) (by show ((n + 0) + 0) ≤ n + 4300; omega)
  · skip
    exact absurd rfl bq1
set_option maxHeartbeats 4000000 in
set_option maxRecDepth 100000 in
theorem lc_23 {γ : gT} {g : GT} {ar N : Nat} {a : Nat → Int} {G : Mem} {k n : Nat} {Y A i : Int} (hA : ArgI γ g ar N a) (hI : LawI G Y A) (hy : 0 ≤ Y ∧ Y ≤ 900000 ∧ 0 ≤ A ∧ A ≤ 900000000) (hi : 0 ≤ i ∧ i + 3 ≤ (N : Int)) (hN : N ≤ 1536) (hkk : k ≤ 580000) (hnn : n ≤ 7000000)
    (kk : ∀ (G2 : Mem) (k2 n2 : Nat), LawI G2 (Y + 1200) (A + 6000) → k2 ≤ k + 25 → n2 ≤ n + 4300 → V γ g cL_law 9 RL room_1 G2 k2 n2 2167 [some (.ref ar), some (vR g 0), some (vR g 106), some (vR g 119), some (vR g 120), some (vI i), none, none, none] []) : V γ g cL_law 9 RL room_1 G k n 1191 [some (.ref ar), some (vR g 0), some (vR g 106), some (vR g 119), some (vR g 120), some (vI i), none, none, none] [] := by
  refine v_aload_n (pc := 1191) rfl dL_law_1191 ?_
  refine v_aload_n (pc := 1192) rfl dL_law_1192 ?_
  refine v_iload (pc := 1193) rfl dL_law_1193 ?_
  refine v_iconst (pc := 1195) (z := 1) dL_law_1195 ?_
  refine v_iadd (pc := 1196) dL_law_1196 ?_
  refine v_aarg (pc := 1197) hA (by omega) (by omega) dL_law_1197 ?_
  obtain ⟨x1, hx1, rx1⟩ : ∃ y : Int, y = a (i + 1).toNat ∧ -2147483648 ≤ y ∧ y < 2147483648 := ⟨_, rfl, hA.2 _⟩
  refine v_stk (st' := [vI x1, vR g 0]) (by rw [hx1]; first | done | rfl) ?_
  refine v_aload_n (pc := 1198) rfl dL_law_1198 ?_
  refine v_callSH (pc := 1199) (rest := []) (c_L_canPay (G := G) hI.1.1 (by omega)) sok_L_canPay wM_L_206 ⟨Nat.le_of_ble_eq_true rfl, Nat.le_of_ble_eq_true rfl⟩ ⟨by show k + 1 ≤ 603072; omega, by show n + 6 ≤ 7219306; omega⟩ (Nat.le_of_ble_eq_true rfl) rfl dL_law_1199 (fun v G1 h1 => ?_) (fun _ _ h => h.elim)
  obtain ⟨⟨c0, hc0⟩, hk9⟩ := kp_canPay hI h1
  subst hc0
  have hm := LawM hI hk9
  refine v_stk (st' := [vI c0]) rfl ?_
  refine v_istore (pc := 1202) (by decide) rfl dL_law_1202 ?_
  refine v_aload_n (pc := 1204) rfl dL_law_1204 ?_
  refine v_aload_n (pc := 1205) rfl dL_law_1205 ?_
  refine v_iload (pc := 1206) rfl dL_law_1206 ?_
  refine v_iconst (pc := 1208) (z := 1) dL_law_1208 ?_
  refine v_iadd (pc := 1209) dL_law_1209 ?_
  refine v_aarg (pc := 1210) hA (by omega) (by omega) dL_law_1210 ?_
  refine v_stk (st' := [vI x1, vR g 106]) (by rw [hx1]; first | done | rfl) ?_
  refine v_callV (pc := 1211) (rest := []) (c_X4_canPay (G := G1) hm.1 (by omega)) iok_X4_canPay wM_L_208 rfl (by decide) (by decide) rfl ⟨Nat.le_of_ble_eq_true rfl, Nat.le_of_ble_eq_true rfl⟩ ⟨by show (k + 1) + 0 ≤ 603072; omega, by show (n + 6) + 0 ≤ 7219306; omega⟩ (Nat.le_of_ble_eq_true rfl) rfl dL_law_1211 (fun w G2 h2 => ?_) (fun _ _ h => h.elim)
  obtain ⟨c, r, hc1, hw1, hcr, hrr, h8, h119, hL2⟩ := op_canPay hI h1 h2
  subst hw1
  have hr01 : c = 0 → r = 0 ∨ r = 1 := fun z => by
    obtain ⟨r', hr', hp⟩ := h2
    rcases hp with ⟨-, he⟩ | ⟨-, -, -, β, hβ, hb⟩
    · rw [he, upd2_s] at h8; omega
    · rw [hb] at hr'; exact bool_norm hrr hr'
  refine v_stk (st' := [vI r]) rfl ?_
  refine v_loc (L' := [some (.ref ar), some (vR g 0), some (vR g 106), some (vR g 119), some (vR g 120), some (vI i), some (vI c), none, none]) ⟨rfl, rfl, rfl, rfl, rfl, rfl, hc1, trivial⟩ ?_
  refine v_istore (pc := 1214) (by decide) rfl dL_law_1214 ?_
  refine v_aload_n (pc := 1216) rfl dL_law_1216 ?_
  refine v_callV (pc := 1217) (rest := []) (c_X4_thrown (G := G2)) iok_X4_thrown wM_L_126 rfl (by decide) (by decide) rfl ⟨Nat.le_of_ble_eq_true rfl, Nat.le_of_ble_eq_true rfl⟩ ⟨by show ((k + 1) + 0) + 0 ≤ 603072; omega, by show ((n + 6) + 0) + 0 ≤ 7219306; omega⟩ (Nat.le_of_ble_eq_true rfl) rfl dL_law_1217 (fun u G3 h3 => ?_) (fun _ _ h => h.elim)
  obtain ⟨rfl, hG9⟩ := h3
  rw [hG9]
  refine v_stk (st' := [vI c]) (by rw [← h8]; rfl) ?_
  refine v_iload (pc := 1220) rfl dL_law_1220 ?_
  refine v_icmp_eq (pc := 1222) (tgt := 1227) (by omega) dL_law_1222 (by decide) (fun bq1 => ?_) (fun bq1 => ?_)
  · skip
    refine v_iload (pc := 1227) rfl dL_law_1227 ?_
    refine v_if_ne (pc := 1229) (tgt := 1251) (by omega) dL_law_1229 (by decide) (fun bq2 => ?_) (fun bq2 => ?_)
    · skip
      refine v_goto (pc := 1251) (tgt := 2167) dL_law_1251 (by decide) ?_
      refine v_loc (L' := [some (.ref ar), some (vR g 0), some (vR g 106), some (vR g 119), some (vR g 120), some (vI i), none, none, none]) ⟨rfl, rfl, rfl, rfl, rfl, rfl, trivial⟩ ?_
      exact kk G2 _ _ (LawI_up hL2 (by omega) (by omega)) (by show (((k + 1) + 0) + 0) ≤ k + 25; omega) (by show (((n + 6) + 0) + 0) ≤ n + 4300; omega)
    · skip
      refine v_aload_n (pc := 1232) rfl dL_law_1232 ?_
      refine v_iconst (pc := 1233) (z := 0) dL_law_1233 ?_
      refine v_lald (pc := 1234) (N := 1) rfl rfl (by decide) (by omega) (by decide) dL_law_1234 ?_
      have hr02 := hr01 (by omega)
      refine v_stk (st' := [vJ r]) (by rw [h119 (by omega)]; first | done | rfl) ?_
      refine v_iload (pc := 1235) rfl dL_law_1235 ?_
      refine v_if_eq (pc := 1237) (tgt := 1244) (by omega) dL_law_1237 (by decide) (fun bq3 => ?_) (fun bq3 => ?_)
      · skip
        refine v_lconst (pc := 1244) (z := 0) rfl dL_law_1244 ?_
        refine v_lc_eq (pc := 1245) (tgt := 1251) (by omega) (by omega) dL_law_1245 dL_law_1246 (by decide) (fun bq4 => ?_) (fun bq4 => ?_)
        · skip
          refine v_goto (pc := 1251) (tgt := 2167) dL_law_1251 (by decide) ?_
          refine v_loc (L' := [some (.ref ar), some (vR g 0), some (vR g 106), some (vR g 119), some (vR g 120), some (vI i), none, none, none]) ⟨rfl, rfl, rfl, rfl, rfl, rfl, trivial⟩ ?_
          exact kk G2 _ _ (LawI_up hL2 (by omega) (by omega)) (by show (((k + 1) + 0) + 0) ≤ k + 25; omega) (by show (((n + 6) + 0) + 0) ≤ n + 4300; omega)
        · skip
          first | exact absurd rfl bq4 | (exfalso; omega)
      · skip
        refine v_lconst (pc := 1240) (z := 1) rfl dL_law_1240 ?_
        refine v_goto (pc := 1241) (tgt := 1245) dL_law_1241 (by decide) ?_
        refine v_lc_eq (pc := 1245) (tgt := 1251) (by omega) (by omega) dL_law_1245 dL_law_1246 (by decide) (fun bq5 => ?_) (fun bq5 => ?_)
        · skip
          refine v_goto (pc := 1251) (tgt := 2167) dL_law_1251 (by decide) ?_
          refine v_loc (L' := [some (.ref ar), some (vR g 0), some (vR g 106), some (vR g 119), some (vR g 120), some (vI i), none, none, none]) ⟨rfl, rfl, rfl, rfl, rfl, rfl, trivial⟩ ?_
          exact kk G2 _ _ (LawI_up hL2 (by omega) (by omega)) (by show (((k + 1) + 0) + 0) ≤ k + 25; omega) (by show (((n + 6) + 0) + 0) ≤ n + 4300; omega)
        · skip
          first | exact absurd rfl bq5 | (exfalso; omega)
  · skip
    first | exact absurd rfl bq1 | (exfalso; omega)
set_option maxHeartbeats 4000000 in
set_option maxRecDepth 100000 in
theorem lc_24 {γ : gT} {g : GT} {ar N : Nat} {a : Nat → Int} {G : Mem} {k n : Nat} {Y A i : Int} (hA : ArgI γ g ar N a) (hI : LawI G Y A) (hy : 0 ≤ Y ∧ Y ≤ 900000 ∧ 0 ≤ A ∧ A ≤ 900000000) (hi : 0 ≤ i ∧ i + 3 ≤ (N : Int)) (hN : N ≤ 1536) (hkk : k ≤ 580000) (hnn : n ≤ 7000000)
    (kk : ∀ (G2 : Mem) (k2 n2 : Nat), LawI G2 (Y + 1200) (A + 6000) → k2 ≤ k + 25 → n2 ≤ n + 4300 → V γ g cL_law 9 RL room_1 G2 k2 n2 2167 [some (.ref ar), some (vR g 0), some (vR g 106), some (vR g 119), some (vR g 120), some (vI i), none, none, none] []) : V γ g cL_law 9 RL room_1 G k n 1254 [some (.ref ar), some (vR g 0), some (vR g 106), some (vR g 119), some (vR g 120), some (vI i), none, none, none] [] := by
  refine v_aload_n (pc := 1254) rfl dL_law_1254 ?_
  refine v_aload_n (pc := 1255) rfl dL_law_1255 ?_
  refine v_iload (pc := 1256) rfl dL_law_1256 ?_
  refine v_iconst (pc := 1258) (z := 1) dL_law_1258 ?_
  refine v_iadd (pc := 1259) dL_law_1259 ?_
  refine v_aarg (pc := 1260) hA (by omega) (by omega) dL_law_1260 ?_
  obtain ⟨x1, hx1, rx1⟩ : ∃ y : Int, y = a (i + 1).toNat ∧ -2147483648 ≤ y ∧ y < 2147483648 := ⟨_, rfl, hA.2 _⟩
  refine v_stk (st' := [vI x1, vR g 0]) (by rw [hx1]; first | done | rfl) ?_
  refine v_aload_n (pc := 1261) rfl dL_law_1261 ?_
  refine v_callSH (pc := 1262) (rest := []) (c_L_fewestCoins (G := G) hI.1.1 (by omega)) sok_L_fewestCoins wM_L_209 ⟨Nat.le_of_ble_eq_true rfl, Nat.le_of_ble_eq_true rfl⟩ ⟨by show k + 2 ≤ 603072; omega, by show n + 12 ≤ 7219306; omega⟩ (Nat.le_of_ble_eq_true rfl) rfl dL_law_1262 (fun v G1 h1 => ?_) (fun _ _ h => h.elim)
  obtain ⟨⟨c0, hc0⟩, hk9⟩ := kp_fewestCoins hI h1
  subst hc0
  have hm := LawM hI hk9
  refine v_stk (st' := [vI c0]) rfl ?_
  refine v_istore (pc := 1265) (by decide) rfl dL_law_1265 ?_
  refine v_aload_n (pc := 1267) rfl dL_law_1267 ?_
  refine v_aload_n (pc := 1268) rfl dL_law_1268 ?_
  refine v_iload (pc := 1269) rfl dL_law_1269 ?_
  refine v_iconst (pc := 1271) (z := 1) dL_law_1271 ?_
  refine v_iadd (pc := 1272) dL_law_1272 ?_
  refine v_aarg (pc := 1273) hA (by omega) (by omega) dL_law_1273 ?_
  refine v_stk (st' := [vI x1, vR g 106]) (by rw [hx1]; first | done | rfl) ?_
  refine v_callV (pc := 1274) (rest := []) (c_X4_fewestCoins (G := G1) hm.1 (by omega)) iok_X4_fewestCoins wM_L_211 rfl (by decide) (by decide) rfl ⟨Nat.le_of_ble_eq_true rfl, Nat.le_of_ble_eq_true rfl⟩ ⟨by show (k + 2) + 0 ≤ 603072; omega, by show (n + 12) + 0 ≤ 7219306; omega⟩ (Nat.le_of_ble_eq_true rfl) rfl dL_law_1274 (fun w G2 h2 => ?_) (fun _ _ h => h.elim)
  obtain ⟨c, r, hc1, hw1, hcr, hrr, h8, h119, hL2⟩ := op_fewestCoins hI h1 h2
  subst hw1
  refine v_stk (st' := [vI r]) rfl ?_
  refine v_loc (L' := [some (.ref ar), some (vR g 0), some (vR g 106), some (vR g 119), some (vR g 120), some (vI i), some (vI c), none, none]) ⟨rfl, rfl, rfl, rfl, rfl, rfl, hc1, trivial⟩ ?_
  refine v_istore (pc := 1277) (by decide) rfl dL_law_1277 ?_
  refine v_aload_n (pc := 1279) rfl dL_law_1279 ?_
  refine v_callV (pc := 1280) (rest := []) (c_X4_thrown (G := G2)) iok_X4_thrown wM_L_126 rfl (by decide) (by decide) rfl ⟨Nat.le_of_ble_eq_true rfl, Nat.le_of_ble_eq_true rfl⟩ ⟨by show ((k + 2) + 0) + 0 ≤ 603072; omega, by show ((n + 12) + 0) + 0 ≤ 7219306; omega⟩ (Nat.le_of_ble_eq_true rfl) rfl dL_law_1280 (fun u G3 h3 => ?_) (fun _ _ h => h.elim)
  obtain ⟨rfl, hG9⟩ := h3
  rw [hG9]
  refine v_stk (st' := [vI c]) (by rw [← h8]; rfl) ?_
  refine v_iload (pc := 1283) rfl dL_law_1283 ?_
  refine v_icmp_eq (pc := 1285) (tgt := 1290) (by omega) dL_law_1285 (by decide) (fun bq1 => ?_) (fun bq1 => ?_)
  · skip
    refine v_iload (pc := 1290) rfl dL_law_1290 ?_
    refine v_if_ne (pc := 1292) (tgt := 1307) (by omega) dL_law_1292 (by decide) (fun bq2 => ?_) (fun bq2 => ?_)
    · skip
      refine v_goto (pc := 1307) (tgt := 2167) dL_law_1307 (by decide) ?_
      refine v_loc (L' := [some (.ref ar), some (vR g 0), some (vR g 106), some (vR g 119), some (vR g 120), some (vI i), none, none, none]) ⟨rfl, rfl, rfl, rfl, rfl, rfl, trivial⟩ ?_
      exact kk G2 _ _ (LawI_up hL2 (by omega) (by omega)) (by show (((k + 2) + 0) + 0) ≤ k + 25; omega) (by show (((n + 12) + 0) + 0) ≤ n + 4300; omega)
    · skip
      refine v_aload_n (pc := 1295) rfl dL_law_1295 ?_
      refine v_iconst (pc := 1296) (z := 0) dL_law_1296 ?_
      refine v_lald (pc := 1297) (N := 1) rfl rfl (by decide) (by omega) (by decide) dL_law_1297 ?_
      refine v_stk (st' := [vJ r]) (by rw [h119 (by omega)]; first | done | rfl) ?_
      refine v_iload (pc := 1298) rfl dL_law_1298 ?_
      refine v_i2l (pc := 1300) (by omega) dL_law_1300 ?_
      refine v_lc_eq (pc := 1301) (tgt := 1307) (by omega) (by omega) dL_law_1301 dL_law_1302 (by decide) (fun bq3 => ?_) (fun bq3 => ?_)
      · skip
        refine v_goto (pc := 1307) (tgt := 2167) dL_law_1307 (by decide) ?_
        refine v_loc (L' := [some (.ref ar), some (vR g 0), some (vR g 106), some (vR g 119), some (vR g 120), some (vI i), none, none, none]) ⟨rfl, rfl, rfl, rfl, rfl, rfl, trivial⟩ ?_
        exact kk G2 _ _ (LawI_up hL2 (by omega) (by omega)) (by show (((k + 2) + 0) + 0) ≤ k + 25; omega) (by show (((n + 12) + 0) + 0) ≤ n + 4300; omega)
      · skip
        first | exact absurd rfl bq3 | (exfalso; omega)
  · skip
    first | exact absurd rfl bq1 | (exfalso; omega)
set_option maxHeartbeats 4000000 in
set_option maxRecDepth 100000 in
theorem lc_25 {γ : gT} {g : GT} {ar N : Nat} {a : Nat → Int} {G : Mem} {k n : Nat} {Y A i : Int} (hA : ArgI γ g ar N a) (hI : LawI G Y A) (hy : 0 ≤ Y ∧ Y ≤ 900000 ∧ 0 ≤ A ∧ A ≤ 900000000) (hi : 0 ≤ i ∧ i + 3 ≤ (N : Int)) (hN : N ≤ 1536) (hkk : k ≤ 580000) (hnn : n ≤ 7000000)
    (kk : ∀ (G2 : Mem) (k2 n2 : Nat), LawI G2 (Y + 1200) (A + 6000) → k2 ≤ k + 25 → n2 ≤ n + 4300 → V γ g cL_law 9 RL room_1 G2 k2 n2 2167 [some (.ref ar), some (vR g 0), some (vR g 106), some (vR g 119), some (vR g 120), some (vI i), none, none, none] []) : V γ g cL_law 9 RL room_1 G k n 1310 [some (.ref ar), some (vR g 0), some (vR g 106), some (vR g 119), some (vR g 120), some (vI i), none, none, none] [] := by
  refine v_aload_n (pc := 1310) rfl dL_law_1310 ?_
  refine v_aload_n (pc := 1311) rfl dL_law_1311 ?_
  refine v_iload (pc := 1312) rfl dL_law_1312 ?_
  refine v_iconst (pc := 1314) (z := 1) dL_law_1314 ?_
  refine v_iadd (pc := 1315) dL_law_1315 ?_
  refine v_aarg (pc := 1316) hA (by omega) (by omega) dL_law_1316 ?_
  obtain ⟨x1, hx1, rx1⟩ : ∃ y : Int, y = a (i + 1).toNat ∧ -2147483648 ≤ y ∧ y < 2147483648 := ⟨_, rfl, hA.2 _⟩
  refine v_stk (st' := [vI x1, vR g 0]) (by rw [hx1]; first | done | rfl) ?_
  refine v_aload_n (pc := 1317) rfl dL_law_1317 ?_
  refine v_callSH (pc := 1318) (rest := []) (c_L_fewestCoinsBySets (G := G) hI.1.1 (by omega)) sok_L_fewestCoinsBySets wM_L_212 ⟨Nat.le_of_ble_eq_true rfl, Nat.le_of_ble_eq_true rfl⟩ ⟨by show k + 2 ≤ 603072; omega, by show n + 12 ≤ 7219306; omega⟩ (Nat.le_of_ble_eq_true rfl) rfl dL_law_1318 (fun v G1 h1 => ?_) (fun _ _ h => h.elim)
  obtain ⟨⟨c0, hc0⟩, hk9⟩ := kp_fewestCoinsBySets hI h1
  subst hc0
  have hm := LawM hI hk9
  refine v_stk (st' := [vI c0]) rfl ?_
  refine v_istore (pc := 1321) (by decide) rfl dL_law_1321 ?_
  refine v_aload_n (pc := 1323) rfl dL_law_1323 ?_
  refine v_aload_n (pc := 1324) rfl dL_law_1324 ?_
  refine v_iload (pc := 1325) rfl dL_law_1325 ?_
  refine v_iconst (pc := 1327) (z := 1) dL_law_1327 ?_
  refine v_iadd (pc := 1328) dL_law_1328 ?_
  refine v_aarg (pc := 1329) hA (by omega) (by omega) dL_law_1329 ?_
  refine v_stk (st' := [vI x1, vR g 106]) (by rw [hx1]; first | done | rfl) ?_
  refine v_callV (pc := 1330) (rest := []) (c_X4_fewestCoinsBySets (G := G1) hm.1 (by omega)) iok_X4_fewestCoinsBySets wM_L_214 rfl (by decide) (by decide) rfl ⟨Nat.le_of_ble_eq_true rfl, Nat.le_of_ble_eq_true rfl⟩ ⟨by show (k + 2) + 0 ≤ 603072; omega, by show (n + 12) + 0 ≤ 7219306; omega⟩ (Nat.le_of_ble_eq_true rfl) rfl dL_law_1330 (fun w G2 h2 => ?_) (fun _ _ h => h.elim)
  obtain ⟨c, r, hc1, hw1, hcr, hrr, h8, h119, hL2⟩ := op_fewestCoinsBySets hI h1 h2
  subst hw1
  refine v_stk (st' := [vI r]) rfl ?_
  refine v_loc (L' := [some (.ref ar), some (vR g 0), some (vR g 106), some (vR g 119), some (vR g 120), some (vI i), some (vI c), none, none]) ⟨rfl, rfl, rfl, rfl, rfl, rfl, hc1, trivial⟩ ?_
  refine v_istore (pc := 1333) (by decide) rfl dL_law_1333 ?_
  refine v_aload_n (pc := 1335) rfl dL_law_1335 ?_
  refine v_callV (pc := 1336) (rest := []) (c_X4_thrown (G := G2)) iok_X4_thrown wM_L_126 rfl (by decide) (by decide) rfl ⟨Nat.le_of_ble_eq_true rfl, Nat.le_of_ble_eq_true rfl⟩ ⟨by show ((k + 2) + 0) + 0 ≤ 603072; omega, by show ((n + 12) + 0) + 0 ≤ 7219306; omega⟩ (Nat.le_of_ble_eq_true rfl) rfl dL_law_1336 (fun u G3 h3 => ?_) (fun _ _ h => h.elim)
  obtain ⟨rfl, hG9⟩ := h3
  rw [hG9]
  refine v_stk (st' := [vI c]) (by rw [← h8]; rfl) ?_
  refine v_iload (pc := 1339) rfl dL_law_1339 ?_
  refine v_icmp_eq (pc := 1341) (tgt := 1346) (by omega) dL_law_1341 (by decide) (fun bq1 => ?_) (fun bq1 => ?_)
  · skip
    refine v_iload (pc := 1346) rfl dL_law_1346 ?_
    refine v_if_ne (pc := 1348) (tgt := 1363) (by omega) dL_law_1348 (by decide) (fun bq2 => ?_) (fun bq2 => ?_)
    · skip
      refine v_goto (pc := 1363) (tgt := 2167) dL_law_1363 (by decide) ?_
      refine v_loc (L' := [some (.ref ar), some (vR g 0), some (vR g 106), some (vR g 119), some (vR g 120), some (vI i), none, none, none]) ⟨rfl, rfl, rfl, rfl, rfl, rfl, trivial⟩ ?_
      exact kk G2 _ _ (LawI_up hL2 (by omega) (by omega)) (by show (((k + 2) + 0) + 0) ≤ k + 25; omega) (by show (((n + 12) + 0) + 0) ≤ n + 4300; omega)
    · skip
      refine v_aload_n (pc := 1351) rfl dL_law_1351 ?_
      refine v_iconst (pc := 1352) (z := 0) dL_law_1352 ?_
      refine v_lald (pc := 1353) (N := 1) rfl rfl (by decide) (by omega) (by decide) dL_law_1353 ?_
      refine v_stk (st' := [vJ r]) (by rw [h119 (by omega)]; first | done | rfl) ?_
      refine v_iload (pc := 1354) rfl dL_law_1354 ?_
      refine v_i2l (pc := 1356) (by omega) dL_law_1356 ?_
      refine v_lc_eq (pc := 1357) (tgt := 1363) (by omega) (by omega) dL_law_1357 dL_law_1358 (by decide) (fun bq3 => ?_) (fun bq3 => ?_)
      · skip
        refine v_goto (pc := 1363) (tgt := 2167) dL_law_1363 (by decide) ?_
        refine v_loc (L' := [some (.ref ar), some (vR g 0), some (vR g 106), some (vR g 119), some (vR g 120), some (vI i), none, none, none]) ⟨rfl, rfl, rfl, rfl, rfl, rfl, trivial⟩ ?_
        exact kk G2 _ _ (LawI_up hL2 (by omega) (by omega)) (by show (((k + 2) + 0) + 0) ≤ k + 25; omega) (by show (((n + 12) + 0) + 0) ≤ n + 4300; omega)
      · skip
        first | exact absurd rfl bq3 | (exfalso; omega)
  · skip
    first | exact absurd rfl bq1 | (exfalso; omega)
set_option maxHeartbeats 4000000 in
set_option maxRecDepth 100000 in
theorem lc_26 {γ : gT} {g : GT} {ar N : Nat} {a : Nat → Int} {G : Mem} {k n : Nat} {Y A i : Int} (hA : ArgI γ g ar N a) (hI : LawI G Y A) (hy : 0 ≤ Y ∧ Y ≤ 900000 ∧ 0 ≤ A ∧ A ≤ 900000000) (hi : 0 ≤ i ∧ i + 3 ≤ (N : Int)) (hN : N ≤ 1536) (hkk : k ≤ 580000) (hnn : n ≤ 7000000)
    (kk : ∀ (G2 : Mem) (k2 n2 : Nat), LawI G2 (Y + 1200) (A + 6000) → k2 ≤ k + 25 → n2 ≤ n + 4300 → V γ g cL_law 9 RL room_1 G2 k2 n2 2167 [some (.ref ar), some (vR g 0), some (vR g 106), some (vR g 119), some (vR g 120), some (vI i), none, none, none] []) : V γ g cL_law 9 RL room_1 G k n 1366 [some (.ref ar), some (vR g 0), some (vR g 106), some (vR g 119), some (vR g 120), some (vI i), none, none, none] [] := by
  refine v_aload_n (pc := 1366) rfl dL_law_1366 ?_
  refine v_aload_n (pc := 1367) rfl dL_law_1367 ?_
  refine v_iload (pc := 1368) rfl dL_law_1368 ?_
  refine v_iconst (pc := 1370) (z := 1) dL_law_1370 ?_
  refine v_iadd (pc := 1371) dL_law_1371 ?_
  refine v_aarg (pc := 1372) hA (by omega) (by omega) dL_law_1372 ?_
  obtain ⟨x1, hx1, rx1⟩ : ∃ y : Int, y = a (i + 1).toNat ∧ -2147483648 ≤ y ∧ y < 2147483648 := ⟨_, rfl, hA.2 _⟩
  refine v_stk (st' := [vI x1, vR g 0]) (by rw [hx1]; first | done | rfl) ?_
  refine v_aload_n (pc := 1373) rfl dL_law_1373 ?_
  refine v_callSH (pc := 1374) (rest := []) (c_L_greedyCoins (G := G) hI.1.1 (by omega)) sok_L_greedyCoins wM_L_215 ⟨Nat.le_of_ble_eq_true rfl, Nat.le_of_ble_eq_true rfl⟩ ⟨by show k + 2 ≤ 603072; omega, by show n + 12 ≤ 7219306; omega⟩ (Nat.le_of_ble_eq_true rfl) rfl dL_law_1374 (fun v G1 h1 => ?_) (fun _ _ h => h.elim)
  obtain ⟨⟨c0, hc0⟩, hk9⟩ := kp_greedyCoins hI h1
  subst hc0
  have hm := LawM hI hk9
  refine v_stk (st' := [vI c0]) rfl ?_
  refine v_istore (pc := 1377) (by decide) rfl dL_law_1377 ?_
  refine v_aload_n (pc := 1379) rfl dL_law_1379 ?_
  refine v_aload_n (pc := 1380) rfl dL_law_1380 ?_
  refine v_iload (pc := 1381) rfl dL_law_1381 ?_
  refine v_iconst (pc := 1383) (z := 1) dL_law_1383 ?_
  refine v_iadd (pc := 1384) dL_law_1384 ?_
  refine v_aarg (pc := 1385) hA (by omega) (by omega) dL_law_1385 ?_
  refine v_stk (st' := [vI x1, vR g 106]) (by rw [hx1]; first | done | rfl) ?_
  refine v_callV (pc := 1386) (rest := []) (c_X4_greedyCoins (G := G1) hm.1 (by omega)) iok_X4_greedyCoins wM_L_217 rfl (by decide) (by decide) rfl ⟨Nat.le_of_ble_eq_true rfl, Nat.le_of_ble_eq_true rfl⟩ ⟨by show (k + 2) + 0 ≤ 603072; omega, by show (n + 12) + 0 ≤ 7219306; omega⟩ (Nat.le_of_ble_eq_true rfl) rfl dL_law_1386 (fun w G2 h2 => ?_) (fun _ _ h => h.elim)
  obtain ⟨c, r, hc1, hw1, hcr, hrr, h8, h119, hL2⟩ := op_greedyCoins hI h1 h2
  subst hw1
  refine v_stk (st' := [vI r]) rfl ?_
  refine v_loc (L' := [some (.ref ar), some (vR g 0), some (vR g 106), some (vR g 119), some (vR g 120), some (vI i), some (vI c), none, none]) ⟨rfl, rfl, rfl, rfl, rfl, rfl, hc1, trivial⟩ ?_
  refine v_istore (pc := 1389) (by decide) rfl dL_law_1389 ?_
  refine v_aload_n (pc := 1391) rfl dL_law_1391 ?_
  refine v_callV (pc := 1392) (rest := []) (c_X4_thrown (G := G2)) iok_X4_thrown wM_L_126 rfl (by decide) (by decide) rfl ⟨Nat.le_of_ble_eq_true rfl, Nat.le_of_ble_eq_true rfl⟩ ⟨by show ((k + 2) + 0) + 0 ≤ 603072; omega, by show ((n + 12) + 0) + 0 ≤ 7219306; omega⟩ (Nat.le_of_ble_eq_true rfl) rfl dL_law_1392 (fun u G3 h3 => ?_) (fun _ _ h => h.elim)
  obtain ⟨rfl, hG9⟩ := h3
  rw [hG9]
  refine v_stk (st' := [vI c]) (by rw [← h8]; rfl) ?_
  refine v_iload (pc := 1395) rfl dL_law_1395 ?_
  refine v_icmp_eq (pc := 1397) (tgt := 1402) (by omega) dL_law_1397 (by decide) (fun bq1 => ?_) (fun bq1 => ?_)
  · skip
    refine v_iload (pc := 1402) rfl dL_law_1402 ?_
    refine v_if_ne (pc := 1404) (tgt := 1419) (by omega) dL_law_1404 (by decide) (fun bq2 => ?_) (fun bq2 => ?_)
    · skip
      refine v_goto (pc := 1419) (tgt := 2167) dL_law_1419 (by decide) ?_
      refine v_loc (L' := [some (.ref ar), some (vR g 0), some (vR g 106), some (vR g 119), some (vR g 120), some (vI i), none, none, none]) ⟨rfl, rfl, rfl, rfl, rfl, rfl, trivial⟩ ?_
      exact kk G2 _ _ (LawI_up hL2 (by omega) (by omega)) (by show (((k + 2) + 0) + 0) ≤ k + 25; omega) (by show (((n + 12) + 0) + 0) ≤ n + 4300; omega)
    · skip
      refine v_aload_n (pc := 1407) rfl dL_law_1407 ?_
      refine v_iconst (pc := 1408) (z := 0) dL_law_1408 ?_
      refine v_lald (pc := 1409) (N := 1) rfl rfl (by decide) (by omega) (by decide) dL_law_1409 ?_
      refine v_stk (st' := [vJ r]) (by rw [h119 (by omega)]; first | done | rfl) ?_
      refine v_iload (pc := 1410) rfl dL_law_1410 ?_
      refine v_i2l (pc := 1412) (by omega) dL_law_1412 ?_
      refine v_lc_eq (pc := 1413) (tgt := 1419) (by omega) (by omega) dL_law_1413 dL_law_1414 (by decide) (fun bq3 => ?_) (fun bq3 => ?_)
      · skip
        refine v_goto (pc := 1419) (tgt := 2167) dL_law_1419 (by decide) ?_
        refine v_loc (L' := [some (.ref ar), some (vR g 0), some (vR g 106), some (vR g 119), some (vR g 120), some (vI i), none, none, none]) ⟨rfl, rfl, rfl, rfl, rfl, rfl, trivial⟩ ?_
        exact kk G2 _ _ (LawI_up hL2 (by omega) (by omega)) (by show (((k + 2) + 0) + 0) ≤ k + 25; omega) (by show (((n + 12) + 0) + 0) ≤ n + 4300; omega)
      · skip
        first | exact absurd rfl bq3 | (exfalso; omega)
  · skip
    first | exact absurd rfl bq1 | (exfalso; omega)
set_option maxHeartbeats 4000000 in
set_option maxRecDepth 100000 in
theorem lc_27 {γ : gT} {g : GT} {ar N : Nat} {a : Nat → Int} {G : Mem} {k n : Nat} {Y A i : Int} (hA : ArgI γ g ar N a) (hI : LawI G Y A) (hy : 0 ≤ Y ∧ Y ≤ 900000 ∧ 0 ≤ A ∧ A ≤ 900000000) (hi : 0 ≤ i ∧ i + 3 ≤ (N : Int)) (hN : N ≤ 1536) (hkk : k ≤ 580000) (hnn : n ≤ 7000000)
    (kk : ∀ (G2 : Mem) (k2 n2 : Nat), LawI G2 (Y + 1200) (A + 6000) → k2 ≤ k + 25 → n2 ≤ n + 4300 → V γ g cL_law 9 RL room_1 G2 k2 n2 2167 [some (.ref ar), some (vR g 0), some (vR g 106), some (vR g 119), some (vR g 120), some (vI i), none, none, none] []) : V γ g cL_law 9 RL room_1 G k n 1422 [some (.ref ar), some (vR g 0), some (vR g 106), some (vR g 119), some (vR g 120), some (vI i), none, none, none] [] := by
  refine v_aload_n (pc := 1422) rfl dL_law_1422 ?_
  refine v_aload_n (pc := 1423) rfl dL_law_1423 ?_
  refine v_iload (pc := 1424) rfl dL_law_1424 ?_
  refine v_iconst (pc := 1426) (z := 1) dL_law_1426 ?_
  refine v_iadd (pc := 1427) dL_law_1427 ?_
  refine v_aarg (pc := 1428) hA (by omega) (by omega) dL_law_1428 ?_
  obtain ⟨x1, hx1, rx1⟩ : ∃ y : Int, y = a (i + 1).toNat ∧ -2147483648 ≤ y ∧ y < 2147483648 := ⟨_, rfl, hA.2 _⟩
  refine v_stk (st' := [vI x1, vR g 0]) (by rw [hx1]; first | done | rfl) ?_
  refine v_aload_n (pc := 1429) rfl dL_law_1429 ?_
  refine v_iload (pc := 1430) rfl dL_law_1430 ?_
  refine v_iconst (pc := 1432) (z := 2) dL_law_1432 ?_
  refine v_iadd (pc := 1433) dL_law_1433 ?_
  refine v_aarg (pc := 1434) hA (by omega) (by omega) dL_law_1434 ?_
  obtain ⟨x2, hx2, rx2⟩ : ∃ y : Int, y = a (i + 2).toNat ∧ -2147483648 ≤ y ∧ y < 2147483648 := ⟨_, rfl, hA.2 _⟩
  refine v_stk (st' := [vI x2, vI x1, vR g 0]) (by rw [hx2]; first | done | rfl) ?_
  refine v_aload_n (pc := 1435) rfl dL_law_1435 ?_
  refine v_callSH (pc := 1436) (rest := []) (c_L_coinsUsed (G := G) hI.1.1 (by omega) (by omega)) sok_L_coinsUsed wM_L_218 ⟨Nat.le_of_ble_eq_true rfl, Nat.le_of_ble_eq_true rfl⟩ ⟨by show k + 3 ≤ 603072; omega, by show n + 18 ≤ 7219306; omega⟩ (Nat.le_of_ble_eq_true rfl) rfl dL_law_1436 (fun v G1 h1 => ?_) (fun _ _ h => h.elim)
  obtain ⟨⟨c0, hc0⟩, hk9⟩ := kp_coinsUsed hI h1
  subst hc0
  have hm := LawM hI hk9
  refine v_stk (st' := [vI c0]) rfl ?_
  refine v_istore (pc := 1439) (by decide) rfl dL_law_1439 ?_
  refine v_aload_n (pc := 1441) rfl dL_law_1441 ?_
  refine v_aload_n (pc := 1442) rfl dL_law_1442 ?_
  refine v_iload (pc := 1443) rfl dL_law_1443 ?_
  refine v_iconst (pc := 1445) (z := 1) dL_law_1445 ?_
  refine v_iadd (pc := 1446) dL_law_1446 ?_
  refine v_aarg (pc := 1447) hA (by omega) (by omega) dL_law_1447 ?_
  refine v_stk (st' := [vI x1, vR g 106]) (by rw [hx1]; first | done | rfl) ?_
  refine v_aload_n (pc := 1448) rfl dL_law_1448 ?_
  refine v_iload (pc := 1449) rfl dL_law_1449 ?_
  refine v_iconst (pc := 1451) (z := 2) dL_law_1451 ?_
  refine v_iadd (pc := 1452) dL_law_1452 ?_
  refine v_aarg (pc := 1453) hA (by omega) (by omega) dL_law_1453 ?_
  refine v_stk (st' := [vI x2, vI x1, vR g 106]) (by rw [hx2]; first | done | rfl) ?_
  refine v_callV (pc := 1454) (rest := []) (c_X4_coinsUsed (G := G1) hm.1 (by omega) (by omega)) iok_X4_coinsUsed wM_L_220 rfl (by decide) (by decide) rfl ⟨Nat.le_of_ble_eq_true rfl, Nat.le_of_ble_eq_true rfl⟩ ⟨by show (k + 3) + 0 ≤ 603072; omega, by show (n + 18) + 0 ≤ 7219306; omega⟩ (Nat.le_of_ble_eq_true rfl) rfl dL_law_1454 (fun w G2 h2 => ?_) (fun _ _ h => h.elim)
  obtain ⟨c, r, hc1, hw1, hcr, hrr, h8, h119, hL2⟩ := op_coinsUsed hI h1 h2
  subst hw1
  refine v_stk (st' := [vI r]) rfl ?_
  refine v_loc (L' := [some (.ref ar), some (vR g 0), some (vR g 106), some (vR g 119), some (vR g 120), some (vI i), some (vI c), none, none]) ⟨rfl, rfl, rfl, rfl, rfl, rfl, hc1, trivial⟩ ?_
  refine v_istore (pc := 1457) (by decide) rfl dL_law_1457 ?_
  refine v_aload_n (pc := 1459) rfl dL_law_1459 ?_
  refine v_callV (pc := 1460) (rest := []) (c_X4_thrown (G := G2)) iok_X4_thrown wM_L_126 rfl (by decide) (by decide) rfl ⟨Nat.le_of_ble_eq_true rfl, Nat.le_of_ble_eq_true rfl⟩ ⟨by show ((k + 3) + 0) + 0 ≤ 603072; omega, by show ((n + 18) + 0) + 0 ≤ 7219306; omega⟩ (Nat.le_of_ble_eq_true rfl) rfl dL_law_1460 (fun u G3 h3 => ?_) (fun _ _ h => h.elim)
  obtain ⟨rfl, hG9⟩ := h3
  rw [hG9]
  refine v_stk (st' := [vI c]) (by rw [← h8]; rfl) ?_
  refine v_iload (pc := 1463) rfl dL_law_1463 ?_
  refine v_icmp_eq (pc := 1465) (tgt := 1470) (by omega) dL_law_1465 (by decide) (fun bq1 => ?_) (fun bq1 => ?_)
  · skip
    refine v_iload (pc := 1470) rfl dL_law_1470 ?_
    refine v_if_ne (pc := 1472) (tgt := 1487) (by omega) dL_law_1472 (by decide) (fun bq2 => ?_) (fun bq2 => ?_)
    · skip
      refine v_goto (pc := 1487) (tgt := 2167) dL_law_1487 (by decide) ?_
      refine v_loc (L' := [some (.ref ar), some (vR g 0), some (vR g 106), some (vR g 119), some (vR g 120), some (vI i), none, none, none]) ⟨rfl, rfl, rfl, rfl, rfl, rfl, trivial⟩ ?_
      exact kk G2 _ _ (LawI_up hL2 (by omega) (by omega)) (by show (((k + 3) + 0) + 0) ≤ k + 25; omega) (by show (((n + 18) + 0) + 0) ≤ n + 4300; omega)
    · skip
      refine v_aload_n (pc := 1475) rfl dL_law_1475 ?_
      refine v_iconst (pc := 1476) (z := 0) dL_law_1476 ?_
      refine v_lald (pc := 1477) (N := 1) rfl rfl (by decide) (by omega) (by decide) dL_law_1477 ?_
      refine v_stk (st' := [vJ r]) (by rw [h119 (by omega)]; first | done | rfl) ?_
      refine v_iload (pc := 1478) rfl dL_law_1478 ?_
      refine v_i2l (pc := 1480) (by omega) dL_law_1480 ?_
      refine v_lc_eq (pc := 1481) (tgt := 1487) (by omega) (by omega) dL_law_1481 dL_law_1482 (by decide) (fun bq3 => ?_) (fun bq3 => ?_)
      · skip
        refine v_goto (pc := 1487) (tgt := 2167) dL_law_1487 (by decide) ?_
        refine v_loc (L' := [some (.ref ar), some (vR g 0), some (vR g 106), some (vR g 119), some (vR g 120), some (vI i), none, none, none]) ⟨rfl, rfl, rfl, rfl, rfl, rfl, trivial⟩ ?_
        exact kk G2 _ _ (LawI_up hL2 (by omega) (by omega)) (by show (((k + 3) + 0) + 0) ≤ k + 25; omega) (by show (((n + 18) + 0) + 0) ≤ n + 4300; omega)
      · skip
        first | exact absurd rfl bq3 | (exfalso; omega)
  · skip
    first | exact absurd rfl bq1 | (exfalso; omega)
set_option maxHeartbeats 4000000 in
set_option maxRecDepth 100000 in
theorem lc_28 {γ : gT} {g : GT} {ar N : Nat} {a : Nat → Int} {G : Mem} {k n : Nat} {Y A i : Int} (hA : ArgI γ g ar N a) (hI : LawI G Y A) (hy : 0 ≤ Y ∧ Y ≤ 900000 ∧ 0 ≤ A ∧ A ≤ 900000000) (hi : 0 ≤ i ∧ i + 3 ≤ (N : Int)) (hN : N ≤ 1536) (hkk : k ≤ 580000) (hnn : n ≤ 7000000)
    (kk : ∀ (G2 : Mem) (k2 n2 : Nat), LawI G2 (Y + 1200) (A + 6000) → k2 ≤ k + 25 → n2 ≤ n + 4300 → V γ g cL_law 9 RL room_1 G2 k2 n2 2167 [some (.ref ar), some (vR g 0), some (vR g 106), some (vR g 119), some (vR g 120), some (vI i), none, none, none] []) : V γ g cL_law 9 RL room_1 G k n 1490 [some (.ref ar), some (vR g 0), some (vR g 106), some (vR g 119), some (vR g 120), some (vI i), none, none, none] [] := by
  refine v_aload_n (pc := 1490) rfl dL_law_1490 ?_
  refine v_callV (pc := 1491) (rest := []) (c_X3_payableAmounts (G := G) hI.1.1) iok_X3_payableAmounts wM_L_221 rfl (by decide) (by decide) rfl ⟨Nat.le_of_ble_eq_true rfl, Nat.le_of_ble_eq_true rfl⟩ ⟨by show k + 0 ≤ 603072; omega, by show n + 0 ≤ 7219306; omega⟩ (Nat.le_of_ble_eq_true rfl) rfl dL_law_1491 (fun v G1 h1 => ?_) (fun _ _ h => h.elim)
  obtain ⟨x0, hx0⟩ : ∃ x, v = some (vI x) := by obtain ⟨r, h, -⟩ := h1; exact ⟨_, h⟩
  have hk9 : KP9 G G1 := by obtain ⟨r, -, -, h⟩ := h1; exact fun p z a b => h p z (by omega) (by omega)
  subst hx0
  have hm := LawM hI hk9
  refine v_stk (st' := [vI x0]) rfl ?_
  refine v_aload_n (pc := 1494) rfl dL_law_1494 ?_
  refine v_callV (pc := 1495) (rest := [vI x0]) (c_X4_payableAmounts (G := G1) hm.1) iok_X4_payableAmounts wM_L_224 rfl (by decide) (by decide) rfl ⟨Nat.le_of_ble_eq_true rfl, Nat.le_of_ble_eq_true rfl⟩ ⟨by show (k + 0) + 0 ≤ 603072; omega, by show (n + 0) + 0 ≤ 7219306; omega⟩ (Nat.le_of_ble_eq_true rfl) rfl dL_law_1495 (fun w G2 h2 => ?_) (fun _ _ h => h.elim)
  obtain ⟨r, hv1, hw1, hrr, hL2⟩ := op_payableAmounts hI h1 h2
  subst hw1
  have hc2 : vI x0 = vI r := Option.some.inj hv1
  refine v_stk (st' := [vI r, vI r]) (by rw [← hc2]; rfl) ?_
  refine v_icmp_eq (pc := 1498) (tgt := 2167) (by omega) dL_law_1498 (by decide) (fun bq1 => ?_) (fun bq1 => ?_)
  · skip
    refine v_loc (L' := [some (.ref ar), some (vR g 0), some (vR g 106), some (vR g 119), some (vR g 120), some (vI i), none, none, none]) ⟨rfl, rfl, rfl, rfl, rfl, rfl, trivial⟩ ?_
    exact kk G2 _ _ (LawI_up hL2 (by omega) (by omega)) (by show ((k + 0) + 0) ≤ k + 25; omega) (by show ((n + 0) + 0) ≤ n + 4300; omega)
  · skip
    exact absurd rfl bq1
set_option maxHeartbeats 4000000 in
set_option maxRecDepth 100000 in
theorem lc_29 {γ : gT} {g : GT} {ar N : Nat} {a : Nat → Int} {G : Mem} {k n : Nat} {Y A i : Int} (hA : ArgI γ g ar N a) (hI : LawI G Y A) (hy : 0 ≤ Y ∧ Y ≤ 900000 ∧ 0 ≤ A ∧ A ≤ 900000000) (hi : 0 ≤ i ∧ i + 3 ≤ (N : Int)) (hN : N ≤ 1536) (hkk : k ≤ 580000) (hnn : n ≤ 7000000)
    (kk : ∀ (G2 : Mem) (k2 n2 : Nat), LawI G2 (Y + 1200) (A + 6000) → k2 ≤ k + 25 → n2 ≤ n + 4300 → V γ g cL_law 9 RL room_1 G2 k2 n2 2167 [some (.ref ar), some (vR g 0), some (vR g 106), some (vR g 119), some (vR g 120), some (vI i), none, none, none] []) : V γ g cL_law 9 RL room_1 G k n 1503 [some (.ref ar), some (vR g 0), some (vR g 106), some (vR g 119), some (vR g 120), some (vI i), none, none, none] [] := by
  refine v_aload_n (pc := 1503) rfl dL_law_1503 ?_
  refine v_aload_n (pc := 1504) rfl dL_law_1504 ?_
  refine v_iload (pc := 1505) rfl dL_law_1505 ?_
  refine v_iconst (pc := 1507) (z := 1) dL_law_1507 ?_
  refine v_iadd (pc := 1508) dL_law_1508 ?_
  refine v_aarg (pc := 1509) hA (by omega) (by omega) dL_law_1509 ?_
  obtain ⟨x1, hx1, rx1⟩ : ∃ y : Int, y = a (i + 1).toNat ∧ -2147483648 ≤ y ∧ y < 2147483648 := ⟨_, rfl, hA.2 _⟩
  refine v_stk (st' := [vI x1, vR g 0]) (by rw [hx1]; first | done | rfl) ?_
  refine v_callV (pc := 1510) (rest := []) (c_X3_recallGrams (G := G) hI.1.1 (by omega)) iok_X3_recallGrams wM_L_225 rfl (by decide) (by decide) rfl ⟨Nat.le_of_ble_eq_true rfl, Nat.le_of_ble_eq_true rfl⟩ ⟨by show k + 0 ≤ 603072; omega, by show n + 0 ≤ 7219306; omega⟩ (Nat.le_of_ble_eq_true rfl) rfl dL_law_1510 (fun v G1 h1 => ?_) (fun _ _ h => h.elim)
  obtain ⟨x0, hx0⟩ : ∃ x, v = some (vI x) := ⟨_, h1.1⟩
  have hk9 : KP9 G G1 := KP9_e h1.2
  subst hx0
  have hm := LawM hI hk9
  refine v_stk (st' := [vI x0]) rfl ?_
  refine v_aload_n (pc := 1513) rfl dL_law_1513 ?_
  refine v_aload_n (pc := 1514) rfl dL_law_1514 ?_
  refine v_iload (pc := 1515) rfl dL_law_1515 ?_
  refine v_iconst (pc := 1517) (z := 1) dL_law_1517 ?_
  refine v_iadd (pc := 1518) dL_law_1518 ?_
  refine v_aarg (pc := 1519) hA (by omega) (by omega) dL_law_1519 ?_
  refine v_stk (st' := [vI x1, vR g 106, vI x0]) (by rw [hx1]; first | done | rfl) ?_
  refine v_callV (pc := 1520) (rest := [vI x0]) (c_X4_recallGrams (G := G1) hm.1 (by omega)) iok_X4_recallGrams wM_L_228 rfl (by decide) (by decide) rfl ⟨Nat.le_of_ble_eq_true rfl, Nat.le_of_ble_eq_true rfl⟩ ⟨by show (k + 0) + 0 ≤ 603072; omega, by show (n + 0) + 0 ≤ 7219306; omega⟩ (Nat.le_of_ble_eq_true rfl) rfl dL_law_1520 (fun w G2 h2 => ?_) (fun _ _ h => h.elim)
  obtain ⟨r, hv1, hw1, hrr, hL2⟩ := op_recallGrams hI h1 h2
  subst hw1
  have hc2 : vI x0 = vI r := Option.some.inj hv1
  refine v_stk (st' := [vI r, vI r]) (by rw [← hc2]; rfl) ?_
  refine v_icmp_eq (pc := 1523) (tgt := 2167) (by omega) dL_law_1523 (by decide) (fun bq1 => ?_) (fun bq1 => ?_)
  · skip
    refine v_loc (L' := [some (.ref ar), some (vR g 0), some (vR g 106), some (vR g 119), some (vR g 120), some (vI i), none, none, none]) ⟨rfl, rfl, rfl, rfl, rfl, rfl, trivial⟩ ?_
    exact kk G2 _ _ (LawI_up hL2 (by omega) (by omega)) (by show ((k + 0) + 0) ≤ k + 25; omega) (by show ((n + 0) + 0) ≤ n + 4300; omega)
  · skip
    exact absurd rfl bq1
set_option maxHeartbeats 4000000 in
set_option maxRecDepth 100000 in
theorem lc_30 {γ : gT} {g : GT} {ar N : Nat} {a : Nat → Int} {G : Mem} {k n : Nat} {Y A i : Int} (hA : ArgI γ g ar N a) (hI : LawI G Y A) (hy : 0 ≤ Y ∧ Y ≤ 900000 ∧ 0 ≤ A ∧ A ≤ 900000000) (hi : 0 ≤ i ∧ i + 3 ≤ (N : Int)) (hN : N ≤ 1536) (hkk : k ≤ 580000) (hnn : n ≤ 7000000)
    (kk : ∀ (G2 : Mem) (k2 n2 : Nat), LawI G2 (Y + 1200) (A + 6000) → k2 ≤ k + 25 → n2 ≤ n + 4300 → V γ g cL_law 9 RL room_1 G2 k2 n2 2167 [some (.ref ar), some (vR g 0), some (vR g 106), some (vR g 119), some (vR g 120), some (vI i), none, none, none] []) : V γ g cL_law 9 RL room_1 G k n 1528 [some (.ref ar), some (vR g 0), some (vR g 106), some (vR g 119), some (vR g 120), some (vI i), none, none, none] [] := by
  refine v_aload_n (pc := 1528) rfl dL_law_1528 ?_
  refine v_callV (pc := 1529) (rest := []) (c_X3_struckTotal (G := G) ) iok_X3_struckTotal wM_L_229 rfl (by decide) (by decide) rfl ⟨Nat.le_of_ble_eq_true rfl, Nat.le_of_ble_eq_true rfl⟩ ⟨by show k + 0 ≤ 603072; omega, by show n + 0 ≤ 7219306; omega⟩ (Nat.le_of_ble_eq_true rfl) rfl dL_law_1529 (fun v G1 h1 => ?_) (fun _ _ h => h.elim)
  obtain ⟨x0, hx0⟩ : ∃ x, v = some (vI x) := ⟨_, h1.1⟩
  have hk9 : KP9 G G1 := KP9_e h1.2
  subst hx0
  have hm := LawM hI hk9
  refine v_stk (st' := [vI x0]) rfl ?_
  refine v_aload_n (pc := 1532) rfl dL_law_1532 ?_
  refine v_callV (pc := 1533) (rest := [vI x0]) (c_X4_struckTotal (G := G1) ) iok_X4_struckTotal wM_L_232 rfl (by decide) (by decide) rfl ⟨Nat.le_of_ble_eq_true rfl, Nat.le_of_ble_eq_true rfl⟩ ⟨by show (k + 0) + 0 ≤ 603072; omega, by show (n + 0) + 0 ≤ 7219306; omega⟩ (Nat.le_of_ble_eq_true rfl) rfl dL_law_1533 (fun w G2 h2 => ?_) (fun _ _ h => h.elim)
  obtain ⟨r, hv1, hw1, hrr, hL2⟩ := op_struckTotal hI h1 h2
  subst hw1
  have hc2 : vI x0 = vI r := Option.some.inj hv1
  refine v_stk (st' := [vI r, vI r]) (by rw [← hc2]; rfl) ?_
  refine v_icmp_eq (pc := 1536) (tgt := 2167) (by omega) dL_law_1536 (by decide) (fun bq1 => ?_) (fun bq1 => ?_)
  · skip
    refine v_loc (L' := [some (.ref ar), some (vR g 0), some (vR g 106), some (vR g 119), some (vR g 120), some (vI i), none, none, none]) ⟨rfl, rfl, rfl, rfl, rfl, rfl, trivial⟩ ?_
    exact kk G2 _ _ (LawI_up hL2 (by omega) (by omega)) (by show ((k + 0) + 0) ≤ k + 25; omega) (by show ((n + 0) + 0) ≤ n + 4300; omega)
  · skip
    exact absurd rfl bq1
set_option maxHeartbeats 4000000 in
set_option maxRecDepth 100000 in
theorem lc_31 {γ : gT} {g : GT} {ar N : Nat} {a : Nat → Int} {G : Mem} {k n : Nat} {Y A i : Int} (hA : ArgI γ g ar N a) (hI : LawI G Y A) (hy : 0 ≤ Y ∧ Y ≤ 900000 ∧ 0 ≤ A ∧ A ≤ 900000000) (hi : 0 ≤ i ∧ i + 3 ≤ (N : Int)) (hN : N ≤ 1536) (hkk : k ≤ 580000) (hnn : n ≤ 7000000)
    (kk : ∀ (G2 : Mem) (k2 n2 : Nat), LawI G2 (Y + 1200) (A + 6000) → k2 ≤ k + 25 → n2 ≤ n + 4300 → V γ g cL_law 9 RL room_1 G2 k2 n2 2167 [some (.ref ar), some (vR g 0), some (vR g 106), some (vR g 119), some (vR g 120), some (vI i), none, none, none] []) : V γ g cL_law 9 RL room_1 G k n 1541 [some (.ref ar), some (vR g 0), some (vR g 106), some (vR g 119), some (vR g 120), some (vI i), none, none, none] [] := by
  refine v_aload_n (pc := 1541) rfl dL_law_1541 ?_
  refine v_callV (pc := 1542) (rest := []) (c_X3_paidTotal (G := G) ) iok_X3_paidTotal wM_L_233 rfl (by decide) (by decide) rfl ⟨Nat.le_of_ble_eq_true rfl, Nat.le_of_ble_eq_true rfl⟩ ⟨by show k + 0 ≤ 603072; omega, by show n + 0 ≤ 7219306; omega⟩ (Nat.le_of_ble_eq_true rfl) rfl dL_law_1542 (fun v G1 h1 => ?_) (fun _ _ h => h.elim)
  obtain ⟨x0, hx0⟩ : ∃ x, v = some (vI x) := ⟨_, h1.1⟩
  have hk9 : KP9 G G1 := KP9_e h1.2
  subst hx0
  have hm := LawM hI hk9
  refine v_stk (st' := [vI x0]) rfl ?_
  refine v_aload_n (pc := 1545) rfl dL_law_1545 ?_
  refine v_callV (pc := 1546) (rest := [vI x0]) (c_X4_paidTotal (G := G1) ) iok_X4_paidTotal wM_L_236 rfl (by decide) (by decide) rfl ⟨Nat.le_of_ble_eq_true rfl, Nat.le_of_ble_eq_true rfl⟩ ⟨by show (k + 0) + 0 ≤ 603072; omega, by show (n + 0) + 0 ≤ 7219306; omega⟩ (Nat.le_of_ble_eq_true rfl) rfl dL_law_1546 (fun w G2 h2 => ?_) (fun _ _ h => h.elim)
  obtain ⟨r, hv1, hw1, hrr, hL2⟩ := op_paidTotal hI h1 h2
  subst hw1
  have hc2 : vI x0 = vI r := Option.some.inj hv1
  refine v_stk (st' := [vI r, vI r]) (by rw [← hc2]; rfl) ?_
  refine v_icmp_eq (pc := 1549) (tgt := 2167) (by omega) dL_law_1549 (by decide) (fun bq1 => ?_) (fun bq1 => ?_)
  · skip
    refine v_loc (L' := [some (.ref ar), some (vR g 0), some (vR g 106), some (vR g 119), some (vR g 120), some (vI i), none, none, none]) ⟨rfl, rfl, rfl, rfl, rfl, rfl, trivial⟩ ?_
    exact kk G2 _ _ (LawI_up hL2 (by omega) (by omega)) (by show ((k + 0) + 0) ≤ k + 25; omega) (by show ((n + 0) + 0) ≤ n + 4300; omega)
  · skip
    exact absurd rfl bq1
set_option maxHeartbeats 4000000 in
set_option maxRecDepth 100000 in
theorem lc_32 {γ : gT} {g : GT} {ar N : Nat} {a : Nat → Int} {G : Mem} {k n : Nat} {Y A i : Int} (hA : ArgI γ g ar N a) (hI : LawI G Y A) (hy : 0 ≤ Y ∧ Y ≤ 900000 ∧ 0 ≤ A ∧ A ≤ 900000000) (hi : 0 ≤ i ∧ i + 3 ≤ (N : Int)) (hN : N ≤ 1536) (hkk : k ≤ 580000) (hnn : n ≤ 7000000)
    (kk : ∀ (G2 : Mem) (k2 n2 : Nat), LawI G2 (Y + 1200) (A + 6000) → k2 ≤ k + 25 → n2 ≤ n + 4300 → V γ g cL_law 9 RL room_1 G2 k2 n2 2167 [some (.ref ar), some (vR g 0), some (vR g 106), some (vR g 119), some (vR g 120), some (vI i), none, none, none] []) : V γ g cL_law 9 RL room_1 G k n 1554 [some (.ref ar), some (vR g 0), some (vR g 106), some (vR g 119), some (vR g 120), some (vI i), none, none, none] [] := by
  refine v_aload_n (pc := 1554) rfl dL_law_1554 ?_
  refine v_callV (pc := 1555) (rest := []) (c_X3_paidWeight (G := G) ) iok_X3_paidWeight wM_L_237 rfl (by decide) (by decide) rfl ⟨Nat.le_of_ble_eq_true rfl, Nat.le_of_ble_eq_true rfl⟩ ⟨by show k + 0 ≤ 603072; omega, by show n + 0 ≤ 7219306; omega⟩ (Nat.le_of_ble_eq_true rfl) rfl dL_law_1555 (fun v G1 h1 => ?_) (fun _ _ h => h.elim)
  obtain ⟨x0, hx0⟩ : ∃ x, v = some (vI x) := ⟨_, h1.1⟩
  have hk9 : KP9 G G1 := KP9_e h1.2
  subst hx0
  have hm := LawM hI hk9
  refine v_stk (st' := [vI x0]) rfl ?_
  refine v_aload_n (pc := 1558) rfl dL_law_1558 ?_
  refine v_callV (pc := 1559) (rest := [vI x0]) (c_X4_paidWeight (G := G1) ) iok_X4_paidWeight wM_L_240 rfl (by decide) (by decide) rfl ⟨Nat.le_of_ble_eq_true rfl, Nat.le_of_ble_eq_true rfl⟩ ⟨by show (k + 0) + 0 ≤ 603072; omega, by show (n + 0) + 0 ≤ 7219306; omega⟩ (Nat.le_of_ble_eq_true rfl) rfl dL_law_1559 (fun w G2 h2 => ?_) (fun _ _ h => h.elim)
  obtain ⟨r, hv1, hw1, hrr, hL2⟩ := op_paidWeight hI h1 h2
  subst hw1
  have hc2 : vI x0 = vI r := Option.some.inj hv1
  refine v_stk (st' := [vI r, vI r]) (by rw [← hc2]; rfl) ?_
  refine v_icmp_eq (pc := 1562) (tgt := 2167) (by omega) dL_law_1562 (by decide) (fun bq1 => ?_) (fun bq1 => ?_)
  · skip
    refine v_loc (L' := [some (.ref ar), some (vR g 0), some (vR g 106), some (vR g 119), some (vR g 120), some (vI i), none, none, none]) ⟨rfl, rfl, rfl, rfl, rfl, rfl, trivial⟩ ?_
    exact kk G2 _ _ (LawI_up hL2 (by omega) (by omega)) (by show ((k + 0) + 0) ≤ k + 25; omega) (by show ((n + 0) + 0) ≤ n + 4300; omega)
  · skip
    exact absurd rfl bq1
set_option maxHeartbeats 4000000 in
set_option maxRecDepth 100000 in
theorem lc_33 {γ : gT} {g : GT} {ar N : Nat} {a : Nat → Int} {G : Mem} {k n : Nat} {Y A i : Int} (hA : ArgI γ g ar N a) (hI : LawI G Y A) (hy : 0 ≤ Y ∧ Y ≤ 900000 ∧ 0 ≤ A ∧ A ≤ 900000000) (hi : 0 ≤ i ∧ i + 3 ≤ (N : Int)) (hN : N ≤ 1536) (hkk : k ≤ 580000) (hnn : n ≤ 7000000)
    (kk : ∀ (G2 : Mem) (k2 n2 : Nat), LawI G2 (Y + 1200) (A + 6000) → k2 ≤ k + 25 → n2 ≤ n + 4300 → V γ g cL_law 9 RL room_1 G2 k2 n2 2167 [some (.ref ar), some (vR g 0), some (vR g 106), some (vR g 119), some (vR g 120), some (vI i), none, none, none] []) : V γ g cL_law 9 RL room_1 G k n 1567 [some (.ref ar), some (vR g 0), some (vR g 106), some (vR g 119), some (vR g 120), some (vI i), none, none, none] [] := by
  refine v_aload_n (pc := 1567) rfl dL_law_1567 ?_
  refine v_callV (pc := 1568) (rest := []) (c_X3_lostWeight (G := G) ) iok_X3_lostWeight wM_L_241 rfl (by decide) (by decide) rfl ⟨Nat.le_of_ble_eq_true rfl, Nat.le_of_ble_eq_true rfl⟩ ⟨by show k + 0 ≤ 603072; omega, by show n + 0 ≤ 7219306; omega⟩ (Nat.le_of_ble_eq_true rfl) rfl dL_law_1568 (fun v G1 h1 => ?_) (fun _ _ h => h.elim)
  obtain ⟨x0, hx0⟩ : ∃ x, v = some (vI x) := ⟨_, h1.1⟩
  have hk9 : KP9 G G1 := KP9_e h1.2
  subst hx0
  have hm := LawM hI hk9
  refine v_stk (st' := [vI x0]) rfl ?_
  refine v_aload_n (pc := 1571) rfl dL_law_1571 ?_
  refine v_callV (pc := 1572) (rest := [vI x0]) (c_X4_lostWeight (G := G1) ) iok_X4_lostWeight wM_L_244 rfl (by decide) (by decide) rfl ⟨Nat.le_of_ble_eq_true rfl, Nat.le_of_ble_eq_true rfl⟩ ⟨by show (k + 0) + 0 ≤ 603072; omega, by show (n + 0) + 0 ≤ 7219306; omega⟩ (Nat.le_of_ble_eq_true rfl) rfl dL_law_1572 (fun w G2 h2 => ?_) (fun _ _ h => h.elim)
  obtain ⟨r, hv1, hw1, hrr, hL2⟩ := op_lostWeight hI h1 h2
  subst hw1
  have hc2 : vI x0 = vI r := Option.some.inj hv1
  refine v_stk (st' := [vI r, vI r]) (by rw [← hc2]; rfl) ?_
  refine v_icmp_eq (pc := 1575) (tgt := 2167) (by omega) dL_law_1575 (by decide) (fun bq1 => ?_) (fun bq1 => ?_)
  · skip
    refine v_loc (L' := [some (.ref ar), some (vR g 0), some (vR g 106), some (vR g 119), some (vR g 120), some (vI i), none, none, none]) ⟨rfl, rfl, rfl, rfl, rfl, rfl, trivial⟩ ?_
    exact kk G2 _ _ (LawI_up hL2 (by omega) (by omega)) (by show ((k + 0) + 0) ≤ k + 25; omega) (by show ((n + 0) + 0) ≤ n + 4300; omega)
  · skip
    exact absurd rfl bq1
set_option maxHeartbeats 4000000 in
set_option maxRecDepth 100000 in
theorem lc_34 {γ : gT} {g : GT} {ar N : Nat} {a : Nat → Int} {G : Mem} {k n : Nat} {Y A i : Int} (hA : ArgI γ g ar N a) (hI : LawI G Y A) (hy : 0 ≤ Y ∧ Y ≤ 900000 ∧ 0 ≤ A ∧ A ≤ 900000000) (hi : 0 ≤ i ∧ i + 3 ≤ (N : Int)) (hN : N ≤ 1536) (hkk : k ≤ 580000) (hnn : n ≤ 7000000)
    (kk : ∀ (G2 : Mem) (k2 n2 : Nat), LawI G2 (Y + 1200) (A + 6000) → k2 ≤ k + 25 → n2 ≤ n + 4300 → V γ g cL_law 9 RL room_1 G2 k2 n2 2167 [some (.ref ar), some (vR g 0), some (vR g 106), some (vR g 119), some (vR g 120), some (vI i), none, none, none] []) : V γ g cL_law 9 RL room_1 G k n 1580 [some (.ref ar), some (vR g 0), some (vR g 106), some (vR g 119), some (vR g 120), some (vI i), none, none, none] [] := by
  refine v_aload_n (pc := 1580) rfl dL_law_1580 ?_
  refine v_callV (pc := 1581) (rest := []) (c_X3_addedWeight (G := G) ) iok_X3_addedWeight wM_L_245 rfl (by decide) (by decide) rfl ⟨Nat.le_of_ble_eq_true rfl, Nat.le_of_ble_eq_true rfl⟩ ⟨by show k + 0 ≤ 603072; omega, by show n + 0 ≤ 7219306; omega⟩ (Nat.le_of_ble_eq_true rfl) rfl dL_law_1581 (fun v G1 h1 => ?_) (fun _ _ h => h.elim)
  obtain ⟨x0, hx0⟩ : ∃ x, v = some (vI x) := ⟨_, h1.1⟩
  have hk9 : KP9 G G1 := KP9_e h1.2
  subst hx0
  have hm := LawM hI hk9
  refine v_stk (st' := [vI x0]) rfl ?_
  refine v_aload_n (pc := 1584) rfl dL_law_1584 ?_
  refine v_callV (pc := 1585) (rest := [vI x0]) (c_X4_addedWeight (G := G1) ) iok_X4_addedWeight wM_L_248 rfl (by decide) (by decide) rfl ⟨Nat.le_of_ble_eq_true rfl, Nat.le_of_ble_eq_true rfl⟩ ⟨by show (k + 0) + 0 ≤ 603072; omega, by show (n + 0) + 0 ≤ 7219306; omega⟩ (Nat.le_of_ble_eq_true rfl) rfl dL_law_1585 (fun w G2 h2 => ?_) (fun _ _ h => h.elim)
  obtain ⟨r, hv1, hw1, hrr, hL2⟩ := op_addedWeight hI h1 h2
  subst hw1
  have hc2 : vI x0 = vI r := Option.some.inj hv1
  refine v_stk (st' := [vI r, vI r]) (by rw [← hc2]; rfl) ?_
  refine v_icmp_eq (pc := 1588) (tgt := 2167) (by omega) dL_law_1588 (by decide) (fun bq1 => ?_) (fun bq1 => ?_)
  · skip
    refine v_loc (L' := [some (.ref ar), some (vR g 0), some (vR g 106), some (vR g 119), some (vR g 120), some (vI i), none, none, none]) ⟨rfl, rfl, rfl, rfl, rfl, rfl, trivial⟩ ?_
    exact kk G2 _ _ (LawI_up hL2 (by omega) (by omega)) (by show ((k + 0) + 0) ≤ k + 25; omega) (by show ((n + 0) + 0) ≤ n + 4300; omega)
  · skip
    exact absurd rfl bq1
set_option maxHeartbeats 4000000 in
set_option maxRecDepth 100000 in
theorem lc_35 {γ : gT} {g : GT} {ar N : Nat} {a : Nat → Int} {G : Mem} {k n : Nat} {Y A i : Int} (hA : ArgI γ g ar N a) (hI : LawI G Y A) (hy : 0 ≤ Y ∧ Y ≤ 900000 ∧ 0 ≤ A ∧ A ≤ 900000000) (hi : 0 ≤ i ∧ i + 3 ≤ (N : Int)) (hN : N ≤ 1536) (hkk : k ≤ 580000) (hnn : n ≤ 7000000)
    (kk : ∀ (G2 : Mem) (k2 n2 : Nat), LawI G2 (Y + 1200) (A + 6000) → k2 ≤ k + 25 → n2 ≤ n + 4300 → V γ g cL_law 9 RL room_1 G2 k2 n2 2167 [some (.ref ar), some (vR g 0), some (vR g 106), some (vR g 119), some (vR g 120), some (vI i), none, none, none] []) : V γ g cL_law 9 RL room_1 G k n 1593 [some (.ref ar), some (vR g 0), some (vR g 106), some (vR g 119), some (vR g 120), some (vI i), none, none, none] [] := by
  refine v_aload_n (pc := 1593) rfl dL_law_1593 ?_
  refine v_aload (pc := 1594) rfl dL_law_1594 ?_
  refine v_callSH (pc := 1596) (rest := []) (c_L_meanWear (G := G) hI.1.1) sok_L_meanWear wM_L_249 ⟨Nat.le_of_ble_eq_true rfl, Nat.le_of_ble_eq_true rfl⟩ ⟨by show k + 1 ≤ 603072; omega, by show n + 6 ≤ 7219306; omega⟩ (Nat.le_of_ble_eq_true rfl) rfl dL_law_1596 (fun v G1 h1 => ?_) (fun _ _ h => h.elim)
  obtain ⟨⟨c0, hc0⟩, hk9⟩ := kp_meanWear hI h1
  subst hc0
  have hm := LawM hI hk9
  refine v_stk (st' := [vI c0]) rfl ?_
  refine v_istore (pc := 1599) (by decide) rfl dL_law_1599 ?_
  refine v_aload_n (pc := 1601) rfl dL_law_1601 ?_
  refine v_callV (pc := 1602) (rest := []) (c_X4_meanWear (G := G1) hm.1) iok_X4_meanWear wM_L_252 rfl (by decide) (by decide) rfl ⟨Nat.le_of_ble_eq_true rfl, Nat.le_of_ble_eq_true rfl⟩ ⟨by show (k + 1) + 0 ≤ 603072; omega, by show (n + 6) + 0 ≤ 7219306; omega⟩ (Nat.le_of_ble_eq_true rfl) rfl dL_law_1602 (fun w G2 h2 => ?_) (fun _ _ h => h.elim)
  obtain ⟨c, r, hc1, hw1, hcr, h8, hfr, hL2⟩ := op_meanWear hI h1 h2
  subst hw1
  refine v_stk (st' := [.double r]) rfl ?_
  refine v_loc (L' := [some (.ref ar), some (vR g 0), some (vR g 106), some (vR g 119), some (vR g 120), some (vI i), some (vI c), none, none]) ⟨rfl, rfl, rfl, rfl, rfl, rfl, hc1, trivial⟩ ?_
  refine v_dstore (pc := 1605) (by decide) rfl dL_law_1605 ?_
  refine v_aload_n (pc := 1607) rfl dL_law_1607 ?_
  refine v_callV (pc := 1608) (rest := []) (c_X4_thrown (G := G2)) iok_X4_thrown wM_L_126 rfl (by decide) (by decide) rfl ⟨Nat.le_of_ble_eq_true rfl, Nat.le_of_ble_eq_true rfl⟩ ⟨by show ((k + 1) + 0) + 0 ≤ 603072; omega, by show ((n + 6) + 0) + 0 ≤ 7219306; omega⟩ (Nat.le_of_ble_eq_true rfl) rfl dL_law_1608 (fun u G3 h3 => ?_) (fun _ _ h => h.elim)
  obtain ⟨rfl, hG9⟩ := h3
  rw [hG9]
  refine v_stk (st' := [vI c]) (by rw [← h8]; rfl) ?_
  refine v_iload (pc := 1611) rfl dL_law_1611 ?_
  refine v_icmp_eq (pc := 1613) (tgt := 1618) (by omega) dL_law_1613 (by decide) (fun bq1 => ?_) (fun bq1 => ?_)
  · skip
    refine v_iload (pc := 1618) rfl dL_law_1618 ?_
    refine v_if_ne (pc := 1620) (tgt := 1655) (by omega) dL_law_1620 (by decide) (fun bq2 => ?_) (fun bq2 => ?_)
    · skip
      refine v_goto (pc := 1655) (tgt := 2167) dL_law_1655 (by decide) ?_
      refine v_loc (L' := [some (.ref ar), some (vR g 0), some (vR g 106), some (vR g 119), some (vR g 120), some (vI i), none, none, none]) ⟨rfl, rfl, rfl, rfl, rfl, rfl, trivial⟩ ?_
      exact kk G2 _ _ (LawI_up hL2 (by omega) (by omega)) (by show (((k + 1) + 0) + 0) ≤ k + 25; omega) (by show (((n + 6) + 0) + 0) ≤ n + 4300; omega)
    · skip
      refine v_aload (pc := 1623) rfl dL_law_1623 ?_
      refine v_iconst (pc := 1625) (z := 0) dL_law_1625 ?_
      refine v_dald (pc := 1626) (N := 1) rfl rfl (by decide) (by omega) (by decide) dL_law_1626 ?_
      refine v_stk (st' := [.double r]) (by rw [(hfr (by omega)).1]) ?_
      refine v_dload (pc := 1627) rfl dL_law_1627 ?_
      refine v_dcmp (pc := 1629) dL_law_1629 ?_
      refine v_stk (st' := [vI 0]) (by rw [(hfr (by omega)).2]; rfl) ?_
      refine v_if_eq (pc := 1630) (tgt := 1655) (by omega) dL_law_1630 (by decide) (fun _ => ?_) (fun bq3 => absurd bq3 (by decide))
      refine v_goto (pc := 1655) (tgt := 2167) dL_law_1655 (by decide) ?_
      refine v_loc (L' := [some (.ref ar), some (vR g 0), some (vR g 106), some (vR g 119), some (vR g 120), some (vI i), none, none, none]) ⟨rfl, rfl, rfl, rfl, rfl, rfl, trivial⟩ ?_
      exact kk G2 _ _ (LawI_up hL2 (by omega) (by omega)) (by show (((k + 1) + 0) + 0) ≤ k + 25; omega) (by show (((n + 6) + 0) + 0) ≤ n + 4300; omega)
  · skip
    first | exact absurd rfl bq1 | (exfalso; omega)
set_option maxHeartbeats 4000000 in
set_option maxRecDepth 100000 in
theorem lc_36 {γ : gT} {g : GT} {ar N : Nat} {a : Nat → Int} {G : Mem} {k n : Nat} {Y A i : Int} (hA : ArgI γ g ar N a) (hI : LawI G Y A) (hy : 0 ≤ Y ∧ Y ≤ 900000 ∧ 0 ≤ A ∧ A ≤ 900000000) (hi : 0 ≤ i ∧ i + 3 ≤ (N : Int)) (hN : N ≤ 1536) (hkk : k ≤ 580000) (hnn : n ≤ 7000000)
    (kk : ∀ (G2 : Mem) (k2 n2 : Nat), LawI G2 (Y + 1200) (A + 6000) → k2 ≤ k + 25 → n2 ≤ n + 4300 → V γ g cL_law 9 RL room_1 G2 k2 n2 2167 [some (.ref ar), some (vR g 0), some (vR g 106), some (vR g 119), some (vR g 120), some (vI i), none, none, none] []) : V γ g cL_law 9 RL room_1 G k n 1658 [some (.ref ar), some (vR g 0), some (vR g 106), some (vR g 119), some (vR g 120), some (vI i), none, none, none] [] := by
  refine v_aload_n (pc := 1658) rfl dL_law_1658 ?_
  refine v_aload_n (pc := 1659) rfl dL_law_1659 ?_
  refine v_iload (pc := 1660) rfl dL_law_1660 ?_
  refine v_iconst (pc := 1662) (z := 1) dL_law_1662 ?_
  refine v_iadd (pc := 1663) dL_law_1663 ?_
  refine v_aarg (pc := 1664) hA (by omega) (by omega) dL_law_1664 ?_
  obtain ⟨x1, hx1, rx1⟩ : ∃ y : Int, y = a (i + 1).toNat ∧ -2147483648 ≤ y ∧ y < 2147483648 := ⟨_, rfl, hA.2 _⟩
  refine v_stk (st' := [vI x1, vR g 0]) (by rw [hx1]; first | done | rfl) ?_
  refine v_i2c (pc := 1665) dL_law_1665 ?_
  obtain ⟨cc9, hcc9, rcc9⟩ : ∃ y : Int, y = x1 % 65536 ∧ 0 ≤ y ∧ y < 65536 := ⟨_, rfl, by omega⟩
  refine v_stk (st' := [vI cc9, vR g 0]) (by rw [hcc9]; first | done | rfl) ?_
  refine v_aload (pc := 1666) rfl dL_law_1666 ?_
  refine v_callSH (pc := 1668) (rest := []) (c_L_gradeShare (G := G) hI.1.1 (by omega)) sok_L_gradeShare wM_L_253 ⟨Nat.le_of_ble_eq_true rfl, Nat.le_of_ble_eq_true rfl⟩ ⟨by show k + 2 ≤ 603072; omega, by show n + 12 ≤ 7219306; omega⟩ (Nat.le_of_ble_eq_true rfl) rfl dL_law_1668 (fun v G1 h1 => ?_) (fun _ _ h => h.elim)
  obtain ⟨⟨c0, hc0⟩, hk9⟩ := kp_gradeShare hI h1
  subst hc0
  have hm := LawM hI hk9
  refine v_stk (st' := [vI c0]) rfl ?_
  refine v_istore (pc := 1671) (by decide) rfl dL_law_1671 ?_
  refine v_aload_n (pc := 1673) rfl dL_law_1673 ?_
  refine v_aload_n (pc := 1674) rfl dL_law_1674 ?_
  refine v_iload (pc := 1675) rfl dL_law_1675 ?_
  refine v_iconst (pc := 1677) (z := 1) dL_law_1677 ?_
  refine v_iadd (pc := 1678) dL_law_1678 ?_
  refine v_aarg (pc := 1679) hA (by omega) (by omega) dL_law_1679 ?_
  refine v_stk (st' := [vI x1, vR g 106]) (by rw [hx1]; first | done | rfl) ?_
  refine v_i2c (pc := 1680) dL_law_1680 ?_
  refine v_stk (st' := [vI cc9, vR g 106]) (by rw [hcc9]; first | done | rfl) ?_
  refine v_callV (pc := 1681) (rest := []) (c_X4_gradeShare (G := G1) hm.1 (by omega)) iok_X4_gradeShare wM_L_256 rfl (by decide) (by decide) rfl ⟨Nat.le_of_ble_eq_true rfl, Nat.le_of_ble_eq_true rfl⟩ ⟨by show (k + 2) + 0 ≤ 603072; omega, by show (n + 12) + 0 ≤ 7219306; omega⟩ (Nat.le_of_ble_eq_true rfl) rfl dL_law_1681 (fun w G2 h2 => ?_) (fun _ _ h => h.elim)
  obtain ⟨c, r, hc1, hw1, hcr, h8, hfr, hL2⟩ := op_gradeShare hI h1 h2
  subst hw1
  refine v_stk (st' := [.float r]) rfl ?_
  refine v_loc (L' := [some (.ref ar), some (vR g 0), some (vR g 106), some (vR g 119), some (vR g 120), some (vI i), some (vI c), none, none]) ⟨rfl, rfl, rfl, rfl, rfl, rfl, hc1, trivial⟩ ?_
  refine v_fstore (pc := 1684) (by decide) rfl dL_law_1684 ?_
  refine v_aload_n (pc := 1686) rfl dL_law_1686 ?_
  refine v_callV (pc := 1687) (rest := []) (c_X4_thrown (G := G2)) iok_X4_thrown wM_L_126 rfl (by decide) (by decide) rfl ⟨Nat.le_of_ble_eq_true rfl, Nat.le_of_ble_eq_true rfl⟩ ⟨by show ((k + 2) + 0) + 0 ≤ 603072; omega, by show ((n + 12) + 0) + 0 ≤ 7219306; omega⟩ (Nat.le_of_ble_eq_true rfl) rfl dL_law_1687 (fun u G3 h3 => ?_) (fun _ _ h => h.elim)
  obtain ⟨rfl, hG9⟩ := h3
  rw [hG9]
  refine v_stk (st' := [vI c]) (by rw [← h8]; rfl) ?_
  refine v_iload (pc := 1690) rfl dL_law_1690 ?_
  refine v_icmp_eq (pc := 1692) (tgt := 1697) (by omega) dL_law_1692 (by decide) (fun bq1 => ?_) (fun bq1 => ?_)
  · skip
    refine v_iload (pc := 1697) rfl dL_law_1697 ?_
    refine v_if_ne (pc := 1699) (tgt := 1735) (by omega) dL_law_1699 (by decide) (fun bq2 => ?_) (fun bq2 => ?_)
    · skip
      refine v_goto (pc := 1735) (tgt := 2167) dL_law_1735 (by decide) ?_
      refine v_loc (L' := [some (.ref ar), some (vR g 0), some (vR g 106), some (vR g 119), some (vR g 120), some (vI i), none, none, none]) ⟨rfl, rfl, rfl, rfl, rfl, rfl, trivial⟩ ?_
      exact kk G2 _ _ (LawI_up hL2 (by omega) (by omega)) (by show (((k + 2) + 0) + 0) ≤ k + 25; omega) (by show (((n + 12) + 0) + 0) ≤ n + 4300; omega)
    · skip
      refine v_aload (pc := 1702) rfl dL_law_1702 ?_
      refine v_iconst (pc := 1704) (z := 0) dL_law_1704 ?_
      refine v_dald (pc := 1705) (N := 1) rfl rfl (by decide) (by omega) (by decide) dL_law_1705 ?_
      refine v_stk (st' := [.double (FP.f2d r)]) (by rw [(hfr (by omega)).1]) ?_
      refine v_fload (pc := 1706) rfl dL_law_1706 ?_
      refine v_f2d (pc := 1708) (hfr (by omega)).2.1 dL_law_1708 ?_
      refine v_dcmp (pc := 1709) dL_law_1709 ?_
      refine v_stk (st' := [vI 0]) (by rw [(hfr (by omega)).2.2]; rfl) ?_
      refine v_if_eq (pc := 1710) (tgt := 1735) (by omega) dL_law_1710 (by decide) (fun _ => ?_) (fun bq3 => absurd bq3 (by decide))
      refine v_goto (pc := 1735) (tgt := 2167) dL_law_1735 (by decide) ?_
      refine v_loc (L' := [some (.ref ar), some (vR g 0), some (vR g 106), some (vR g 119), some (vR g 120), some (vI i), none, none, none]) ⟨rfl, rfl, rfl, rfl, rfl, rfl, trivial⟩ ?_
      exact kk G2 _ _ (LawI_up hL2 (by omega) (by omega)) (by show (((k + 2) + 0) + 0) ≤ k + 25; omega) (by show (((n + 12) + 0) + 0) ≤ n + 4300; omega)
  · skip
    first | exact absurd rfl bq1 | (exfalso; omega)
set_option maxHeartbeats 4000000 in
set_option maxRecDepth 100000 in
theorem lc_37 {γ : gT} {g : GT} {ar N : Nat} {a : Nat → Int} {G : Mem} {k n : Nat} {Y A i : Int} (hA : ArgI γ g ar N a) (hI : LawI G Y A) (hy : 0 ≤ Y ∧ Y ≤ 900000 ∧ 0 ≤ A ∧ A ≤ 900000000) (hi : 0 ≤ i ∧ i + 3 ≤ (N : Int)) (hN : N ≤ 1536) (hkk : k ≤ 580000) (hnn : n ≤ 7000000)
    (kk : ∀ (G2 : Mem) (k2 n2 : Nat), LawI G2 (Y + 1200) (A + 6000) → k2 ≤ k + 25 → n2 ≤ n + 4300 → V γ g cL_law 9 RL room_1 G2 k2 n2 2167 [some (.ref ar), some (vR g 0), some (vR g 106), some (vR g 119), some (vR g 120), some (vI i), none, none, none] []) : V γ g cL_law 9 RL room_1 G k n 1738 [some (.ref ar), some (vR g 0), some (vR g 106), some (vR g 119), some (vR g 120), some (vI i), none, none, none] [] := by
  refine v_aload_n (pc := 1738) rfl dL_law_1738 ?_
  refine v_callV (pc := 1739) (rest := []) (c_X3_isConsistent (G := G) hI.1.1 (fun a _ _ r h => tab_sets hI.1.1 a r h) (val_both hI.1.1) hI.1.2.2.2.1 (by have := hI.1.2.2.2.2.2.2; omega)) iok_X3_isConsistent wM_L_257 rfl (by decide) (by decide) rfl ⟨Nat.le_of_ble_eq_true rfl, Nat.le_of_ble_eq_true rfl⟩ ⟨by show k + 0 ≤ 603072; omega, by show n + 0 ≤ 7219306; omega⟩ (Nat.le_of_ble_eq_true rfl) rfl dL_law_1739 (fun v G1 h1 => ?_) (fun _ _ h => h.elim)
  obtain ⟨x0, hx0⟩ : ∃ x, v = some (vI x) := ⟨_, h1.1⟩
  have hk9 : KP9 G G1 := fun p z a b => h1.2 p z (by omega) (by omega)
  subst hx0
  have hm := LawM hI hk9
  refine v_stk (st' := [vI x0]) rfl ?_
  refine v_aload_n (pc := 1742) rfl dL_law_1742 ?_
  refine v_callV (pc := 1743) (rest := [vI x0]) (c_X4_isConsistent (G := G1) ) iok_X4_isConsistent wM_L_261 rfl (by decide) (by decide) rfl ⟨Nat.le_of_ble_eq_true rfl, Nat.le_of_ble_eq_true rfl⟩ ⟨by show (k + 0) + 0 ≤ 603072; omega, by show (n + 0) + 0 ≤ 7219306; omega⟩ (Nat.le_of_ble_eq_true rfl) rfl dL_law_1743 (fun w G2 h2 => ?_) (fun _ _ h => h.elim)
  obtain ⟨r, hv1, hw1, hrr, hL2⟩ := op_isConsistent hI h1 h2
  subst hw1
  have hc2 : vI x0 = vI r := Option.some.inj hv1
  refine v_stk (st' := [vI r, vI r]) (by rw [← hc2]; rfl) ?_
  refine v_icmp_eq (pc := 1746) (tgt := 2167) (by omega) dL_law_1746 (by decide) (fun bq1 => ?_) (fun bq1 => ?_)
  · skip
    refine v_loc (L' := [some (.ref ar), some (vR g 0), some (vR g 106), some (vR g 119), some (vR g 120), some (vI i), none, none, none]) ⟨rfl, rfl, rfl, rfl, rfl, rfl, trivial⟩ ?_
    exact kk G2 _ _ (LawI_up hL2 (by omega) (by omega)) (by show ((k + 0) + 0) ≤ k + 25; omega) (by show ((n + 0) + 0) ≤ n + 4300; omega)
  · skip
    exact absurd rfl bq1
set_option maxHeartbeats 4000000 in
set_option maxRecDepth 100000 in
theorem lc_38 {γ : gT} {g : GT} {ar N : Nat} {a : Nat → Int} {G : Mem} {k n : Nat} {Y A i : Int} (hA : ArgI γ g ar N a) (hI : LawI G Y A) (hy : 0 ≤ Y ∧ Y ≤ 900000 ∧ 0 ≤ A ∧ A ≤ 900000000) (hi : 0 ≤ i ∧ i + 3 ≤ (N : Int)) (hN : N ≤ 1536) (hkk : k ≤ 580000) (hnn : n ≤ 7000000)
    (kk : ∀ (G2 : Mem) (k2 n2 : Nat), LawI G2 (Y + 1200) (A + 6000) → k2 ≤ k + 25 → n2 ≤ n + 4300 → V γ g cL_law 9 RL room_1 G2 k2 n2 2167 [some (.ref ar), some (vR g 0), some (vR g 106), some (vR g 119), some (vR g 120), some (vI i), none, none, none] []) : V γ g cL_law 9 RL room_1 G k n 1751 [some (.ref ar), some (vR g 0), some (vR g 106), some (vR g 119), some (vR g 120), some (vI i), none, none, none] [] := by
  refine v_aload_n (pc := 1751) rfl dL_law_1751 ?_
  refine v_aload_n (pc := 1752) rfl dL_law_1752 ?_
  refine v_iload (pc := 1753) rfl dL_law_1753 ?_
  refine v_iconst (pc := 1755) (z := 1) dL_law_1755 ?_
  refine v_iadd (pc := 1756) dL_law_1756 ?_
  refine v_aarg (pc := 1757) hA (by omega) (by omega) dL_law_1757 ?_
  obtain ⟨x1, hx1, rx1⟩ : ∃ y : Int, y = a (i + 1).toNat ∧ -2147483648 ≤ y ∧ y < 2147483648 := ⟨_, rfl, hA.2 _⟩
  refine v_stk (st' := [vI x1, vR g 0]) (by rw [hx1]; first | done | rfl) ?_
  refine v_aload_n (pc := 1758) rfl dL_law_1758 ?_
  refine v_callSH (pc := 1759) (rest := []) (c_L_renderDie (G := G) hI.1.1 (by omega)) sok_L_renderDie wM_L_262 ⟨Nat.le_of_ble_eq_true rfl, Nat.le_of_ble_eq_true rfl⟩ ⟨by show k + 9 ≤ 603072; omega, by show n + 1622 ≤ 7219306; omega⟩ (Nat.le_of_ble_eq_true rfl) rfl dL_law_1759 (fun v G1 h1 => ?_) (fun _ _ h => h.elim)
  obtain ⟨⟨c0, hc0⟩, hk9⟩ := kp_renderDie hI h1
  subst hc0
  have hm := LawM hI hk9
  refine v_stk (st' := [vI c0]) rfl ?_
  refine v_istore (pc := 1762) (by decide) rfl dL_law_1762 ?_
  refine v_aload_n (pc := 1764) rfl dL_law_1764 ?_
  refine v_aload_n (pc := 1765) rfl dL_law_1765 ?_
  refine v_iload (pc := 1766) rfl dL_law_1766 ?_
  refine v_iconst (pc := 1768) (z := 1) dL_law_1768 ?_
  refine v_iadd (pc := 1769) dL_law_1769 ?_
  refine v_aarg (pc := 1770) hA (by omega) (by omega) dL_law_1770 ?_
  refine v_stk (st' := [vI x1, vR g 106]) (by rw [hx1]; first | done | rfl) ?_
  refine v_callV (pc := 1771) (rest := []) (c_X4_renderDie (G := G1) hm.1 (by omega)) iok_X4_renderDie wM_L_264 rfl (by decide) (by decide) rfl ⟨Nat.le_of_ble_eq_true rfl, Nat.le_of_ble_eq_true rfl⟩ ⟨by show (k + 9) + 0 ≤ 603072; omega, by show (n + 1622) + 0 ≤ 7219306; omega⟩ (Nat.le_of_ble_eq_true rfl) rfl dL_law_1771 (fun w G2 h2 => ?_) (fun _ _ h => h.elim)
  obtain ⟨c, r, hc1, hw1, hcr, hrr, h8, h119, hL2⟩ := op_renderDie hI h1 h2
  subst hw1
  refine v_stk (st' := [vI r]) rfl ?_
  refine v_loc (L' := [some (.ref ar), some (vR g 0), some (vR g 106), some (vR g 119), some (vR g 120), some (vI i), some (vI c), none, none]) ⟨rfl, rfl, rfl, rfl, rfl, rfl, hc1, trivial⟩ ?_
  refine v_istore (pc := 1774) (by decide) rfl dL_law_1774 ?_
  refine v_aload_n (pc := 1776) rfl dL_law_1776 ?_
  refine v_callV (pc := 1777) (rest := []) (c_X4_thrown (G := G2)) iok_X4_thrown wM_L_126 rfl (by decide) (by decide) rfl ⟨Nat.le_of_ble_eq_true rfl, Nat.le_of_ble_eq_true rfl⟩ ⟨by show ((k + 9) + 0) + 0 ≤ 603072; omega, by show ((n + 1622) + 0) + 0 ≤ 7219306; omega⟩ (Nat.le_of_ble_eq_true rfl) rfl dL_law_1777 (fun u G3 h3 => ?_) (fun _ _ h => h.elim)
  obtain ⟨rfl, hG9⟩ := h3
  rw [hG9]
  refine v_stk (st' := [vI c]) (by rw [← h8]; rfl) ?_
  refine v_iload (pc := 1780) rfl dL_law_1780 ?_
  refine v_icmp_eq (pc := 1782) (tgt := 1787) (by omega) dL_law_1782 (by decide) (fun bq1 => ?_) (fun bq1 => ?_)
  · skip
    refine v_iload (pc := 1787) rfl dL_law_1787 ?_
    refine v_if_ne (pc := 1789) (tgt := 1804) (by omega) dL_law_1789 (by decide) (fun bq2 => ?_) (fun bq2 => ?_)
    · skip
      refine v_goto (pc := 1804) (tgt := 2167) dL_law_1804 (by decide) ?_
      refine v_loc (L' := [some (.ref ar), some (vR g 0), some (vR g 106), some (vR g 119), some (vR g 120), some (vI i), none, none, none]) ⟨rfl, rfl, rfl, rfl, rfl, rfl, trivial⟩ ?_
      exact kk G2 _ _ (LawI_up hL2 (by omega) (by omega)) (by show (((k + 9) + 0) + 0) ≤ k + 25; omega) (by show (((n + 1622) + 0) + 0) ≤ n + 4300; omega)
    · skip
      refine v_aload_n (pc := 1792) rfl dL_law_1792 ?_
      refine v_iconst (pc := 1793) (z := 0) dL_law_1793 ?_
      refine v_lald (pc := 1794) (N := 1) rfl rfl (by decide) (by omega) (by decide) dL_law_1794 ?_
      refine v_stk (st' := [vJ r]) (by rw [h119 (by omega)]; first | done | rfl) ?_
      refine v_iload (pc := 1795) rfl dL_law_1795 ?_
      refine v_i2l (pc := 1797) (by omega) dL_law_1797 ?_
      refine v_lc_eq (pc := 1798) (tgt := 1804) (by omega) (by omega) dL_law_1798 dL_law_1799 (by decide) (fun bq3 => ?_) (fun bq3 => ?_)
      · skip
        refine v_goto (pc := 1804) (tgt := 2167) dL_law_1804 (by decide) ?_
        refine v_loc (L' := [some (.ref ar), some (vR g 0), some (vR g 106), some (vR g 119), some (vR g 120), some (vI i), none, none, none]) ⟨rfl, rfl, rfl, rfl, rfl, rfl, trivial⟩ ?_
        exact kk G2 _ _ (LawI_up hL2 (by omega) (by omega)) (by show (((k + 9) + 0) + 0) ≤ k + 25; omega) (by show (((n + 1622) + 0) + 0) ≤ n + 4300; omega)
      · skip
        first | exact absurd rfl bq3 | (exfalso; omega)
  · skip
    first | exact absurd rfl bq1 | (exfalso; omega)
set_option maxHeartbeats 4000000 in
set_option maxRecDepth 100000 in
theorem lc_39 {γ : gT} {g : GT} {ar N : Nat} {a : Nat → Int} {G : Mem} {k n : Nat} {Y A i : Int} (hA : ArgI γ g ar N a) (hI : LawI G Y A) (hy : 0 ≤ Y ∧ Y ≤ 900000 ∧ 0 ≤ A ∧ A ≤ 900000000) (hi : 0 ≤ i ∧ i + 3 ≤ (N : Int)) (hN : N ≤ 1536) (hkk : k ≤ 580000) (hnn : n ≤ 7000000)
    (kk : ∀ (G2 : Mem) (k2 n2 : Nat), LawI G2 (Y + 1200) (A + 6000) → k2 ≤ k + 25 → n2 ≤ n + 4300 → V γ g cL_law 9 RL room_1 G2 k2 n2 2167 [some (.ref ar), some (vR g 0), some (vR g 106), some (vR g 119), some (vR g 120), some (vI i), none, none, none] []) : V γ g cL_law 9 RL room_1 G k n 1807 [some (.ref ar), some (vR g 0), some (vR g 106), some (vR g 119), some (vR g 120), some (vI i), none, none, none] [] := by
  refine v_aload_n (pc := 1807) rfl dL_law_1807 ?_
  refine v_callV (pc := 1808) (rest := []) (c_X3_renderVault (G := G) hI.1.1) iok_X3_renderVault wM_L_265 rfl (by decide) (by decide) rfl ⟨Nat.le_of_ble_eq_true rfl, Nat.le_of_ble_eq_true rfl⟩ ⟨by show k + 21 ≤ 603072; omega, by show n + 4242 ≤ 7219306; omega⟩ (Nat.le_of_ble_eq_true rfl) rfl dL_law_1808 (fun v G1 h1 => ?_) (fun _ _ h => h.elim)
  obtain ⟨x0, hx0⟩ : ∃ x, v = some (vI x) := ⟨_, h1.1⟩
  have hk9 : KP9 G G1 := by rw [h1.2]; exact fun p z a b => congrFun (sbG_i (by omega)) z
  subst hx0
  have hm := LawM hI hk9
  refine v_stk (st' := [vI x0]) rfl ?_
  refine v_aload_n (pc := 1811) rfl dL_law_1811 ?_
  refine v_callV (pc := 1812) (rest := [vI x0]) (c_X4_renderVault (G := G1) hm.1) iok_X4_renderVault wM_L_268 rfl (by decide) (by decide) rfl ⟨Nat.le_of_ble_eq_true rfl, Nat.le_of_ble_eq_true rfl⟩ ⟨by show (k + 21) + 0 ≤ 603072; omega, by show (n + 4242) + 0 ≤ 7219306; omega⟩ (Nat.le_of_ble_eq_true rfl) rfl dL_law_1812 (fun w G2 h2 => ?_) (fun _ _ h => h.elim)
  obtain ⟨r, hv1, hw1, hrr, hL2⟩ := op_renderVault hI h1 h2
  subst hw1
  have hc2 : vI x0 = vI r := Option.some.inj hv1
  refine v_stk (st' := [vI r, vI r]) (by rw [← hc2]; rfl) ?_
  refine v_icmp_eq (pc := 1815) (tgt := 2167) (by omega) dL_law_1815 (by decide) (fun bq1 => ?_) (fun bq1 => ?_)
  · skip
    refine v_loc (L' := [some (.ref ar), some (vR g 0), some (vR g 106), some (vR g 119), some (vR g 120), some (vI i), none, none, none]) ⟨rfl, rfl, rfl, rfl, rfl, rfl, trivial⟩ ?_
    exact kk G2 _ _ (LawI_up hL2 (by omega) (by omega)) (by show ((k + 21) + 0) ≤ k + 25; omega) (by show ((n + 4242) + 0) ≤ n + 4300; omega)
  · skip
    exact absurd rfl bq1
set_option maxHeartbeats 4000000 in
set_option maxRecDepth 100000 in
theorem lc_40 {γ : gT} {g : GT} {ar N : Nat} {a : Nat → Int} {G : Mem} {k n : Nat} {Y A i : Int} (hA : ArgI γ g ar N a) (hI : LawI G Y A) (hy : 0 ≤ Y ∧ Y ≤ 900000 ∧ 0 ≤ A ∧ A ≤ 900000000) (hi : 0 ≤ i ∧ i + 3 ≤ (N : Int)) (hN : N ≤ 1536) (hkk : k ≤ 580000) (hnn : n ≤ 7000000)
    (kk : ∀ (G2 : Mem) (k2 n2 : Nat), LawI G2 (Y + 1200) (A + 6000) → k2 ≤ k + 25 → n2 ≤ n + 4300 → V γ g cL_law 9 RL room_1 G2 k2 n2 2167 [some (.ref ar), some (vR g 0), some (vR g 106), some (vR g 119), some (vR g 120), some (vI i), none, none, none] []) : V γ g cL_law 9 RL room_1 G k n 1820 [some (.ref ar), some (vR g 0), some (vR g 106), some (vR g 119), some (vR g 120), some (vI i), none, none, none] [] := by
  refine v_aload_n (pc := 1820) rfl dL_law_1820 ?_
  refine v_aload_n (pc := 1821) rfl dL_law_1821 ?_
  refine v_iload (pc := 1822) rfl dL_law_1822 ?_
  refine v_iconst (pc := 1824) (z := 1) dL_law_1824 ?_
  refine v_iadd (pc := 1825) dL_law_1825 ?_
  refine v_aarg (pc := 1826) hA (by omega) (by omega) dL_law_1826 ?_
  obtain ⟨x1, hx1, rx1⟩ : ∃ y : Int, y = a (i + 1).toNat ∧ -2147483648 ≤ y ∧ y < 2147483648 := ⟨_, rfl, hA.2 _⟩
  refine v_stk (st' := [vI x1, vR g 0]) (by rw [hx1]; first | done | rfl) ?_
  refine v_aload_n (pc := 1827) rfl dL_law_1827 ?_
  refine v_callSH (pc := 1828) (rest := []) (c_L_outputAt (G := G) (by have := hI.2.2.2.2.2.1.1; omega) (fun z z0 z1 => by have := (hI.2.2.2.2.2.1.2.2 z z0 z1).2; omega) (by omega)) sok_L_outputAt wM_L_269 ⟨Nat.le_of_ble_eq_true rfl, Nat.le_of_ble_eq_true rfl⟩ ⟨by show k + 1 ≤ 603072; omega, by show n + 6 ≤ 7219306; omega⟩ (Nat.le_of_ble_eq_true rfl) rfl dL_law_1828 (fun v G1 h1 => ?_) (fun _ _ h => h.elim)
  obtain ⟨⟨c0, hc0⟩, hk9⟩ := kp_outputAt hI h1
  subst hc0
  have hm := LawM hI hk9
  refine v_stk (st' := [vI c0]) rfl ?_
  refine v_istore (pc := 1831) (by decide) rfl dL_law_1831 ?_
  refine v_aload_n (pc := 1833) rfl dL_law_1833 ?_
  refine v_aload_n (pc := 1834) rfl dL_law_1834 ?_
  refine v_iload (pc := 1835) rfl dL_law_1835 ?_
  refine v_iconst (pc := 1837) (z := 1) dL_law_1837 ?_
  refine v_iadd (pc := 1838) dL_law_1838 ?_
  refine v_aarg (pc := 1839) hA (by omega) (by omega) dL_law_1839 ?_
  refine v_stk (st' := [vI x1, vR g 106]) (by rw [hx1]; first | done | rfl) ?_
  refine v_callV (pc := 1840) (rest := []) (c_X4_outputAt (G := G1) (by omega) hm.2.2.2.2.2.2.2.2.2.2.1 hm.2.2.2.2.2.2.2.2.2.2.2) iok_X4_outputAt wM_L_271 rfl (by decide) (by decide) rfl ⟨Nat.le_of_ble_eq_true rfl, Nat.le_of_ble_eq_true rfl⟩ ⟨by show (k + 1) + 0 ≤ 603072; omega, by show (n + 6) + 0 ≤ 7219306; omega⟩ (Nat.le_of_ble_eq_true rfl) rfl dL_law_1840 (fun w G2 h2 => ?_) (fun _ _ h => h.elim)
  obtain ⟨c, r, hc1, hw1, hcr, hrr, h8, h119, hL2⟩ := op_outputAt (by omega) hI h1 h2
  subst hw1
  refine v_stk (st' := [vI r]) rfl ?_
  refine v_loc (L' := [some (.ref ar), some (vR g 0), some (vR g 106), some (vR g 119), some (vR g 120), some (vI i), some (vI c), none, none]) ⟨rfl, rfl, rfl, rfl, rfl, rfl, hc1, trivial⟩ ?_
  refine v_istore (pc := 1843) (by decide) rfl dL_law_1843 ?_
  refine v_aload_n (pc := 1845) rfl dL_law_1845 ?_
  refine v_callV (pc := 1846) (rest := []) (c_X4_thrown (G := G2)) iok_X4_thrown wM_L_126 rfl (by decide) (by decide) rfl ⟨Nat.le_of_ble_eq_true rfl, Nat.le_of_ble_eq_true rfl⟩ ⟨by show ((k + 1) + 0) + 0 ≤ 603072; omega, by show ((n + 6) + 0) + 0 ≤ 7219306; omega⟩ (Nat.le_of_ble_eq_true rfl) rfl dL_law_1846 (fun u G3 h3 => ?_) (fun _ _ h => h.elim)
  obtain ⟨rfl, hG9⟩ := h3
  rw [hG9]
  refine v_stk (st' := [vI c]) (by rw [← h8]; rfl) ?_
  refine v_iload (pc := 1849) rfl dL_law_1849 ?_
  refine v_icmp_eq (pc := 1851) (tgt := 1856) (by omega) dL_law_1851 (by decide) (fun bq1 => ?_) (fun bq1 => ?_)
  · skip
    refine v_iload (pc := 1856) rfl dL_law_1856 ?_
    refine v_if_ne (pc := 1858) (tgt := 1873) (by omega) dL_law_1858 (by decide) (fun bq2 => ?_) (fun bq2 => ?_)
    · skip
      refine v_goto (pc := 1873) (tgt := 2167) dL_law_1873 (by decide) ?_
      refine v_loc (L' := [some (.ref ar), some (vR g 0), some (vR g 106), some (vR g 119), some (vR g 120), some (vI i), none, none, none]) ⟨rfl, rfl, rfl, rfl, rfl, rfl, trivial⟩ ?_
      exact kk G2 _ _ (LawI_up hL2 (by omega) (by omega)) (by show (((k + 1) + 0) + 0) ≤ k + 25; omega) (by show (((n + 6) + 0) + 0) ≤ n + 4300; omega)
    · skip
      refine v_aload_n (pc := 1861) rfl dL_law_1861 ?_
      refine v_iconst (pc := 1862) (z := 0) dL_law_1862 ?_
      refine v_lald (pc := 1863) (N := 1) rfl rfl (by decide) (by omega) (by decide) dL_law_1863 ?_
      refine v_stk (st' := [vJ r]) (by rw [h119 (by omega)]; first | done | rfl) ?_
      refine v_iload (pc := 1864) rfl dL_law_1864 ?_
      refine v_i2l (pc := 1866) (by omega) dL_law_1866 ?_
      refine v_lc_eq (pc := 1867) (tgt := 1873) (by omega) (by omega) dL_law_1867 dL_law_1868 (by decide) (fun bq3 => ?_) (fun bq3 => ?_)
      · skip
        refine v_goto (pc := 1873) (tgt := 2167) dL_law_1873 (by decide) ?_
        refine v_loc (L' := [some (.ref ar), some (vR g 0), some (vR g 106), some (vR g 119), some (vR g 120), some (vI i), none, none, none]) ⟨rfl, rfl, rfl, rfl, rfl, rfl, trivial⟩ ?_
        exact kk G2 _ _ (LawI_up hL2 (by omega) (by omega)) (by show (((k + 1) + 0) + 0) ≤ k + 25; omega) (by show (((n + 6) + 0) + 0) ≤ n + 4300; omega)
      · skip
        first | exact absurd rfl bq3 | (exfalso; omega)
  · skip
    first | exact absurd rfl bq1 | (exfalso; omega)
set_option maxHeartbeats 4000000 in
set_option maxRecDepth 100000 in
theorem lc_41 {γ : gT} {g : GT} {ar N : Nat} {a : Nat → Int} {G : Mem} {k n : Nat} {Y A i : Int} (hA : ArgI γ g ar N a) (hI : LawI G Y A) (hy : 0 ≤ Y ∧ Y ≤ 900000 ∧ 0 ≤ A ∧ A ≤ 900000000) (hi : 0 ≤ i ∧ i + 3 ≤ (N : Int)) (hN : N ≤ 1536) (hkk : k ≤ 580000) (hnn : n ≤ 7000000)
    (kk : ∀ (G2 : Mem) (k2 n2 : Nat), LawI G2 (Y + 1200) (A + 6000) → k2 ≤ k + 25 → n2 ≤ n + 4300 → V γ g cL_law 9 RL room_1 G2 k2 n2 2167 [some (.ref ar), some (vR g 0), some (vR g 106), some (vR g 119), some (vR g 120), some (vI i), none, none, none] []) : V γ g cL_law 9 RL room_1 G k n 1876 [some (.ref ar), some (vR g 0), some (vR g 106), some (vR g 119), some (vR g 120), some (vI i), none, none, none] [] := by
  refine v_aload_n (pc := 1876) rfl dL_law_1876 ?_
  refine v_aload_n (pc := 1877) rfl dL_law_1877 ?_
  refine v_iload (pc := 1878) rfl dL_law_1878 ?_
  refine v_iconst (pc := 1880) (z := 1) dL_law_1880 ?_
  refine v_iadd (pc := 1881) dL_law_1881 ?_
  refine v_aarg (pc := 1882) hA (by omega) (by omega) dL_law_1882 ?_
  obtain ⟨x1, hx1, rx1⟩ : ∃ y : Int, y = a (i + 1).toNat ∧ -2147483648 ≤ y ∧ y < 2147483648 := ⟨_, rfl, hA.2 _⟩
  refine v_stk (st' := [vI x1, vR g 0]) (by rw [hx1]; first | done | rfl) ?_
  refine v_i2c (pc := 1883) dL_law_1883 ?_
  obtain ⟨cc9, hcc9, rcc9⟩ : ∃ y : Int, y = x1 % 65536 ∧ 0 ≤ y ∧ y < 65536 := ⟨_, rfl, by omega⟩
  refine v_stk (st' := [vI cc9, vR g 0]) (by rw [hcc9]; first | done | rfl) ?_
  refine v_aload_n (pc := 1884) rfl dL_law_1884 ?_
  refine v_callSH (pc := 1885) (rest := []) (c_L_type (G := G) (by omega) hI.2.2.2.1.1) sok_L_type wM_L_272 ⟨Nat.le_of_ble_eq_true rfl, Nat.le_of_ble_eq_true rfl⟩ ⟨by show k + 1 ≤ 603072; omega, by show n + 6 ≤ 7219306; omega⟩ (Nat.le_of_ble_eq_true rfl) rfl dL_law_1885 (fun v G1 h1 => ?_) (fun _ _ h => h.elim)
  obtain ⟨⟨c0, hc0⟩, hk9⟩ := kp_type hI h1
  subst hc0
  have hm := LawM hI hk9
  refine v_stk (st' := [vI c0]) rfl ?_
  refine v_istore (pc := 1888) (by decide) rfl dL_law_1888 ?_
  refine v_aload_n (pc := 1890) rfl dL_law_1890 ?_
  refine v_aload_n (pc := 1891) rfl dL_law_1891 ?_
  refine v_iload (pc := 1892) rfl dL_law_1892 ?_
  refine v_iconst (pc := 1894) (z := 1) dL_law_1894 ?_
  refine v_iadd (pc := 1895) dL_law_1895 ?_
  refine v_aarg (pc := 1896) hA (by omega) (by omega) dL_law_1896 ?_
  refine v_stk (st' := [vI x1, vR g 106]) (by rw [hx1]; first | done | rfl) ?_
  refine v_i2c (pc := 1897) dL_law_1897 ?_
  refine v_stk (st' := [vI cc9, vR g 106]) (by rw [hcc9]; first | done | rfl) ?_
  refine v_callV (pc := 1898) (rest := []) (c_X4_type (G := G1) (by omega) hm.2.2.2.2.2.1) iok_X4_type wM_L_274 rfl (by decide) (by decide) rfl ⟨Nat.le_of_ble_eq_true rfl, Nat.le_of_ble_eq_true rfl⟩ ⟨by show (k + 1) + 0 ≤ 603072; omega, by show (n + 6) + 0 ≤ 7219306; omega⟩ (Nat.le_of_ble_eq_true rfl) rfl dL_law_1898 (fun w G2 h2 => ?_) (fun _ _ h => h.elim)
  obtain ⟨c, r, hc1, hw1, hcr, hrr, h8, h119, hL2⟩ := op_type hI h1 h2
  subst hw1
  refine v_stk (st' := [vI r]) rfl ?_
  refine v_loc (L' := [some (.ref ar), some (vR g 0), some (vR g 106), some (vR g 119), some (vR g 120), some (vI i), some (vI c), none, none]) ⟨rfl, rfl, rfl, rfl, rfl, rfl, hc1, trivial⟩ ?_
  refine v_istore (pc := 1901) (by decide) rfl dL_law_1901 ?_
  refine v_aload_n (pc := 1903) rfl dL_law_1903 ?_
  refine v_callV (pc := 1904) (rest := []) (c_X4_thrown (G := G2)) iok_X4_thrown wM_L_126 rfl (by decide) (by decide) rfl ⟨Nat.le_of_ble_eq_true rfl, Nat.le_of_ble_eq_true rfl⟩ ⟨by show ((k + 1) + 0) + 0 ≤ 603072; omega, by show ((n + 6) + 0) + 0 ≤ 7219306; omega⟩ (Nat.le_of_ble_eq_true rfl) rfl dL_law_1904 (fun u G3 h3 => ?_) (fun _ _ h => h.elim)
  obtain ⟨rfl, hG9⟩ := h3
  rw [hG9]
  refine v_stk (st' := [vI c]) (by rw [← h8]; rfl) ?_
  refine v_iload (pc := 1907) rfl dL_law_1907 ?_
  refine v_icmp_eq (pc := 1909) (tgt := 1914) (by omega) dL_law_1909 (by decide) (fun bq1 => ?_) (fun bq1 => ?_)
  · skip
    refine v_iload (pc := 1914) rfl dL_law_1914 ?_
    refine v_if_ne (pc := 1916) (tgt := 1931) (by omega) dL_law_1916 (by decide) (fun bq2 => ?_) (fun bq2 => ?_)
    · skip
      refine v_goto (pc := 1931) (tgt := 2167) dL_law_1931 (by decide) ?_
      refine v_loc (L' := [some (.ref ar), some (vR g 0), some (vR g 106), some (vR g 119), some (vR g 120), some (vI i), none, none, none]) ⟨rfl, rfl, rfl, rfl, rfl, rfl, trivial⟩ ?_
      exact kk G2 _ _ (LawI_up hL2 (by omega) (by omega)) (by show (((k + 1) + 0) + 0) ≤ k + 25; omega) (by show (((n + 6) + 0) + 0) ≤ n + 4300; omega)
    · skip
      refine v_aload_n (pc := 1919) rfl dL_law_1919 ?_
      refine v_iconst (pc := 1920) (z := 0) dL_law_1920 ?_
      refine v_lald (pc := 1921) (N := 1) rfl rfl (by decide) (by omega) (by decide) dL_law_1921 ?_
      refine v_stk (st' := [vJ r]) (by rw [h119 (by omega)]; first | done | rfl) ?_
      refine v_iload (pc := 1922) rfl dL_law_1922 ?_
      refine v_i2l (pc := 1924) (by omega) dL_law_1924 ?_
      refine v_lc_eq (pc := 1925) (tgt := 1931) (by omega) (by omega) dL_law_1925 dL_law_1926 (by decide) (fun bq3 => ?_) (fun bq3 => ?_)
      · skip
        refine v_goto (pc := 1931) (tgt := 2167) dL_law_1931 (by decide) ?_
        refine v_loc (L' := [some (.ref ar), some (vR g 0), some (vR g 106), some (vR g 119), some (vR g 120), some (vI i), none, none, none]) ⟨rfl, rfl, rfl, rfl, rfl, rfl, trivial⟩ ?_
        exact kk G2 _ _ (LawI_up hL2 (by omega) (by omega)) (by show (((k + 1) + 0) + 0) ≤ k + 25; omega) (by show (((n + 6) + 0) + 0) ≤ n + 4300; omega)
      · skip
        first | exact absurd rfl bq3 | (exfalso; omega)
  · skip
    first | exact absurd rfl bq1 | (exfalso; omega)
set_option maxHeartbeats 4000000 in
set_option maxRecDepth 100000 in
theorem lc_42 {γ : gT} {g : GT} {ar N : Nat} {a : Nat → Int} {G : Mem} {k n : Nat} {Y A i : Int} (hA : ArgI γ g ar N a) (hI : LawI G Y A) (hy : 0 ≤ Y ∧ Y ≤ 900000 ∧ 0 ≤ A ∧ A ≤ 900000000) (hi : 0 ≤ i ∧ i + 3 ≤ (N : Int)) (hN : N ≤ 1536) (hkk : k ≤ 580000) (hnn : n ≤ 7000000)
    (kk : ∀ (G2 : Mem) (k2 n2 : Nat), LawI G2 (Y + 1200) (A + 6000) → k2 ≤ k + 25 → n2 ≤ n + 4300 → V γ g cL_law 9 RL room_1 G2 k2 n2 2167 [some (.ref ar), some (vR g 0), some (vR g 106), some (vR g 119), some (vR g 120), some (vI i), none, none, none] []) : V γ g cL_law 9 RL room_1 G k n 1934 [some (.ref ar), some (vR g 0), some (vR g 106), some (vR g 119), some (vR g 120), some (vI i), none, none, none] [] := by
  refine v_aload_n (pc := 1934) rfl dL_law_1934 ?_
  refine v_aload_n (pc := 1935) rfl dL_law_1935 ?_
  refine v_callSH (pc := 1936) (rest := []) (c_L_runScript (G := G) hI.1.1 hI.2.1.1 (by have := SSk_lv hI.1; omega) (by have := hI.1.2.2.2.2.2.1; omega) hI.2.2.2.1.1 hI.2.2.2.1.2.2.2) sok_L_runScript wM_L_275 ⟨Nat.le_of_ble_eq_true rfl, Nat.le_of_ble_eq_true rfl⟩ ⟨by show k + 1 ≤ 603072; omega, by show n + 6 ≤ 7219306; omega⟩ (Nat.le_of_ble_eq_true rfl) rfl dL_law_1936 (fun v G1 h1 => ?_) (fun _ _ h => h.elim)
  obtain ⟨⟨c0, hc0⟩, hk9⟩ := kp_runScript hI h1
  subst hc0
  have hm := LawM hI hk9
  refine v_stk (st' := [vI c0]) rfl ?_
  refine v_istore (pc := 1939) (by decide) rfl dL_law_1939 ?_
  refine v_aload_n (pc := 1941) rfl dL_law_1941 ?_
  refine v_callV (pc := 1942) (rest := []) (c_X4_runScript (G := G1) hm.1 hm.2.1 hm.2.2.1 (by have := hm.2.2.2.1; omega) (by have := hm.2.2.2.2.1; omega) hm.2.2.2.2.2.1 hm.2.2.2.2.2.2.1) iok_X4_runScript wM_L_278 rfl (by decide) (by decide) rfl ⟨Nat.le_of_ble_eq_true rfl, Nat.le_of_ble_eq_true rfl⟩ ⟨by show (k + 1) + 0 ≤ 603072; omega, by show (n + 6) + 0 ≤ 7219306; omega⟩ (Nat.le_of_ble_eq_true rfl) rfl dL_law_1942 (fun w G2 h2 => ?_) (fun _ _ h => h.elim)
  obtain ⟨c, r, hc1, hw1, hcr, hrr, h8, h119, hL2⟩ := op_runScript hI (by omega) h1 h2
  subst hw1
  refine v_stk (st' := [vI r]) rfl ?_
  refine v_loc (L' := [some (.ref ar), some (vR g 0), some (vR g 106), some (vR g 119), some (vR g 120), some (vI i), some (vI c), none, none]) ⟨rfl, rfl, rfl, rfl, rfl, rfl, hc1, trivial⟩ ?_
  refine v_istore (pc := 1945) (by decide) rfl dL_law_1945 ?_
  refine v_aload_n (pc := 1947) rfl dL_law_1947 ?_
  refine v_callV (pc := 1948) (rest := []) (c_X4_thrown (G := G2)) iok_X4_thrown wM_L_126 rfl (by decide) (by decide) rfl ⟨Nat.le_of_ble_eq_true rfl, Nat.le_of_ble_eq_true rfl⟩ ⟨by show ((k + 1) + 0) + 0 ≤ 603072; omega, by show ((n + 6) + 0) + 0 ≤ 7219306; omega⟩ (Nat.le_of_ble_eq_true rfl) rfl dL_law_1948 (fun u G3 h3 => ?_) (fun _ _ h => h.elim)
  obtain ⟨rfl, hG9⟩ := h3
  rw [hG9]
  refine v_stk (st' := [vI c]) (by rw [← h8]; rfl) ?_
  refine v_iload (pc := 1951) rfl dL_law_1951 ?_
  refine v_icmp_eq (pc := 1953) (tgt := 1958) (by omega) dL_law_1953 (by decide) (fun bq1 => ?_) (fun bq1 => ?_)
  · skip
    refine v_iload (pc := 1958) rfl dL_law_1958 ?_
    refine v_if_ne (pc := 1960) (tgt := 1975) (by omega) dL_law_1960 (by decide) (fun bq2 => ?_) (fun bq2 => ?_)
    · skip
      refine v_goto (pc := 1975) (tgt := 2167) dL_law_1975 (by decide) ?_
      refine v_loc (L' := [some (.ref ar), some (vR g 0), some (vR g 106), some (vR g 119), some (vR g 120), some (vI i), none, none, none]) ⟨rfl, rfl, rfl, rfl, rfl, rfl, trivial⟩ ?_
      exact kk G2 _ _ (LawI_up hL2 (by omega) (by omega)) (by show (((k + 1) + 0) + 0) ≤ k + 25; omega) (by show (((n + 6) + 0) + 0) ≤ n + 4300; omega)
    · skip
      refine v_aload_n (pc := 1963) rfl dL_law_1963 ?_
      refine v_iconst (pc := 1964) (z := 0) dL_law_1964 ?_
      refine v_lald (pc := 1965) (N := 1) rfl rfl (by decide) (by omega) (by decide) dL_law_1965 ?_
      refine v_stk (st' := [vJ r]) (by rw [h119 (by omega)]; first | done | rfl) ?_
      refine v_iload (pc := 1966) rfl dL_law_1966 ?_
      refine v_i2l (pc := 1968) (by omega) dL_law_1968 ?_
      refine v_lc_eq (pc := 1969) (tgt := 1975) (by omega) (by omega) dL_law_1969 dL_law_1970 (by decide) (fun bq3 => ?_) (fun bq3 => ?_)
      · skip
        refine v_goto (pc := 1975) (tgt := 2167) dL_law_1975 (by decide) ?_
        refine v_loc (L' := [some (.ref ar), some (vR g 0), some (vR g 106), some (vR g 119), some (vR g 120), some (vI i), none, none, none]) ⟨rfl, rfl, rfl, rfl, rfl, rfl, trivial⟩ ?_
        exact kk G2 _ _ (LawI_up hL2 (by omega) (by omega)) (by show (((k + 1) + 0) + 0) ≤ k + 25; omega) (by show (((n + 6) + 0) + 0) ≤ n + 4300; omega)
      · skip
        first | exact absurd rfl bq3 | (exfalso; omega)
  · skip
    first | exact absurd rfl bq1 | (exfalso; omega)
set_option maxHeartbeats 4000000 in
set_option maxRecDepth 100000 in
theorem lc_43 {γ : gT} {g : GT} {ar N : Nat} {a : Nat → Int} {G : Mem} {k n : Nat} {Y A i : Int} (hA : ArgI γ g ar N a) (hI : LawI G Y A) (hy : 0 ≤ Y ∧ Y ≤ 900000 ∧ 0 ≤ A ∧ A ≤ 900000000) (hi : 0 ≤ i ∧ i + 3 ≤ (N : Int)) (hN : N ≤ 1536) (hkk : k ≤ 580000) (hnn : n ≤ 7000000)
    (kk : ∀ (G2 : Mem) (k2 n2 : Nat), LawI G2 (Y + 1200) (A + 6000) → k2 ≤ k + 25 → n2 ≤ n + 4300 → V γ g cL_law 9 RL room_1 G2 k2 n2 2167 [some (.ref ar), some (vR g 0), some (vR g 106), some (vR g 119), some (vR g 120), some (vI i), none, none, none] []) : V γ g cL_law 9 RL room_1 G k n 1978 [some (.ref ar), some (vR g 0), some (vR g 106), some (vR g 119), some (vR g 120), some (vI i), none, none, none] [] := by
  refine v_aload_n (pc := 1978) rfl dL_law_1978 ?_
  refine v_aload_n (pc := 1979) rfl dL_law_1979 ?_
  refine v_callSH (pc := 1980) (rest := []) (c_L_errorPosition (G := G) hI.2.2.2.2.1.1) sok_L_errorPosition wM_L_279 ⟨Nat.le_of_ble_eq_true rfl, Nat.le_of_ble_eq_true rfl⟩ ⟨by show k + 1 ≤ 603072; omega, by show n + 6 ≤ 7219306; omega⟩ (Nat.le_of_ble_eq_true rfl) rfl dL_law_1980 (fun v G1 h1 => ?_) (fun _ _ h => h.elim)
  obtain ⟨⟨c0, hc0⟩, hk9⟩ := kp_errorPosition hI h1
  subst hc0
  have hm := LawM hI hk9
  refine v_stk (st' := [vI c0]) rfl ?_
  refine v_istore (pc := 1983) (by decide) rfl dL_law_1983 ?_
  refine v_aload_n (pc := 1985) rfl dL_law_1985 ?_
  refine v_callV (pc := 1986) (rest := []) (c_X4_errorPosition (G := G1) hm.2.2.2.2.2.2.2.2.1) iok_X4_errorPosition wM_L_281 rfl (by decide) (by decide) rfl ⟨Nat.le_of_ble_eq_true rfl, Nat.le_of_ble_eq_true rfl⟩ ⟨by show (k + 1) + 0 ≤ 603072; omega, by show (n + 6) + 0 ≤ 7219306; omega⟩ (Nat.le_of_ble_eq_true rfl) rfl dL_law_1986 (fun w G2 h2 => ?_) (fun _ _ h => h.elim)
  obtain ⟨c, r, hc1, hw1, hcr, hrr, h8, h119, hL2⟩ := op_errorPosition hI h1 h2
  subst hw1
  refine v_stk (st' := [vI r]) rfl ?_
  refine v_loc (L' := [some (.ref ar), some (vR g 0), some (vR g 106), some (vR g 119), some (vR g 120), some (vI i), some (vI c), none, none]) ⟨rfl, rfl, rfl, rfl, rfl, rfl, hc1, trivial⟩ ?_
  refine v_istore (pc := 1989) (by decide) rfl dL_law_1989 ?_
  refine v_aload_n (pc := 1991) rfl dL_law_1991 ?_
  refine v_callV (pc := 1992) (rest := []) (c_X4_thrown (G := G2)) iok_X4_thrown wM_L_126 rfl (by decide) (by decide) rfl ⟨Nat.le_of_ble_eq_true rfl, Nat.le_of_ble_eq_true rfl⟩ ⟨by show ((k + 1) + 0) + 0 ≤ 603072; omega, by show ((n + 6) + 0) + 0 ≤ 7219306; omega⟩ (Nat.le_of_ble_eq_true rfl) rfl dL_law_1992 (fun u G3 h3 => ?_) (fun _ _ h => h.elim)
  obtain ⟨rfl, hG9⟩ := h3
  rw [hG9]
  refine v_stk (st' := [vI c]) (by rw [← h8]; rfl) ?_
  refine v_iload (pc := 1995) rfl dL_law_1995 ?_
  refine v_icmp_eq (pc := 1997) (tgt := 2002) (by omega) dL_law_1997 (by decide) (fun bq1 => ?_) (fun bq1 => ?_)
  · skip
    refine v_iload (pc := 2002) rfl dL_law_2002 ?_
    refine v_if_ne (pc := 2004) (tgt := 2019) (by omega) dL_law_2004 (by decide) (fun bq2 => ?_) (fun bq2 => ?_)
    · skip
      refine v_goto (pc := 2019) (tgt := 2167) dL_law_2019 (by decide) ?_
      refine v_loc (L' := [some (.ref ar), some (vR g 0), some (vR g 106), some (vR g 119), some (vR g 120), some (vI i), none, none, none]) ⟨rfl, rfl, rfl, rfl, rfl, rfl, trivial⟩ ?_
      exact kk G2 _ _ (LawI_up hL2 (by omega) (by omega)) (by show (((k + 1) + 0) + 0) ≤ k + 25; omega) (by show (((n + 6) + 0) + 0) ≤ n + 4300; omega)
    · skip
      refine v_aload_n (pc := 2007) rfl dL_law_2007 ?_
      refine v_iconst (pc := 2008) (z := 0) dL_law_2008 ?_
      refine v_lald (pc := 2009) (N := 1) rfl rfl (by decide) (by omega) (by decide) dL_law_2009 ?_
      refine v_stk (st' := [vJ r]) (by rw [h119 (by omega)]; first | done | rfl) ?_
      refine v_iload (pc := 2010) rfl dL_law_2010 ?_
      refine v_i2l (pc := 2012) (by omega) dL_law_2012 ?_
      refine v_lc_eq (pc := 2013) (tgt := 2019) (by omega) (by omega) dL_law_2013 dL_law_2014 (by decide) (fun bq3 => ?_) (fun bq3 => ?_)
      · skip
        refine v_goto (pc := 2019) (tgt := 2167) dL_law_2019 (by decide) ?_
        refine v_loc (L' := [some (.ref ar), some (vR g 0), some (vR g 106), some (vR g 119), some (vR g 120), some (vI i), none, none, none]) ⟨rfl, rfl, rfl, rfl, rfl, rfl, trivial⟩ ?_
        exact kk G2 _ _ (LawI_up hL2 (by omega) (by omega)) (by show (((k + 1) + 0) + 0) ≤ k + 25; omega) (by show (((n + 6) + 0) + 0) ≤ n + 4300; omega)
      · skip
        first | exact absurd rfl bq3 | (exfalso; omega)
  · skip
    first | exact absurd rfl bq1 | (exfalso; omega)
set_option maxHeartbeats 4000000 in
set_option maxRecDepth 100000 in
theorem lc_44 {γ : gT} {g : GT} {ar N : Nat} {a : Nat → Int} {G : Mem} {k n : Nat} {Y A i : Int} (hA : ArgI γ g ar N a) (hI : LawI G Y A) (hy : 0 ≤ Y ∧ Y ≤ 900000 ∧ 0 ≤ A ∧ A ≤ 900000000) (hi : 0 ≤ i ∧ i + 3 ≤ (N : Int)) (hN : N ≤ 1536) (hkk : k ≤ 580000) (hnn : n ≤ 7000000)
    (kk : ∀ (G2 : Mem) (k2 n2 : Nat), LawI G2 (Y + 1200) (A + 6000) → k2 ≤ k + 25 → n2 ≤ n + 4300 → V γ g cL_law 9 RL room_1 G2 k2 n2 2167 [some (.ref ar), some (vR g 0), some (vR g 106), some (vR g 119), some (vR g 120), some (vI i), none, none, none] []) : V γ g cL_law 9 RL room_1 G k n 2022 [some (.ref ar), some (vR g 0), some (vR g 106), some (vR g 119), some (vR g 120), some (vI i), none, none, none] [] := by
  refine v_aload_n (pc := 2022) rfl dL_law_2022 ?_
  refine v_aload_n (pc := 2023) rfl dL_law_2023 ?_
  refine v_callSH (pc := 2024) (rest := []) (c_L_failedCommand (G := G) hI.2.2.2.2.1.2.2.1) sok_L_failedCommand wM_L_282 ⟨Nat.le_of_ble_eq_true rfl, Nat.le_of_ble_eq_true rfl⟩ ⟨by show k + 1 ≤ 603072; omega, by show n + 6 ≤ 7219306; omega⟩ (Nat.le_of_ble_eq_true rfl) rfl dL_law_2024 (fun v G1 h1 => ?_) (fun _ _ h => h.elim)
  obtain ⟨⟨c0, hc0⟩, hk9⟩ := kp_failedCommand hI h1
  subst hc0
  have hm := LawM hI hk9
  refine v_stk (st' := [vI c0]) rfl ?_
  refine v_istore (pc := 2027) (by decide) rfl dL_law_2027 ?_
  refine v_aload_n (pc := 2029) rfl dL_law_2029 ?_
  refine v_callV (pc := 2030) (rest := []) (c_X4_failedCommand (G := G1) hm.2.2.2.2.2.2.2.2.2.1) iok_X4_failedCommand wM_L_284 rfl (by decide) (by decide) rfl ⟨Nat.le_of_ble_eq_true rfl, Nat.le_of_ble_eq_true rfl⟩ ⟨by show (k + 1) + 0 ≤ 603072; omega, by show (n + 6) + 0 ≤ 7219306; omega⟩ (Nat.le_of_ble_eq_true rfl) rfl dL_law_2030 (fun w G2 h2 => ?_) (fun _ _ h => h.elim)
  obtain ⟨c, r, hc1, hw1, hcr, hrr, h8, h119, hL2⟩ := op_failedCommand hI h1 h2
  subst hw1
  refine v_stk (st' := [vI r]) rfl ?_
  refine v_loc (L' := [some (.ref ar), some (vR g 0), some (vR g 106), some (vR g 119), some (vR g 120), some (vI i), some (vI c), none, none]) ⟨rfl, rfl, rfl, rfl, rfl, rfl, hc1, trivial⟩ ?_
  refine v_istore (pc := 2033) (by decide) rfl dL_law_2033 ?_
  refine v_aload_n (pc := 2035) rfl dL_law_2035 ?_
  refine v_callV (pc := 2036) (rest := []) (c_X4_thrown (G := G2)) iok_X4_thrown wM_L_126 rfl (by decide) (by decide) rfl ⟨Nat.le_of_ble_eq_true rfl, Nat.le_of_ble_eq_true rfl⟩ ⟨by show ((k + 1) + 0) + 0 ≤ 603072; omega, by show ((n + 6) + 0) + 0 ≤ 7219306; omega⟩ (Nat.le_of_ble_eq_true rfl) rfl dL_law_2036 (fun u G3 h3 => ?_) (fun _ _ h => h.elim)
  obtain ⟨rfl, hG9⟩ := h3
  rw [hG9]
  refine v_stk (st' := [vI c]) (by rw [← h8]; rfl) ?_
  refine v_iload (pc := 2039) rfl dL_law_2039 ?_
  refine v_icmp_eq (pc := 2041) (tgt := 2046) (by omega) dL_law_2041 (by decide) (fun bq1 => ?_) (fun bq1 => ?_)
  · skip
    refine v_iload (pc := 2046) rfl dL_law_2046 ?_
    refine v_if_ne (pc := 2048) (tgt := 2063) (by omega) dL_law_2048 (by decide) (fun bq2 => ?_) (fun bq2 => ?_)
    · skip
      refine v_goto (pc := 2063) (tgt := 2167) dL_law_2063 (by decide) ?_
      refine v_loc (L' := [some (.ref ar), some (vR g 0), some (vR g 106), some (vR g 119), some (vR g 120), some (vI i), none, none, none]) ⟨rfl, rfl, rfl, rfl, rfl, rfl, trivial⟩ ?_
      exact kk G2 _ _ (LawI_up hL2 (by omega) (by omega)) (by show (((k + 1) + 0) + 0) ≤ k + 25; omega) (by show (((n + 6) + 0) + 0) ≤ n + 4300; omega)
    · skip
      refine v_aload_n (pc := 2051) rfl dL_law_2051 ?_
      refine v_iconst (pc := 2052) (z := 0) dL_law_2052 ?_
      refine v_lald (pc := 2053) (N := 1) rfl rfl (by decide) (by omega) (by decide) dL_law_2053 ?_
      refine v_stk (st' := [vJ r]) (by rw [h119 (by omega)]; first | done | rfl) ?_
      refine v_iload (pc := 2054) rfl dL_law_2054 ?_
      refine v_i2l (pc := 2056) (by omega) dL_law_2056 ?_
      refine v_lc_eq (pc := 2057) (tgt := 2063) (by omega) (by omega) dL_law_2057 dL_law_2058 (by decide) (fun bq3 => ?_) (fun bq3 => ?_)
      · skip
        refine v_goto (pc := 2063) (tgt := 2167) dL_law_2063 (by decide) ?_
        refine v_loc (L' := [some (.ref ar), some (vR g 0), some (vR g 106), some (vR g 119), some (vR g 120), some (vI i), none, none, none]) ⟨rfl, rfl, rfl, rfl, rfl, rfl, trivial⟩ ?_
        exact kk G2 _ _ (LawI_up hL2 (by omega) (by omega)) (by show (((k + 1) + 0) + 0) ≤ k + 25; omega) (by show (((n + 6) + 0) + 0) ≤ n + 4300; omega)
      · skip
        first | exact absurd rfl bq3 | (exfalso; omega)
  · skip
    first | exact absurd rfl bq1 | (exfalso; omega)
set_option maxHeartbeats 4000000 in
set_option maxRecDepth 100000 in
theorem lc_45 {γ : gT} {g : GT} {ar N : Nat} {a : Nat → Int} {G : Mem} {k n : Nat} {Y A i : Int} (hA : ArgI γ g ar N a) (hI : LawI G Y A) (hy : 0 ≤ Y ∧ Y ≤ 900000 ∧ 0 ≤ A ∧ A ≤ 900000000) (hi : 0 ≤ i ∧ i + 3 ≤ (N : Int)) (hN : N ≤ 1536) (hkk : k ≤ 580000) (hnn : n ≤ 7000000)
    (kk : ∀ (G2 : Mem) (k2 n2 : Nat), LawI G2 (Y + 1200) (A + 6000) → k2 ≤ k + 25 → n2 ≤ n + 4300 → V γ g cL_law 9 RL room_1 G2 k2 n2 2167 [some (.ref ar), some (vR g 0), some (vR g 106), some (vR g 119), some (vR g 120), some (vI i), none, none, none] []) : V γ g cL_law 9 RL room_1 G k n 2066 [some (.ref ar), some (vR g 0), some (vR g 106), some (vR g 119), some (vR g 120), some (vI i), none, none, none] [] := by
  refine v_aload_n (pc := 2066) rfl dL_law_2066 ?_
  refine v_aload_n (pc := 2067) rfl dL_law_2067 ?_
  refine v_callSH (pc := 2068) (rest := []) (c_L_undo (G := G) hI.2.1.1) sok_L_undo wM_L_285 ⟨Nat.le_of_ble_eq_true rfl, Nat.le_of_ble_eq_true rfl⟩ ⟨by show k + 1 ≤ 603072; omega, by show n + 6 ≤ 7219306; omega⟩ (Nat.le_of_ble_eq_true rfl) rfl dL_law_2068 (fun v G1 h1 => ?_) (fun _ _ h => h.elim)
  obtain ⟨⟨c0, hc0⟩, hk9⟩ := kp_undo hI h1
  subst hc0
  have hm := LawM hI hk9
  refine v_stk (st' := [vI c0]) rfl ?_
  refine v_istore (pc := 2071) (by decide) rfl dL_law_2071 ?_
  refine v_aload_n (pc := 2073) rfl dL_law_2073 ?_
  refine v_callV (pc := 2074) (rest := []) (c_X4_undo (G := G1) hm.2.2.1) iok_X4_undo wM_L_287 rfl (by decide) (by decide) rfl ⟨Nat.le_of_ble_eq_true rfl, Nat.le_of_ble_eq_true rfl⟩ ⟨by show (k + 1) + 0 ≤ 603072; omega, by show (n + 6) + 0 ≤ 7219306; omega⟩ (Nat.le_of_ble_eq_true rfl) rfl dL_law_2074 (fun w G2 h2 => ?_) (fun _ _ h => h.elim)
  obtain ⟨c, r, hc1, hw1, hcr, hrr, h8, h119, hL2⟩ := op_undo hI h1 h2
  subst hw1
  refine v_stk (st' := [vI r]) rfl ?_
  refine v_loc (L' := [some (.ref ar), some (vR g 0), some (vR g 106), some (vR g 119), some (vR g 120), some (vI i), some (vI c), none, none]) ⟨rfl, rfl, rfl, rfl, rfl, rfl, hc1, trivial⟩ ?_
  refine v_istore (pc := 2077) (by decide) rfl dL_law_2077 ?_
  refine v_aload_n (pc := 2079) rfl dL_law_2079 ?_
  refine v_callV (pc := 2080) (rest := []) (c_X4_thrown (G := G2)) iok_X4_thrown wM_L_126 rfl (by decide) (by decide) rfl ⟨Nat.le_of_ble_eq_true rfl, Nat.le_of_ble_eq_true rfl⟩ ⟨by show ((k + 1) + 0) + 0 ≤ 603072; omega, by show ((n + 6) + 0) + 0 ≤ 7219306; omega⟩ (Nat.le_of_ble_eq_true rfl) rfl dL_law_2080 (fun u G3 h3 => ?_) (fun _ _ h => h.elim)
  obtain ⟨rfl, hG9⟩ := h3
  rw [hG9]
  refine v_stk (st' := [vI c]) (by rw [← h8]; rfl) ?_
  refine v_iload (pc := 2083) rfl dL_law_2083 ?_
  refine v_icmp_eq (pc := 2085) (tgt := 2090) (by omega) dL_law_2085 (by decide) (fun bq1 => ?_) (fun bq1 => ?_)
  · skip
    refine v_iload (pc := 2090) rfl dL_law_2090 ?_
    refine v_if_ne (pc := 2092) (tgt := 2107) (by omega) dL_law_2092 (by decide) (fun bq2 => ?_) (fun bq2 => ?_)
    · skip
      refine v_goto (pc := 2107) (tgt := 2167) dL_law_2107 (by decide) ?_
      refine v_loc (L' := [some (.ref ar), some (vR g 0), some (vR g 106), some (vR g 119), some (vR g 120), some (vI i), none, none, none]) ⟨rfl, rfl, rfl, rfl, rfl, rfl, trivial⟩ ?_
      exact kk G2 _ _ (LawI_up hL2 (by omega) (by omega)) (by show (((k + 1) + 0) + 0) ≤ k + 25; omega) (by show (((n + 6) + 0) + 0) ≤ n + 4300; omega)
    · skip
      refine v_aload_n (pc := 2095) rfl dL_law_2095 ?_
      refine v_iconst (pc := 2096) (z := 0) dL_law_2096 ?_
      refine v_lald (pc := 2097) (N := 1) rfl rfl (by decide) (by omega) (by decide) dL_law_2097 ?_
      refine v_stk (st' := [vJ r]) (by rw [h119 (by omega)]; first | done | rfl) ?_
      refine v_iload (pc := 2098) rfl dL_law_2098 ?_
      refine v_i2l (pc := 2100) (by omega) dL_law_2100 ?_
      refine v_lc_eq (pc := 2101) (tgt := 2107) (by omega) (by omega) dL_law_2101 dL_law_2102 (by decide) (fun bq3 => ?_) (fun bq3 => ?_)
      · skip
        refine v_goto (pc := 2107) (tgt := 2167) dL_law_2107 (by decide) ?_
        refine v_loc (L' := [some (.ref ar), some (vR g 0), some (vR g 106), some (vR g 119), some (vR g 120), some (vI i), none, none, none]) ⟨rfl, rfl, rfl, rfl, rfl, rfl, trivial⟩ ?_
        exact kk G2 _ _ (LawI_up hL2 (by omega) (by omega)) (by show (((k + 1) + 0) + 0) ≤ k + 25; omega) (by show (((n + 6) + 0) + 0) ≤ n + 4300; omega)
      · skip
        first | exact absurd rfl bq3 | (exfalso; omega)
  · skip
    first | exact absurd rfl bq1 | (exfalso; omega)
set_option maxHeartbeats 4000000 in
set_option maxRecDepth 100000 in
theorem lc_46 {γ : gT} {g : GT} {ar N : Nat} {a : Nat → Int} {G : Mem} {k n : Nat} {Y A i : Int} (hA : ArgI γ g ar N a) (hI : LawI G Y A) (hy : 0 ≤ Y ∧ Y ≤ 900000 ∧ 0 ≤ A ∧ A ≤ 900000000) (hi : 0 ≤ i ∧ i + 3 ≤ (N : Int)) (hN : N ≤ 1536) (hkk : k ≤ 580000) (hnn : n ≤ 7000000)
    (kk : ∀ (G2 : Mem) (k2 n2 : Nat), LawI G2 (Y + 1200) (A + 6000) → k2 ≤ k + 25 → n2 ≤ n + 4300 → V γ g cL_law 9 RL room_1 G2 k2 n2 2167 [some (.ref ar), some (vR g 0), some (vR g 106), some (vR g 119), some (vR g 120), some (vI i), none, none, none] []) : V γ g cL_law 9 RL room_1 G k n 2110 [some (.ref ar), some (vR g 0), some (vR g 106), some (vR g 119), some (vR g 120), some (vI i), none, none, none] [] := by
  refine v_aload_n (pc := 2110) rfl dL_law_2110 ?_
  refine v_callV (pc := 2111) (rest := []) (c_X3_save (G := G) ) iok_X3_save wM_L_288 rfl (by decide) (by decide) rfl ⟨Nat.le_of_ble_eq_true rfl, Nat.le_of_ble_eq_true rfl⟩ ⟨by show k + 0 ≤ 603072; omega, by show n + 0 ≤ 7219306; omega⟩ (Nat.le_of_ble_eq_true rfl) rfl dL_law_2111 (fun v G1 h1 => ?_) (fun _ _ h => h.elim)
  obtain ⟨x0, hx0⟩ : ∃ x, v = some (vI x) := ⟨_, h1.1⟩
  have hk9 : KP9 G G1 := by obtain ⟨-, Gx, hc, rfl⟩ := h1; exact fun p z a b => (upd2_i (by omega)).trans (hc.2.2.2 p z (by omega))
  subst hx0
  have hm := LawM hI hk9
  refine v_stk (st' := [vI x0]) rfl ?_
  refine v_aload_n (pc := 2114) rfl dL_law_2114 ?_
  refine v_callV (pc := 2115) (rest := [vI x0]) (c_X4_save (G := G1) ) iok_X4_save wM_L_291 rfl (by decide) (by decide) rfl ⟨Nat.le_of_ble_eq_true rfl, Nat.le_of_ble_eq_true rfl⟩ ⟨by show (k + 0) + 0 ≤ 603072; omega, by show (n + 0) + 0 ≤ 7219306; omega⟩ (Nat.le_of_ble_eq_true rfl) rfl dL_law_2115 (fun w G2 h2 => ?_) (fun _ _ h => h.elim)
  obtain ⟨r, hv1, hw1, hrr, hL2⟩ := op_save hI h1 h2
  subst hw1
  have hc2 : vI x0 = vI r := Option.some.inj hv1
  refine v_stk (st' := [vI r, vI r]) (by rw [← hc2]; rfl) ?_
  refine v_icmp_eq (pc := 2118) (tgt := 2167) (by omega) dL_law_2118 (by decide) (fun bq1 => ?_) (fun bq1 => ?_)
  · skip
    refine v_loc (L' := [some (.ref ar), some (vR g 0), some (vR g 106), some (vR g 119), some (vR g 120), some (vI i), none, none, none]) ⟨rfl, rfl, rfl, rfl, rfl, rfl, trivial⟩ ?_
    exact kk G2 _ _ (LawI_up hL2 (by omega) (by omega)) (by show ((k + 0) + 0) ≤ k + 25; omega) (by show ((n + 0) + 0) ≤ n + 4300; omega)
  · skip
    exact absurd rfl bq1
set_option maxHeartbeats 4000000 in
set_option maxRecDepth 100000 in
theorem lc_47 {γ : gT} {g : GT} {ar N : Nat} {a : Nat → Int} {G : Mem} {k n : Nat} {Y A i : Int} (hA : ArgI γ g ar N a) (hI : LawI G Y A) (hy : 0 ≤ Y ∧ Y ≤ 900000 ∧ 0 ≤ A ∧ A ≤ 900000000) (hi : 0 ≤ i ∧ i + 3 ≤ (N : Int)) (hN : N ≤ 1536) (hkk : k ≤ 580000) (hnn : n ≤ 7000000)
    (kk : ∀ (G2 : Mem) (k2 n2 : Nat), LawI G2 (Y + 1200) (A + 6000) → k2 ≤ k + 25 → n2 ≤ n + 4300 → V γ g cL_law 9 RL room_1 G2 k2 n2 2167 [some (.ref ar), some (vR g 0), some (vR g 106), some (vR g 119), some (vR g 120), some (vI i), none, none, none] []) : V γ g cL_law 9 RL room_1 G k n 2123 [some (.ref ar), some (vR g 0), some (vR g 106), some (vR g 119), some (vR g 120), some (vI i), none, none, none] [] := by
  refine v_aload_n (pc := 2123) rfl dL_law_2123 ?_
  refine v_aload_n (pc := 2124) rfl dL_law_2124 ?_
  refine v_callSH (pc := 2125) (rest := []) (c_L_restore (G := G) (by have := hI.2.2.1.1; omega)) sok_L_restore wM_L_292 ⟨Nat.le_of_ble_eq_true rfl, Nat.le_of_ble_eq_true rfl⟩ ⟨by show k + 1 ≤ 603072; omega, by show n + 6 ≤ 7219306; omega⟩ (Nat.le_of_ble_eq_true rfl) rfl dL_law_2125 (fun v G1 h1 => ?_) (fun _ _ h => h.elim)
  obtain ⟨⟨c0, hc0⟩, hk9⟩ := kp_restore hI h1
  subst hc0
  have hm := LawM hI hk9
  refine v_stk (st' := [vI c0]) rfl ?_
  refine v_istore (pc := 2128) (by decide) rfl dL_law_2128 ?_
  refine v_aload_n (pc := 2130) rfl dL_law_2130 ?_
  refine v_callV (pc := 2131) (rest := []) (c_X4_restore (G := G1) hm.2.2.2.2.2.2.2.1) iok_X4_restore wM_L_294 rfl (by decide) (by decide) rfl ⟨Nat.le_of_ble_eq_true rfl, Nat.le_of_ble_eq_true rfl⟩ ⟨by show (k + 1) + 0 ≤ 603072; omega, by show (n + 6) + 0 ≤ 7219306; omega⟩ (Nat.le_of_ble_eq_true rfl) rfl dL_law_2131 (fun w G2 h2 => ?_) (fun _ _ h => h.elim)
  obtain ⟨c, r, hc1, hw1, hcr, hrr, h8, h119, hL2⟩ := op_restore hI h1 h2
  subst hw1
  refine v_stk (st' := [vI r]) rfl ?_
  refine v_loc (L' := [some (.ref ar), some (vR g 0), some (vR g 106), some (vR g 119), some (vR g 120), some (vI i), some (vI c), none, none]) ⟨rfl, rfl, rfl, rfl, rfl, rfl, hc1, trivial⟩ ?_
  refine v_istore (pc := 2134) (by decide) rfl dL_law_2134 ?_
  refine v_aload_n (pc := 2136) rfl dL_law_2136 ?_
  refine v_callV (pc := 2137) (rest := []) (c_X4_thrown (G := G2)) iok_X4_thrown wM_L_126 rfl (by decide) (by decide) rfl ⟨Nat.le_of_ble_eq_true rfl, Nat.le_of_ble_eq_true rfl⟩ ⟨by show ((k + 1) + 0) + 0 ≤ 603072; omega, by show ((n + 6) + 0) + 0 ≤ 7219306; omega⟩ (Nat.le_of_ble_eq_true rfl) rfl dL_law_2137 (fun u G3 h3 => ?_) (fun _ _ h => h.elim)
  obtain ⟨rfl, hG9⟩ := h3
  rw [hG9]
  refine v_stk (st' := [vI c]) (by rw [← h8]; rfl) ?_
  refine v_iload (pc := 2140) rfl dL_law_2140 ?_
  refine v_icmp_eq (pc := 2142) (tgt := 2147) (by omega) dL_law_2142 (by decide) (fun bq1 => ?_) (fun bq1 => ?_)
  · skip
    refine v_iload (pc := 2147) rfl dL_law_2147 ?_
    refine v_if_ne (pc := 2149) (tgt := 2164) (by omega) dL_law_2149 (by decide) (fun bq2 => ?_) (fun bq2 => ?_)
    · skip
      refine v_goto (pc := 2164) (tgt := 2167) dL_law_2164 (by decide) ?_
      refine v_loc (L' := [some (.ref ar), some (vR g 0), some (vR g 106), some (vR g 119), some (vR g 120), some (vI i), none, none, none]) ⟨rfl, rfl, rfl, rfl, rfl, rfl, trivial⟩ ?_
      exact kk G2 _ _ (LawI_up hL2 (by omega) (by omega)) (by show (((k + 1) + 0) + 0) ≤ k + 25; omega) (by show (((n + 6) + 0) + 0) ≤ n + 4300; omega)
    · skip
      refine v_aload_n (pc := 2152) rfl dL_law_2152 ?_
      refine v_iconst (pc := 2153) (z := 0) dL_law_2153 ?_
      refine v_lald (pc := 2154) (N := 1) rfl rfl (by decide) (by omega) (by decide) dL_law_2154 ?_
      refine v_stk (st' := [vJ r]) (by rw [h119 (by omega)]; first | done | rfl) ?_
      refine v_iload (pc := 2155) rfl dL_law_2155 ?_
      refine v_i2l (pc := 2157) (by omega) dL_law_2157 ?_
      refine v_lc_eq (pc := 2158) (tgt := 2164) (by omega) (by omega) dL_law_2158 dL_law_2159 (by decide) (fun bq3 => ?_) (fun bq3 => ?_)
      · skip
        refine v_goto (pc := 2164) (tgt := 2167) dL_law_2164 (by decide) ?_
        refine v_loc (L' := [some (.ref ar), some (vR g 0), some (vR g 106), some (vR g 119), some (vR g 120), some (vI i), none, none, none]) ⟨rfl, rfl, rfl, rfl, rfl, rfl, trivial⟩ ?_
        exact kk G2 _ _ (LawI_up hL2 (by omega) (by omega)) (by show (((k + 1) + 0) + 0) ≤ k + 25; omega) (by show (((n + 6) + 0) + 0) ≤ n + 4300; omega)
      · skip
        first | exact absurd rfl bq3 | (exfalso; omega)
  · skip
    first | exact absurd rfl bq1 | (exfalso; omega)
