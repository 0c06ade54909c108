-- calls on the builder; what LeafMint writes
section VCB
variable {γ : gT} {g : GT} {cc bs : ByteArray} {nL mL : Nat} {own : String} {rm rm' : Room} {G : Mem} {k n : Nat} {pc idx : Nat} {L : List (Option Value)} {st rest : List Value} {rt : Option FieldType} {Qq : Option Value → Mem → Prop} {Xq : String → Mem → Prop} {y : MethodName} {as : List Value}
theorem recvB {s : State} {H : Heap} (hK : va_K (gD g) cls (tyL g) s) (hP : WP g G H) : ∃ cell : Cell, H[gA g 121]? = some cell ∧ cell.vm.isStatics = false ∧ s.vm.findClass RJ4 = some cell.cls := by
  obtain ⟨q, cap, ml, bf, hs, hP1, hD1⟩ := hP
  refine va_recv (ci := 5) (q := (RJ4, TJ4, 4)) (q0 := NP) (fs := [.ref q, .int 0, .int ml, vI (G 122 0)]) hK hP1 rfl ?_
  unfold WL
  rw [List.getElem?_append_right (by rw [wl_len]; exact Nat.le_refl _), wl_len, Nat.sub_self]
  rfl
theorem v_callB (hM : Ctr g y bs mL rt rm' (vR g 121 :: as) G Qq Xq) (O : IOk y bs mL rt as.length) (hl : Cond.methodLink own idx y ∈ WT) (hcl : y.cls = RJ4) (hR : RmOk rm' rm mL) (hf : k + rm'.cells ≤ rm.cells ∧ n + rm'.slots ≤ rm.slots) (hs : (rest.map fun v => v.category).sum ≤ 8) (hst : st = as.reverse ++ vR g 121 :: rest) (d : decode cc pc = .ok (.invokevirtual idx, 3))
    (kq : ∀ (v : Option Value) (G' : Mem), Qq v G' → V γ g cc nL own rm G' (k + rm'.cells) (n + rm'.slots) (pc + 3) L (v.toList ++ rest)) (kx : ∀ (E : String) (G' : Mem), Xq E G' → VX γ g cc nL own rm G' (k + rm'.cells) (n + rm'.slots) pc L rest E) : V γ g cc nL own rm G k n pc L st := by
  refine v_run (fun p l e R s m args below meth c0 Q H locs ls C hP hS hL => ?_) kq kx
  obtain ⟨hx, hb, hml, ho, hts, rfl, hG, hlk, rfl⟩ := C
  obtain ⟨⟨o1, o2, o3⟩, o4, o5⟩ := O
  refine ⟨(vR g 121 :: as).toArray, ?_⟩
  have cw := cwV (R := R) (s := s) (args := args) (own := own) (index := idx) (C := y.cls) (mc := rm'.cells) (ms := rm'.slots) (rm := rm') as.length hts (wt_cons hl (wt_cons o4 (wt_cons o5 (wt_cons o2 (wt_cons o1 wt_GoodIn))))) rfl rfl rfl ⟨rfl, o3⟩ hR
  exact vx_runV (As := as) (rest := rest) ⟨hx, hb, hml, ho, hts⟩ hM cw ⟨Pc1_blind _ _ _, by rw [hcl]; exact recvB hG.1 hP, pre_U hG hP hS⟩ rfl rfl hL.1 hst (lv_room hs) d hf
end VCB
theorem StI_sb {G : Mem} {b : Nat} {t : Tx} (hb : b < 100) (hI : StI G b) : StI (sbG G t) b := StI_sameB hI fun j hj w => by rw [sbG_i (by omega)]
theorem iok_J4_append_cf468 : IOk yJ4_append_cf468 cJ4_append_cf468 2 (some (FieldType.object "java/lang/StringBuilder")) 1 := ⟨⟨wC_J4_append_cf468, wN_J4, by decide, by decide, by decide +kernel⟩, wI_J4_append_cf468, wS_J4_append_cf468⟩
theorem iok_J4_append_bf812 : IOk yJ4_append_bf812 cJ4_append_bf812 2 (some (FieldType.object "java/lang/StringBuilder")) 1 := ⟨⟨wC_J4_append_bf812, wN_J4, by decide, by decide, by decide +kernel⟩, wI_J4_append_bf812, wS_J4_append_bf812⟩
theorem iok_J4_setLength_d00df : IOk yJ4_setLength_d00df cJ4_setLength_d00df 2 (none : Option FieldType) 1 := ⟨⟨wC_J4_setLength_d00df, wN_J4, by decide, by decide, by decide +kernel⟩, wI_J4_setLength_d00df, wS_J4_setLength_d00df⟩
theorem iok_J4_length_8abf5 : IOk yJ4_length_8abf5 cJ4_length_8abf5 1 (some FieldType.int) 0 := ⟨⟨wC_J4_length_8abf5, wN_J4, by decide, by decide, by decide +kernel⟩, wI_J4_length_8abf5, wS_J4_length_8abf5⟩
theorem iok_J4_charAt_5068e : IOk yJ4_charAt_5068e cJ4_charAt_5068e 2 (some FieldType.char) 1 := ⟨⟨wC_J4_charAt_5068e, wN_J4, by decide, by decide, by decide +kernel⟩, wI_J4_charAt_5068e, wS_J4_charAt_5068e⟩
set_option maxHeartbeats 4000000 in
set_option maxRecDepth 100000 in
theorem c_X3_outputAt {g : GT} {G : Mem} (hn : 0 ≤ G 122 0 ∧ G 122 0 ≤ 90) (hz : ∀ z, 0 ≤ z → z < G 122 0 → 0 ≤ G 121 z ∧ G 121 z < 65536) {d : Int} (h_d : -2147483648 ≤ d ∧ d < 2147483648) : Ctr g yX3_outputAt cX3_outputAt 2 (some FieldType.char) (rmL 4 1 6) [vR g 0, vI d] G (fun v G' => v = some (vI (G 121 d)) ∧ G' = G ∧ 0 ≤ d ∧ d < G 122 0) (fun e G' => e = eIB ∧ G' = G ∧ ¬ (0 ≤ d ∧ d < G 122 0)) := by
  refine ctr_of [some (vR g 0), some (vI d)] (by decide) (Nat.le_of_ble_eq_true rfl) rfl (fun γ E => ?_)
  show V γ g cX3_outputAt 2 RX3 (rmL 4 1 6) G 0 0 0 [some (vR g 0), some (vI d)] []
  refine v_iload_n (pc := 0) rfl dX3_outputAt_0 ?_
  refine v_if_lt (pc := 1) (tgt := 15) (by omega) dX3_outputAt_1 (by decide) (fun bq1 => ?_) (fun bq1 => ?_)
  · skip
    exact v_throw (pc := 15) (text := "no such index in the output text") xok_IB (by decide) E (⟨rfl, rfl, by omega⟩) dX3_outputAt_15 dX3_outputAt_18 dX3_outputAt_19 dX3_outputAt_21 dX3_outputAt_24 (Nat.le_of_ble_eq_true rfl) (Nat.le_of_ble_eq_true rfl) (Nat.le_of_ble_eq_true rfl) (Nat.le_of_ble_eq_true rfl) (Nat.le_of_ble_eq_true rfl)
  · skip
    refine v_iload_n (pc := 4) rfl dX3_outputAt_4 ?_
    refine v_aload_n (pc := 5) rfl dX3_outputAt_5 ?_
    refine v_getR (pc := 6) (j := 121) fd_X3_43 (rfl) (by decide) rfl dX3_outputAt_6 ?_
    refine v_callB (pc := 9) (rest := [vI d]) (c_J4_length_8abf5 (G := G)) iok_J4_length_8abf5 wM_X3_210 rfl (rmOk (by decide) (by decide)) ⟨Nat.le_of_ble_eq_true rfl, Nat.le_of_ble_eq_true rfl⟩ (Nat.le_of_ble_eq_true rfl) rfl dX3_outputAt_9 (fun v G' hq => ?_) (fun _ _ h => h.elim)
    obtain ⟨rfl, hG9⟩ := hq
    rw [hG9]
    refine v_stk (st' := [vI (G 122 0), vI d]) rfl ?_
    refine v_icmp_lt (pc := 12) (tgt := 25) (by omega) dX3_outputAt_12 (by decide) (fun bq2 => ?_) (fun bq2 => ?_)
    · skip
      refine v_aload_n (pc := 25) rfl dX3_outputAt_25 ?_
      refine v_getR (pc := 26) (j := 121) fd_X3_43 (rfl) (by decide) rfl dX3_outputAt_26 ?_
      refine v_iload_n (pc := 29) rfl dX3_outputAt_29 ?_
      refine v_callB (pc := 30) (rest := []) (c_J4_charAt_5068e (G := G) (z := d) (by omega)) iok_J4_charAt_5068e wM_X3_221 rfl (rmOk (by decide) (by decide)) ⟨Nat.le_of_ble_eq_true rfl, Nat.le_of_ble_eq_true rfl⟩ (Nat.le_of_ble_eq_true rfl) rfl dX3_outputAt_30 (fun v G' hq => ?_) (fun _ _ h => h.elim)
      obtain ⟨rfl, hG9⟩ := hq
      rw [hG9]
      refine v_stk (st' := [vI (G 121 d)]) rfl ?_
      have hz9 := hz d (by omega) (by omega)
      exact v_cret (pc := 33) E (by omega) (⟨rfl, rfl, by omega⟩) (Nat.le_of_ble_eq_true rfl) (Nat.le_of_ble_eq_true rfl) dX3_outputAt_33
    · skip
      exact v_throw (pc := 15) (text := "no such index in the output text") xok_IB (by decide) E (⟨rfl, rfl, by omega⟩) dX3_outputAt_15 dX3_outputAt_18 dX3_outputAt_19 dX3_outputAt_21 dX3_outputAt_24 (Nat.le_of_ble_eq_true rfl) (Nat.le_of_ble_eq_true rfl) (Nat.le_of_ble_eq_true rfl) (Nat.le_of_ble_eq_true rfl) (Nat.le_of_ble_eq_true rfl)
set_option maxHeartbeats 4000000 in
set_option maxRecDepth 100000 in
theorem c_X3_renderDie {g : GT} {G : Mem} (hI : StI G 4) {d : Int} (h_d : -2147483648 ≤ d ∧ d < 2147483648) : Ctr g yX3_renderDie cX3_renderDie 2 (some FieldType.int) (rmL 5 9 1622) [vR g 0, vI d] G (fun v G' => (0 ≤ d ∧ d < G 4 0) ∧ v = some (vI (tnum (tc (tnum (tc (tnum (tc (tnum t0 d) 58) (G 5 d)) 119) (G 6 d)) 47) (G 7 d)).1) ∧ G' = sbG G (tnum (tc (tnum (tc (tnum (tc (tnum t0 d) 58) (G 5 d)) 119) (G 6 d)) 47) (G 7 d))) (fun e G' => e = eIB ∧ G' = G ∧ ¬ (0 ≤ d ∧ d < G 4 0)) := by
  refine ctr_of [some (vR g 0), some (vI d)] (by decide) (Nat.le_of_ble_eq_true rfl) rfl (fun γ E => ?_)
  show V γ g cX3_renderDie 2 RX3 (rmL 5 9 1622) G 0 0 0 [some (vR g 0), some (vI d)] []
  have hn := StI_n hI
  have hc := StI_c hI
  have hy := StI_y hI
  refine v_aload_n (pc := 0) rfl dX3_renderDie_0 ?_
  refine v_iload_n (pc := 1) rfl dX3_renderDie_1 ?_
  refine v_callV (pc := 2) (rest := []) (c_X3_requireDie hI h_d) iok_X3_requireDie wM_X3_61 (rfl) (by decide) (by decide) rfl (rmOk (by decide) (by decide)) ⟨Nat.le_of_ble_eq_true rfl, Nat.le_of_ble_eq_true rfl⟩ (Nat.le_of_ble_eq_true rfl) rfl dX3_renderDie_2 (fun v G' hq => ?_) (fun e G' hx => vx_pass E hx (Nat.le_of_ble_eq_true rfl) (Nat.le_of_ble_eq_true rfl))
  obtain ⟨rfl, hG9, hd⟩ := hq
  rw [hG9]
  refine v_stk (st' := []) rfl ?_
  refine v_aload_n (pc := 5) rfl dX3_renderDie_5 ?_
  refine v_getR (pc := 6) (j := 121) fd_X3_43 (rfl) (by decide) rfl dX3_renderDie_6 ?_
  refine v_iconst (pc := 9) (z := 0) dX3_renderDie_9 ?_
  refine v_callB (pc := 10) (rest := []) (c_J4_setLength_d00df (G := G)) iok_J4_setLength_d00df wM_X3_200 rfl (rmOk (by decide) (by decide)) ⟨Nat.le_of_ble_eq_true rfl, Nat.le_of_ble_eq_true rfl⟩ (Nat.le_of_ble_eq_true rfl) rfl dX3_renderDie_10 (fun v G' hq => ?_) (fun _ _ h => h.elim)
  obtain ⟨rfl, hG9⟩ := hq
  rw [hG9]
  have nt0 : t0.1 = 0 := rfl
  refine v_stk (st' := []) rfl ?_
  refine v_aload_n (pc := 13) rfl dX3_renderDie_13 ?_
  refine v_getR (pc := 14) (j := 121) fd_X3_43 (rfl) (by decide) rfl dX3_renderDie_14 ?_
  refine v_iload_n (pc := 17) rfl dX3_renderDie_17 ?_
  refine v_callB (pc := 18) (rest := []) (c_J4_append_bf812 (G := (sbG G t0)) (by show t0.1 ≤ 90; omega) (v := d) (by omega)) iok_J4_append_bf812 wM_X3_203 rfl (rmOk (by decide) (by decide)) ⟨Nat.le_of_ble_eq_true rfl, Nat.le_of_ble_eq_true rfl⟩ (Nat.le_of_ble_eq_true rfl) rfl dX3_renderDie_18 (fun v G' hq => ?_) (fun _ _ h => h.elim)
  obtain ⟨rfl, hG9⟩ := hq
  rw [hG9]
  rw [show sbG (sbG G t0) (tnum (tG (sbG G t0)) d) = sbG G (tnum t0 d) from sbG_u _ _ _]
  obtain ⟨T1, hT1⟩ : ∃ y : Tx, y = tnum t0 d := ⟨_, rfl⟩
  rw [← hT1]
  have nT1 : t0.1 ≤ T1.1 ∧ T1.1 ≤ t0.1 + 2 := by rw [hT1, tnum_n]; split <;> omega
  refine v_stk (st' := [vR g 121]) rfl ?_
  refine v_bipush (pc := 21) (z := 58) rfl dX3_renderDie_21 ?_
  refine v_callB (pc := 23) (rest := []) (c_J4_append_cf468 (G := (sbG G T1)) (by show T1.1 ≤ 90; omega) (c := 58) (by omega)) iok_J4_append_cf468 wM_X3_207 rfl (rmOk (by decide) (by decide)) ⟨Nat.le_of_ble_eq_true rfl, Nat.le_of_ble_eq_true rfl⟩ (Nat.le_of_ble_eq_true rfl) rfl dX3_renderDie_23 (fun v G' hq => ?_) (fun _ _ h => h.elim)
  obtain ⟨rfl, hG9⟩ := hq
  rw [hG9]
  rw [show sbG (sbG G T1) (tc (tG (sbG G T1)) 58) = sbG G (tc T1 58) from sbG_u _ _ _]
  obtain ⟨T2, hT2⟩ : ∃ y : Tx, y = tc T1 58 := ⟨_, rfl⟩
  rw [← hT2]
  have nT2 : T2.1 = T1.1 + 1 := by rw [hT2]; rfl
  refine v_stk (st' := [vR g 121]) rfl ?_
  refine v_aload_n (pc := 26) rfl dX3_renderDie_26 ?_
  refine v_getR (pc := 27) (j := 4) fd_X3_10 (rfl) (by decide) rfl dX3_renderDie_27 ?_
  refine v_getR (pc := 30) (j := 5) fd_X3_65 (rfl) (by decide) rfl dX3_renderDie_30 ?_
  refine v_iload_n (pc := 33) rfl dX3_renderDie_33 ?_
  refine v_iald (pc := 34) (N := 5) rfl rfl (by decide) (by omega) (by decide) dX3_renderDie_34 ?_
  refine v_top (b := G 5 d) rfl ?_
  have r1 := S4_d hI (i := d) (by omega) (by omega)
  refine v_callB (pc := 35) (rest := []) (c_J4_append_bf812 (G := (sbG G T2)) (by show T2.1 ≤ 90; omega) (v := G 5 d) (by omega)) iok_J4_append_bf812 wM_X3_203 rfl (rmOk (by decide) (by decide)) ⟨Nat.le_of_ble_eq_true rfl, Nat.le_of_ble_eq_true rfl⟩ (Nat.le_of_ble_eq_true rfl) rfl dX3_renderDie_35 (fun v G' hq => ?_) (fun _ _ h => h.elim)
  obtain ⟨rfl, hG9⟩ := hq
  rw [hG9]
  rw [show sbG (sbG G T2) (tnum (tG (sbG G T2)) (G 5 d)) = sbG G (tnum T2 (G 5 d)) from sbG_u _ _ _]
  obtain ⟨T3, hT3⟩ : ∃ y : Tx, y = tnum T2 (G 5 d) := ⟨_, rfl⟩
  rw [← hT3]
  have nT3 : T2.1 ≤ T3.1 ∧ T3.1 ≤ T2.1 + 2 := by rw [hT3, tnum_n]; split <;> omega
  refine v_stk (st' := [vR g 121]) rfl ?_
  refine v_pop (pc := 38) rfl dX3_renderDie_38 ?_
  refine v_aload_n (pc := 39) rfl dX3_renderDie_39 ?_
  refine v_getR (pc := 40) (j := 121) fd_X3_43 (rfl) (by decide) rfl dX3_renderDie_40 ?_
  refine v_bipush (pc := 43) (z := 119) rfl dX3_renderDie_43 ?_
  refine v_callB (pc := 45) (rest := []) (c_J4_append_cf468 (G := (sbG G T3)) (by show T3.1 ≤ 90; omega) (c := 119) (by omega)) iok_J4_append_cf468 wM_X3_207 rfl (rmOk (by decide) (by decide)) ⟨Nat.le_of_ble_eq_true rfl, Nat.le_of_ble_eq_true rfl⟩ (Nat.le_of_ble_eq_true rfl) rfl dX3_renderDie_45 (fun v G' hq => ?_) (fun _ _ h => h.elim)
  obtain ⟨rfl, hG9⟩ := hq
  rw [hG9]
  rw [show sbG (sbG G T3) (tc (tG (sbG G T3)) 119) = sbG G (tc T3 119) from sbG_u _ _ _]
  obtain ⟨T4, hT4⟩ : ∃ y : Tx, y = tc T3 119 := ⟨_, rfl⟩
  rw [← hT4]
  have nT4 : T4.1 = T3.1 + 1 := by rw [hT4]; rfl
  refine v_stk (st' := [vR g 121]) rfl ?_
  refine v_aload_n (pc := 48) rfl dX3_renderDie_48 ?_
  refine v_getR (pc := 49) (j := 4) fd_X3_10 (rfl) (by decide) rfl dX3_renderDie_49 ?_
  refine v_getR (pc := 52) (j := 6) fd_X3_69 (rfl) (by decide) rfl dX3_renderDie_52 ?_
  refine v_iload_n (pc := 55) rfl dX3_renderDie_55 ?_
  refine v_iald (pc := 56) (N := 5) rfl rfl (by decide) (by omega) (by decide) dX3_renderDie_56 ?_
  refine v_top (b := G 6 d) rfl ?_
  have r2 := S4_d hI (i := d) (by omega) (by omega)
  refine v_callB (pc := 57) (rest := []) (c_J4_append_bf812 (G := (sbG G T4)) (by show T4.1 ≤ 90; omega) (v := G 6 d) (by omega)) iok_J4_append_bf812 wM_X3_203 rfl (rmOk (by decide) (by decide)) ⟨Nat.le_of_ble_eq_true rfl, Nat.le_of_ble_eq_true rfl⟩ (Nat.le_of_ble_eq_true rfl) rfl dX3_renderDie_57 (fun v G' hq => ?_) (fun _ _ h => h.elim)
  obtain ⟨rfl, hG9⟩ := hq
  rw [hG9]
  rw [show sbG (sbG G T4) (tnum (tG (sbG G T4)) (G 6 d)) = sbG G (tnum T4 (G 6 d)) from sbG_u _ _ _]
  obtain ⟨T5, hT5⟩ : ∃ y : Tx, y = tnum T4 (G 6 d) := ⟨_, rfl⟩
  rw [← hT5]
  have nT5 : T4.1 ≤ T5.1 ∧ T5.1 ≤ T4.1 + 2 := by rw [hT5, tnum_n]; split <;> omega
  refine v_stk (st' := [vR g 121]) rfl ?_
  refine v_pop (pc := 60) rfl dX3_renderDie_60 ?_
  refine v_aload_n (pc := 61) rfl dX3_renderDie_61 ?_
  refine v_getR (pc := 62) (j := 121) fd_X3_43 (rfl) (by decide) rfl dX3_renderDie_62 ?_
  refine v_bipush (pc := 65) (z := 47) rfl dX3_renderDie_65 ?_
  refine v_callB (pc := 67) (rest := []) (c_J4_append_cf468 (G := (sbG G T5)) (by show T5.1 ≤ 90; omega) (c := 47) (by omega)) iok_J4_append_cf468 wM_X3_207 rfl (rmOk (by decide) (by decide)) ⟨Nat.le_of_ble_eq_true rfl, Nat.le_of_ble_eq_true rfl⟩ (Nat.le_of_ble_eq_true rfl) rfl dX3_renderDie_67 (fun v G' hq => ?_) (fun _ _ h => h.elim)
  obtain ⟨rfl, hG9⟩ := hq
  rw [hG9]
  rw [show sbG (sbG G T5) (tc (tG (sbG G T5)) 47) = sbG G (tc T5 47) from sbG_u _ _ _]
  obtain ⟨T6, hT6⟩ : ∃ y : Tx, y = tc T5 47 := ⟨_, rfl⟩
  rw [← hT6]
  have nT6 : T6.1 = T5.1 + 1 := by rw [hT6]; rfl
  refine v_stk (st' := [vR g 121]) rfl ?_
  refine v_aload_n (pc := 70) rfl dX3_renderDie_70 ?_
  refine v_getR (pc := 71) (j := 4) fd_X3_10 (rfl) (by decide) rfl dX3_renderDie_71 ?_
  refine v_getR (pc := 74) (j := 7) fd_X3_72 (rfl) (by decide) rfl dX3_renderDie_74 ?_
  refine v_iload_n (pc := 77) rfl dX3_renderDie_77 ?_
  refine v_iald (pc := 78) (N := 5) rfl rfl (by decide) (by omega) (by decide) dX3_renderDie_78 ?_
  refine v_top (b := G 7 d) rfl ?_
  have r3 := S4_d hI (i := d) (by omega) (by omega)
  refine v_callB (pc := 79) (rest := []) (c_J4_append_bf812 (G := (sbG G T6)) (by show T6.1 ≤ 90; omega) (v := G 7 d) (by omega)) iok_J4_append_bf812 wM_X3_203 rfl (rmOk (by decide) (by decide)) ⟨Nat.le_of_ble_eq_true rfl, Nat.le_of_ble_eq_true rfl⟩ (Nat.le_of_ble_eq_true rfl) rfl dX3_renderDie_79 (fun v G' hq => ?_) (fun _ _ h => h.elim)
  obtain ⟨rfl, hG9⟩ := hq
  rw [hG9]
  rw [show sbG (sbG G T6) (tnum (tG (sbG G T6)) (G 7 d)) = sbG G (tnum T6 (G 7 d)) from sbG_u _ _ _]
  obtain ⟨T7, hT7⟩ : ∃ y : Tx, y = tnum T6 (G 7 d) := ⟨_, rfl⟩
  rw [← hT7]
  have nT7 : T6.1 ≤ T7.1 ∧ T7.1 ≤ T6.1 + 2 := by rw [hT7, tnum_n]; split <;> omega
  refine v_stk (st' := [vR g 121]) rfl ?_
  refine v_pop (pc := 82) rfl dX3_renderDie_82 ?_
  refine v_aload_n (pc := 83) rfl dX3_renderDie_83 ?_
  refine v_getR (pc := 84) (j := 121) fd_X3_43 (rfl) (by decide) rfl dX3_renderDie_84 ?_
  refine v_callB (pc := 87) (rest := []) (c_J4_length_8abf5 (G := (sbG G T7))) iok_J4_length_8abf5 wM_X3_210 rfl (rmOk (by decide) (by decide)) ⟨Nat.le_of_ble_eq_true rfl, Nat.le_of_ble_eq_true rfl⟩ (Nat.le_of_ble_eq_true rfl) rfl dX3_renderDie_87 (fun v G' hq => ?_) (fun _ _ h => h.elim)
  obtain ⟨rfl, hG9⟩ := hq
  rw [hG9]
  refine v_stk (st' := [vI (T7.1)]) rfl ?_
  exact v_iret (pc := 90) E (⟨hd, by rw [hT7, hT6, hT5, hT4, hT3, hT2, hT1], by rw [hT7, hT6, hT5, hT4, hT3, hT2, hT1]⟩) (Nat.le_of_ble_eq_true rfl) (Nat.le_of_ble_eq_true rfl) dX3_renderDie_90
set_option maxHeartbeats 4000000 in
set_option maxRecDepth 100000 in
theorem c_X3_renderVault {g : GT} {G : Mem} (hI : StI G 4) : Ctr g yX3_renderVault cX3_renderVault 4 (some FieldType.int) (rmL 5 21 4242) [vR g 0] G (fun v G' => v = some (vI (vtx (fun h => G 5 (G 8 (G 4 0 - 1 - h))) (fun h => cntE (G 4 5) (G 9) (G 8 (G 4 0 - 1 - h))) (G 4 0).toNat).1) ∧ G' = sbG G (vtx (fun h => G 5 (G 8 (G 4 0 - 1 - h))) (fun h => cntE (G 4 5) (G 9) (G 8 (G 4 0 - 1 - h))) (G 4 0).toNat)) NoX := by
  refine ctr_of [some (vR g 0), none, none, none] (by decide) (Nat.le_of_ble_eq_true rfl) rfl (fun γ E => ?_)
  show V γ g cX3_renderVault 4 RX3 (rmL 5 21 4242) G 0 0 0 [some (vR g 0), none, none, none] []
  have hn := StI_n hI
  have hc := StI_c hI
  have hy := StI_y hI
  refine v_aload_n (pc := 0) rfl dX3_renderVault_0 ?_
  refine v_getR (pc := 1) (j := 121) fd_X3_43 (rfl) (by decide) rfl dX3_renderVault_1 ?_
  refine v_iconst (pc := 4) (z := 0) dX3_renderVault_4 ?_
  refine v_callB (pc := 5) (rest := []) (c_J4_setLength_d00df (G := G)) iok_J4_setLength_d00df wM_X3_200 rfl (rmOk (by decide) (by decide)) ⟨by show 0 + 1 ≤ 21; omega, by show 0 + 202 ≤ 4242; omega⟩ (Nat.le_of_ble_eq_true rfl) rfl dX3_renderVault_5 (fun v G' hq => ?_) (fun _ _ h => h.elim)
  obtain ⟨rfl, hG9⟩ := hq
  rw [hG9]
  have nt0 : t0.1 = 0 := rfl
  refine v_stk (st' := []) rfl ?_
  refine v_aload_n (pc := 8) rfl dX3_renderVault_8 ?_
  refine v_getR (pc := 9) (j := 4) fd_X3_10 (rfl) (by decide) rfl dX3_renderVault_9 ?_
  refine v_get (pc := 12) 0 fd_X3_58 (rfl) (by decide) rfl rfl dX3_renderVault_12 ?_
  refine v_top (b := G 4 0) rfl ?_
  refine v_iconst (pc := 15) (z := 1) dX3_renderVault_15 ?_
  refine v_isub (pc := 16) dX3_renderVault_16 ?_
  refine v_istore_n (pc := 17) (by decide) rfl dX3_renderVault_17 ?_
  have lp18 : ∀ (m18 : Nat) (i : Int) (w : Nat) (T : Tx), (i = G 4 0 - 1 - (w : Int)) → ((w : Int) ≤ G 4 0) → (T = vtx (fun h => G 5 (G 8 (G 4 0 - 1 - h))) (fun h => cntE (G 4 5) (G 9) (G 8 (G 4 0 - 1 - h))) w) → (0 ≤ T.1 ∧ T.1 ≤ 7 * (w : Int)) → ((G 4 0 - (w : Int)).toNat) < m18 → V γ g cX3_renderVault 4 RX3 (rmL 5 21 4242) (sbG G T) (1 + 4 * w) (202 + 808 * w) 18 [some (vR g 0), some (vI i), none, none] [] := by
    intro m18
    induction m18 with
    | zero => intro i w T; intros; omega
    | succ m18 ih18 =>
      intro i w T h0 h1 hT hl hm18
      refine v_iload_n (pc := 18) rfl dX3_renderVault_18 ?_
      skip
      refine v_if_lt (pc := 19) (tgt := 97) (by omega) dX3_renderVault_19 (by decide) (fun bq1 => ?_) (fun bq1 => ?_)
      · skip
        refine v_aload_n (pc := 97) rfl dX3_renderVault_97 ?_
        refine v_getR (pc := 98) (j := 121) fd_X3_43 (rfl) (by decide) rfl dX3_renderVault_98 ?_
        refine v_callB (pc := 101) (rest := []) (c_J4_length_8abf5 (G := (sbG G T))) iok_J4_length_8abf5 wM_X3_210 rfl (rmOk (by decide) (by decide)) ⟨by show (1 + 4 * w) + 0 ≤ 21; omega, by show (202 + 808 * w) + 0 ≤ 4242; omega⟩ (Nat.le_of_ble_eq_true rfl) rfl dX3_renderVault_101 (fun v G' hq => ?_) (fun _ _ h => h.elim)
        obtain ⟨rfl, hG9⟩ := hq
        rw [hG9]
        refine v_stk (st' := [vI (T.1)]) rfl ?_
        exact v_iret (pc := 104) E (⟨by rw [hT, show w = (G 4 0).toNat by omega], by rw [hT, show w = (G 4 0).toNat by omega]⟩) (by show 1 + 4 * w ≤ 21; omega) (by show 202 + 808 * w ≤ 4242; omega) dX3_renderVault_104
      · skip
        refine v_aload_n (pc := 22) rfl dX3_renderVault_22 ?_
        refine v_getR (pc := 23) (j := 4) fd_X3_10 (rfl) (by decide) rfl dX3_renderVault_23 ?_
        refine v_getR (pc := 26) (j := 8) fd_X3_213 (rfl) (by decide) rfl dX3_renderVault_26 ?_
        refine v_iload_n (pc := 29) rfl dX3_renderVault_29 ?_
        refine v_iald (pc := 30) (N := 5) rfl rfl (by decide) (by omega) (by decide) dX3_renderVault_30 ?_
        refine v_top (b := G 8 i) rfl ?_
        have r2 := S4_r hI (r := i) (by omega) (by omega)
        refine v_istore_n (pc := 31) (by decide) rfl dX3_renderVault_31 ?_
        refine v_aload_n (pc := 32) rfl dX3_renderVault_32 ?_
        refine v_getR (pc := 33) (j := 4) fd_X3_10 (rfl) (by decide) rfl dX3_renderVault_33 ?_
        refine v_iload_n (pc := 36) rfl dX3_renderVault_36 ?_
        refine v_callVN (pc := 37) (rest := []) (c_X2_coinsFrom (G := sbG G T) isS4 (StI_sb (by decide) hI) (d := G 8 i) (by omega)) iok_X2_coinsFrom wM_X3_106 (rfl) (by decide) (by decide) rfl (rmOk (by decide) (by decide)) ⟨by show 1 + 4 * w + 0 ≤ 21; omega, by show 202 + 808 * w + 0 ≤ 4242; omega⟩ (Nat.le_of_ble_eq_true rfl) rfl dX3_renderVault_37 (fun v G' hq => ?_) (fun _ _ h => h.elim)
        obtain ⟨rfl, hG9⟩ := hq
        rw [hG9]
        obtain ⟨cn, h_cn⟩ : ∃ w9, w9 = (cntE (G 4 5) (G 9) (G 8 i)) := ⟨_, rfl⟩
        refine v_stk (st' := [vI cn]) (by rw [h_cn]; rfl) ?_
        have hcr : 0 ≤ cn ∧ cn ≤ G 4 5 := by rw [h_cn]; exact sz_cnt (n := G 4 5) (p := fun k => G 9 k = G 8 i) (fun k => Int.instDecidableEq _ _) hc.1
        refine v_istore_n (pc := 40) (by decide) rfl dX3_renderVault_40 ?_
        refine v_iload_n (pc := 41) rfl dX3_renderVault_41 ?_
        refine v_if_le (pc := 42) (tgt := 91) (by omega) dX3_renderVault_42 (by decide) (fun bq3 => ?_) (fun bq3 => ?_)
        · skip
          refine v_iinc (pc := 91) (y := (-1)) rfl (by decide) rfl dX3_renderVault_91 ?_
          refine v_wid (k' := 1 + 4 * (w + 1)) (n' := 202 + 808 * (w + 1)) (by show (1 + 4 * w) ≤ _; omega) (by show (202 + 808 * w) ≤ _; omega) ?_
          refine v_goto (pc := 94) (tgt := 18) dX3_renderVault_94 (by decide) ?_
          refine v_loc (L' := [some (vR g 0), some (vI (i + (-1))), none, none]) (⟨rfl, rfl, trivial⟩) ?_
          exact ih18 (i + (-1)) (w + 1) T (by omega) (by omega) (by rw [hT]; show _ = (if 0 < cntE (G 4 5) (G 9) (G 8 (G 4 0 - 1 - ((w : Nat) : Int))) then _ else _); rw [← h0, ← h_cn, if_neg (by omega)]) (by omega) (by omega)
        · skip
          refine v_aload_n (pc := 45) rfl dX3_renderVault_45 ?_
          refine v_getR (pc := 46) (j := 121) fd_X3_43 (rfl) (by decide) rfl dX3_renderVault_46 ?_
          refine v_callB (pc := 49) (rest := []) (c_J4_length_8abf5 (G := (sbG G T))) iok_J4_length_8abf5 wM_X3_210 rfl (rmOk (by decide) (by decide)) ⟨by show (1 + 4 * w) + 0 ≤ 21; omega, by show (202 + 808 * w) + 0 ≤ 4242; omega⟩ (Nat.le_of_ble_eq_true rfl) rfl dX3_renderVault_49 (fun v G' hq => ?_) (fun _ _ h => h.elim)
          obtain ⟨rfl, hG9⟩ := hq
          rw [hG9]
          refine v_stk (st' := [vI (T.1)]) rfl ?_
          refine v_if_le (pc := 52) (tgt := 65) (by omega) dX3_renderVault_52 (by decide) (fun bq4 => ?_) (fun bq4 => ?_)
          · skip
            refine v_aload_n (pc := 65) rfl dX3_renderVault_65 ?_
            refine v_getR (pc := 66) (j := 121) fd_X3_43 (rfl) (by decide) rfl dX3_renderVault_66 ?_
            refine v_aload_n (pc := 69) rfl dX3_renderVault_69 ?_
            refine v_getR (pc := 70) (j := 4) fd_X3_10 (rfl) (by decide) rfl dX3_renderVault_70 ?_
            refine v_getR (pc := 73) (j := 5) fd_X3_65 (rfl) (by decide) rfl dX3_renderVault_73 ?_
            refine v_iload_n (pc := 76) rfl dX3_renderVault_76 ?_
            refine v_iald (pc := 77) (N := 5) rfl rfl (by decide) (by omega) (by decide) dX3_renderVault_77 ?_
            refine v_top (b := G 5 (G 8 i)) rfl ?_
            have r5 := S4_d hI (i := (G 8 i)) (by omega) (by omega)
            refine v_callB (pc := 78) (rest := []) (c_J4_append_bf812 (G := (sbG G T)) (by show T.1 ≤ 90; omega) (v := G 5 (G 8 i)) (by omega)) iok_J4_append_bf812 wM_X3_203 rfl (rmOk (by decide) (by decide)) ⟨by show (1 + 4 * w) + 1 ≤ 21; omega, by show (202 + 808 * w) + 202 ≤ 4242; omega⟩ (Nat.le_of_ble_eq_true rfl) rfl dX3_renderVault_78 (fun v G' hq => ?_) (fun _ _ h => h.elim)
            obtain ⟨rfl, hG9⟩ := hq
            rw [hG9]
            rw [show sbG (sbG G T) (tnum (tG (sbG G T)) (G 5 (G 8 i))) = sbG G (tnum T (G 5 (G 8 i))) from sbG_u _ _ _]
            obtain ⟨T1, hT1⟩ : ∃ y : Tx, y = tnum T (G 5 (G 8 i)) := ⟨_, rfl⟩
            rw [← hT1]
            have nT1 : T.1 ≤ T1.1 ∧ T1.1 ≤ T.1 + 2 := by rw [hT1, tnum_n]; split <;> omega
            refine v_stk (st' := [vR g 121]) rfl ?_
            refine v_bipush (pc := 81) (z := 120) rfl dX3_renderVault_81 ?_
            refine v_callB (pc := 83) (rest := []) (c_J4_append_cf468 (G := (sbG G T1)) (by show T1.1 ≤ 90; omega) (c := 120) (by omega)) iok_J4_append_cf468 wM_X3_207 rfl (rmOk (by decide) (by decide)) ⟨by show ((1 + 4 * w) + 1) + 1 ≤ 21; omega, by show ((202 + 808 * w) + 202) + 202 ≤ 4242; omega⟩ (Nat.le_of_ble_eq_true rfl) rfl dX3_renderVault_83 (fun v G' hq => ?_) (fun _ _ h => h.elim)
            obtain ⟨rfl, hG9⟩ := hq
            rw [hG9]
            rw [show sbG (sbG G T1) (tc (tG (sbG G T1)) 120) = sbG G (tc T1 120) from sbG_u _ _ _]
            obtain ⟨T2, hT2⟩ : ∃ y : Tx, y = tc T1 120 := ⟨_, rfl⟩
            rw [← hT2]
            have nT2 : T2.1 = T1.1 + 1 := by rw [hT2]; rfl
            refine v_stk (st' := [vR g 121]) rfl ?_
            refine v_iload_n (pc := 86) rfl dX3_renderVault_86 ?_
            refine v_callB (pc := 87) (rest := []) (c_J4_append_bf812 (G := (sbG G T2)) (by show T2.1 ≤ 90; omega) (v := cn) (by omega)) iok_J4_append_bf812 wM_X3_203 rfl (rmOk (by decide) (by decide)) ⟨by show (((1 + 4 * w) + 1) + 1) + 1 ≤ 21; omega, by show (((202 + 808 * w) + 202) + 202) + 202 ≤ 4242; omega⟩ (Nat.le_of_ble_eq_true rfl) rfl dX3_renderVault_87 (fun v G' hq => ?_) (fun _ _ h => h.elim)
            obtain ⟨rfl, hG9⟩ := hq
            rw [hG9]
            rw [show sbG (sbG G T2) (tnum (tG (sbG G T2)) cn) = sbG G (tnum T2 cn) from sbG_u _ _ _]
            obtain ⟨T3, hT3⟩ : ∃ y : Tx, y = tnum T2 cn := ⟨_, rfl⟩
            rw [← hT3]
            have nT3 : T2.1 ≤ T3.1 ∧ T3.1 ≤ T2.1 + 2 := by rw [hT3, tnum_n]; split <;> omega
            refine v_stk (st' := [vR g 121]) rfl ?_
            refine v_pop (pc := 90) rfl dX3_renderVault_90 ?_
            refine v_iinc (pc := 91) (y := (-1)) rfl (by decide) rfl dX3_renderVault_91 ?_
            refine v_wid (k' := 1 + 4 * (w + 1)) (n' := 202 + 808 * (w + 1)) (by show ((((1 + 4 * w) + 1) + 1) + 1) ≤ _; omega) (by show ((((202 + 808 * w) + 202) + 202) + 202) ≤ _; omega) ?_
            refine v_goto (pc := 94) (tgt := 18) dX3_renderVault_94 (by decide) ?_
            refine v_loc (L' := [some (vR g 0), some (vI (i + (-1))), none, none]) (⟨rfl, rfl, trivial⟩) ?_
            exact ih18 (i + (-1)) (w + 1) T3 (by omega) (by omega) (by rw [hT3, hT2, hT1]; show _ = (if 0 < cntE (G 4 5) (G 9) (G 8 (G 4 0 - 1 - ((w : Nat) : Int))) then tnum (tc (tnum (if 0 < (vtx (fun h => G 5 (G 8 (G 4 0 - 1 - h))) (fun h => cntE (G 4 5) (G 9) (G 8 (G 4 0 - 1 - h))) w).1 then tc (vtx (fun h => G 5 (G 8 (G 4 0 - 1 - h))) (fun h => cntE (G 4 5) (G 9) (G 8 (G 4 0 - 1 - h))) w) 32 else vtx (fun h => G 5 (G 8 (G 4 0 - 1 - h))) (fun h => cntE (G 4 5) (G 9) (G 8 (G 4 0 - 1 - h))) w) (G 5 (G 8 (G 4 0 - 1 - ((w : Nat) : Int))))) 120) (cntE (G 4 5) (G 9) (G 8 (G 4 0 - 1 - ((w : Nat) : Int)))) else _); rw [← h0, ← h_cn, if_pos (by omega), ← hT, if_neg (by omega)]) (by omega) (by omega)
          · skip
            refine v_aload_n (pc := 55) rfl dX3_renderVault_55 ?_
            refine v_getR (pc := 56) (j := 121) fd_X3_43 (rfl) (by decide) rfl dX3_renderVault_56 ?_
            refine v_bipush (pc := 59) (z := 32) rfl dX3_renderVault_59 ?_
            refine v_callB (pc := 61) (rest := []) (c_J4_append_cf468 (G := (sbG G T)) (by show T.1 ≤ 90; omega) (c := 32) (by omega)) iok_J4_append_cf468 wM_X3_207 rfl (rmOk (by decide) (by decide)) ⟨by show (1 + 4 * w) + 1 ≤ 21; omega, by show (202 + 808 * w) + 202 ≤ 4242; omega⟩ (Nat.le_of_ble_eq_true rfl) rfl dX3_renderVault_61 (fun v G' hq => ?_) (fun _ _ h => h.elim)
            obtain ⟨rfl, hG9⟩ := hq
            rw [hG9]
            rw [show sbG (sbG G T) (tc (tG (sbG G T)) 32) = sbG G (tc T 32) from sbG_u _ _ _]
            obtain ⟨T4, hT4⟩ : ∃ y : Tx, y = tc T 32 := ⟨_, rfl⟩
            rw [← hT4]
            have nT4 : T4.1 = T.1 + 1 := by rw [hT4]; rfl
            refine v_stk (st' := [vR g 121]) rfl ?_
            refine v_pop (pc := 64) rfl dX3_renderVault_64 ?_
            refine v_aload_n (pc := 65) rfl dX3_renderVault_65 ?_
            refine v_getR (pc := 66) (j := 121) fd_X3_43 (rfl) (by decide) rfl dX3_renderVault_66 ?_
            refine v_aload_n (pc := 69) rfl dX3_renderVault_69 ?_
            refine v_getR (pc := 70) (j := 4) fd_X3_10 (rfl) (by decide) rfl dX3_renderVault_70 ?_
            refine v_getR (pc := 73) (j := 5) fd_X3_65 (rfl) (by decide) rfl dX3_renderVault_73 ?_
            refine v_iload_n (pc := 76) rfl dX3_renderVault_76 ?_
            refine v_iald (pc := 77) (N := 5) rfl rfl (by decide) (by omega) (by decide) dX3_renderVault_77 ?_
            refine v_top (b := G 5 (G 8 i)) rfl ?_
            have r6 := S4_d hI (i := (G 8 i)) (by omega) (by omega)
            refine v_callB (pc := 78) (rest := []) (c_J4_append_bf812 (G := (sbG G T4)) (by show T4.1 ≤ 90; omega) (v := G 5 (G 8 i)) (by omega)) iok_J4_append_bf812 wM_X3_203 rfl (rmOk (by decide) (by decide)) ⟨by show ((1 + 4 * w) + 1) + 1 ≤ 21; omega, by show ((202 + 808 * w) + 202) + 202 ≤ 4242; omega⟩ (Nat.le_of_ble_eq_true rfl) rfl dX3_renderVault_78 (fun v G' hq => ?_) (fun _ _ h => h.elim)
            obtain ⟨rfl, hG9⟩ := hq
            rw [hG9]
            rw [show sbG (sbG G T4) (tnum (tG (sbG G T4)) (G 5 (G 8 i))) = sbG G (tnum T4 (G 5 (G 8 i))) from sbG_u _ _ _]
            obtain ⟨T5, hT5⟩ : ∃ y : Tx, y = tnum T4 (G 5 (G 8 i)) := ⟨_, rfl⟩
            rw [← hT5]
            have nT5 : T4.1 ≤ T5.1 ∧ T5.1 ≤ T4.1 + 2 := by rw [hT5, tnum_n]; split <;> omega
            refine v_stk (st' := [vR g 121]) rfl ?_
            refine v_bipush (pc := 81) (z := 120) rfl dX3_renderVault_81 ?_
            refine v_callB (pc := 83) (rest := []) (c_J4_append_cf468 (G := (sbG G T5)) (by show T5.1 ≤ 90; omega) (c := 120) (by omega)) iok_J4_append_cf468 wM_X3_207 rfl (rmOk (by decide) (by decide)) ⟨by show (((1 + 4 * w) + 1) + 1) + 1 ≤ 21; omega, by show (((202 + 808 * w) + 202) + 202) + 202 ≤ 4242; omega⟩ (Nat.le_of_ble_eq_true rfl) rfl dX3_renderVault_83 (fun v G' hq => ?_) (fun _ _ h => h.elim)
            obtain ⟨rfl, hG9⟩ := hq
            rw [hG9]
            rw [show sbG (sbG G T5) (tc (tG (sbG G T5)) 120) = sbG G (tc T5 120) from sbG_u _ _ _]
            obtain ⟨T6, hT6⟩ : ∃ y : Tx, y = tc T5 120 := ⟨_, rfl⟩
            rw [← hT6]
            have nT6 : T6.1 = T5.1 + 1 := by rw [hT6]; rfl
            refine v_stk (st' := [vR g 121]) rfl ?_
            refine v_iload_n (pc := 86) rfl dX3_renderVault_86 ?_
            refine v_callB (pc := 87) (rest := []) (c_J4_append_bf812 (G := (sbG G T6)) (by show T6.1 ≤ 90; omega) (v := cn) (by omega)) iok_J4_append_bf812 wM_X3_203 rfl (rmOk (by decide) (by decide)) ⟨by show ((((1 + 4 * w) + 1) + 1) + 1) + 1 ≤ 21; omega, by show ((((202 + 808 * w) + 202) + 202) + 202) + 202 ≤ 4242; omega⟩ (Nat.le_of_ble_eq_true rfl) rfl dX3_renderVault_87 (fun v G' hq => ?_) (fun _ _ h => h.elim)
            obtain ⟨rfl, hG9⟩ := hq
            rw [hG9]
            rw [show sbG (sbG G T6) (tnum (tG (sbG G T6)) cn) = sbG G (tnum T6 cn) from sbG_u _ _ _]
            obtain ⟨T7, hT7⟩ : ∃ y : Tx, y = tnum T6 cn := ⟨_, rfl⟩
            rw [← hT7]
            have nT7 : T6.1 ≤ T7.1 ∧ T7.1 ≤ T6.1 + 2 := by rw [hT7, tnum_n]; split <;> omega
            refine v_stk (st' := [vR g 121]) rfl ?_
            refine v_pop (pc := 90) rfl dX3_renderVault_90 ?_
            refine v_iinc (pc := 91) (y := (-1)) rfl (by decide) rfl dX3_renderVault_91 ?_
            refine v_wid (k' := 1 + 4 * (w + 1)) (n' := 202 + 808 * (w + 1)) (by show (((((1 + 4 * w) + 1) + 1) + 1) + 1) ≤ _; omega) (by show (((((202 + 808 * w) + 202) + 202) + 202) + 202) ≤ _; omega) ?_
            refine v_goto (pc := 94) (tgt := 18) dX3_renderVault_94 (by decide) ?_
            refine v_loc (L' := [some (vR g 0), some (vI (i + (-1))), none, none]) (⟨rfl, rfl, trivial⟩) ?_
            exact ih18 (i + (-1)) (w + 1) T7 (by omega) (by omega) (by rw [hT7, hT6, hT5, hT4]; show _ = (if 0 < cntE (G 4 5) (G 9) (G 8 (G 4 0 - 1 - ((w : Nat) : Int))) then tnum (tc (tnum (if 0 < (vtx (fun h => G 5 (G 8 (G 4 0 - 1 - h))) (fun h => cntE (G 4 5) (G 9) (G 8 (G 4 0 - 1 - h))) w).1 then tc (vtx (fun h => G 5 (G 8 (G 4 0 - 1 - h))) (fun h => cntE (G 4 5) (G 9) (G 8 (G 4 0 - 1 - h))) w) 32 else vtx (fun h => G 5 (G 8 (G 4 0 - 1 - h))) (fun h => cntE (G 4 5) (G 9) (G 8 (G 4 0 - 1 - h))) w) (G 5 (G 8 (G 4 0 - 1 - ((w : Nat) : Int))))) 120) (cntE (G 4 5) (G 9) (G 8 (G 4 0 - 1 - ((w : Nat) : Int)))) else _); rw [← h0, ← h_cn, if_pos (by omega), ← hT, if_pos (by omega)]) (by omega) (by omega)
  refine v_loc (L' := [some (vR g 0), some (vI (G 4 0 - 1)), none, none]) (⟨rfl, rfl, trivial⟩) ?_
  exact lp18 _ (G 4 0 - 1) 0 t0 (by omega) (by omega) rfl (by show (0 : Int) ≤ 0 ∧ (0 : Int) ≤ 7 * ((0 : Nat) : Int); omega) (Nat.lt_succ_self _)
