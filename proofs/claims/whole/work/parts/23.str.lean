-- the words of the commands
/-- how long the word k is; its sign at z -/
def wlK (k : Nat) : Int := ((VL.getD k 0 : Nat) : Int)
def wcK (k : Nat) (z : Int) : Int := ((VB.getD k []).getD z.toNat 0).toInt
theorem wlK_r : ∀ k, k < 7 → 4 ≤ wlK k ∧ wlK k ≤ 8 := by decide
theorem wcK_n : ∀ k, k < 7 → ∀ j, j < VL.getD k 0 → 32 ≤ wcK k (j : Int) ∧ wcK k (j : Int) ≤ 126 := by decide +kernel
theorem wcK_r {k : Nat} {z : Int} (hk : k < 7) (h : 0 ≤ z ∧ z < wlK k) : 32 ≤ wcK k z ∧ wcK k z ≤ 126 := by
  obtain ⟨n, rfl⟩ := Int.eq_ofNat_of_zero_le h.1
  exact wcK_n k hk n (by have := h.2; unfold wlK at this; omega)
theorem i32_ti (x : Int32) : Int32.ofInt x.toInt = x := i32_eq (i32_to (i32_rng x).1 (i32_rng x).2)
theorem and255 {a : Int} (h : 0 ≤ a ∧ a < 256) : Int32.ofInt a &&& Int32.ofInt 255 = Int32.ofInt a := by
  obtain ⟨n, rfl⟩ := Int.eq_ofNat_of_zero_le h.1
  have : ∀ n : Nat, n < 256 → Int32.ofInt (n : Int) &&& Int32.ofInt 255 = Int32.ofInt (n : Int) := by decide +kernel
  exact this n (by omega)
theorem shr0 (x : Int32) : x >>> (Int32.ofInt 0 &&& 31) = x := by
  have e : Int32.ofInt 0 &&& 31 = 0 := by decide
  rw [e]
  simp
section VSTG
variable {γ : gT} {g : GT} {cc bs : ByteArray} {nL mL : Nat} {own : String} {rm rm' : Room} {G : Mem} {k n : Nat} {pc idx : Nat} {L : List (Option Value)} {st rest : List Value} {rt : Option FieldType} {Qq : Option Value → Mem → Prop} {Xq : String → Mem → Prop} {y : MethodName} {as : List Value}
theorem v_iand255 {a : Int} (h : 0 ≤ a ∧ a < 256) (d : decode cc pc = .ok (.iand, 1)) (kk : V γ g cc nL own rm G k n (pc + 1) L (vI a :: st)) : V γ g cc nL own rm G k n pc L (vI 255 :: vI a :: st) :=
  v_row (fun p l e R s m args below meth c Q H locs ls C hL q => lv_iand C.1 C.2.1 d (by rw [and255 h]; exact q)) kk
theorem v_ishr0 {a : Int} (d : decode cc pc = .ok (.ishr, 1)) (kk : V γ g cc nL own rm G k n (pc + 1) L (vI a :: st)) : V γ g cc nL own rm G k n pc L (vI 0 :: vI a :: st) :=
  v_row (fun p l e R s m args below meth c Q H locs ls C hL q => lv_ishr C.1 C.2.1 d (by rw [shr0]; exact q)) kk
theorem v_gvK {i : Nat} (hi : i < 7) (d : decode cc pc = .ok (.getfield 9, 3)) (kk : V γ g cc nL RJ0 rm G k n (pc + 3) L (.ref (gV g i) :: st)) : V γ g cc nL RJ0 rm G k n pc L (.ref (gK g i) :: st) := by
  obtain ⟨p, l, e, R, s, m, args, below, meth, c0, Q⟩ := γ
  intro C H locs ls hP hS hL
  have hG : Gc g s s.heap := C.2.2.2.2.2.2.1
  exact vk_getf C.1 C.2.1 (hG.2.2.2.2.1.2.2.1.1 i hi).2.2.1 hS C.2.2.2.1 (C.2.2.2.2.1 _ wF_J0_9) (fun x h => h) d (kk C H locs ls hP hS hL)
theorem v_gcK {i : Nat} (hi : i < 7) (d : decode cc pc = .ok (.getfield 15, 3)) (kk : V γ g cc nL RJ0 rm G k n (pc + 3) L (vI 0 :: st)) : V γ g cc nL RJ0 rm G k n pc L (.ref (gK g i) :: st) := by
  obtain ⟨p, l, e, R, s, m, args, below, meth, c0, Q⟩ := γ
  intro C H locs ls hP hS hL
  have hG : Gc g s s.heap := C.2.2.2.2.2.2.1
  exact vk_getf C.1 C.2.1 (hG.2.2.2.2.1.2.2.1.1 i hi).2.1 hS C.2.2.2.1 (C.2.2.2.2.1 _ wF_J0_15) (fun x h => h) d (kk C H locs ls hP hS hL)
theorem v_cs (hl : Cond.fieldLink own idx RJ0 "COMPACT_STRINGS" "Z" ∈ WT) (d : decode cc pc = .ok (.getstatic idx, 3)) (kk : V γ g cc nL own rm G k n (pc + 3) L (vI 1 :: st)) : V γ g cc nL own rm G k n pc L st := by
  obtain ⟨p, l, e, R, s, m, args, below, meth, c0, Q⟩ := γ
  intro C H locs ls hP hS hL
  have hG : Gc g s s.heap := C.2.2.2.2.2.2.1
  exact va_gets C.1 C.2.1 hG.2.2.2.2.1.2.2.2.1 hS C.2.2.2.1 (C.2.2.2.2.1 _ hl) (fun x h => h) d (kk C H locs ls hP hS hL)
theorem v_si (d : decode cc pc = .ok (.getstatic 1053, 3)) (k0 : V γ g cc nL RJ0 rm G k n (pc + 3) L (.null :: st)) (k1 : ∀ t, V γ g cc nL RJ0 rm G k n (pc + 3) L (.ref t :: st)) : V γ g cc nL RJ0 rm G k n pc L st := by
  obtain ⟨p, l, e, R, s, m, args, below, meth, c0, Q⟩ := γ
  intro C H locs ls hP hS hL
  have hG : Gc g s s.heap := C.2.2.2.2.2.2.1
  rcases hG.2.2.2.2.1.2.2.2.2.2.2.1 with h | ⟨t, h⟩
  · exact va_gets C.1 C.2.1 h hS C.2.2.2.1 (C.2.2.2.2.1 _ wF_J0_1053) (fun x h => h) d (k0 C H locs ls hP hS hL)
  · exact va_gets C.1 C.2.1 h hS C.2.2.2.1 (C.2.2.2.2.1 _ wF_J0_1053) (fun x h => h) d (k1 t C H locs ls hP hS hL)
theorem v_lenV {i : Nat} (hi : i < 7) (d : decode cc pc = .ok (.arraylength, 1)) (kk : V γ g cc nL own rm G k n (pc + 1) L (vI (wlK i) :: st)) : V γ g cc nL own rm G k n pc L (.ref (gV g i) :: st) := by
  obtain ⟨p, l, e, R, s, m, args, below, meth, c0, Q⟩ := γ
  intro C H locs ls hP hS hL
  have hG : Gc g s s.heap := C.2.2.2.2.2.2.1
  exact va_tlen C.1 C.2.1 (hG.2.2.2.2.1.2.2.1.1 i hi).2.2.2 hS (v := Int32.ofInt (wlK i)) rfl d (kk C H locs ls hP hS hL)
theorem v_baldV {i : Nat} {z : Int} (hi : i < 7) (hz : 0 ≤ z ∧ z < wlK i) (d : decode cc pc = .ok (.baload, 1)) (kk : V γ g cc nL own rm G k n (pc + 1) L (vI (wcK i z) :: st)) : V γ g cc nL own rm G k n pc L (vI z :: .ref (gV g i) :: st) := by
  obtain ⟨p, l, e, R, s, m, args, below, meth, c0, Q⟩ := γ
  intro C H locs ls hP hS hL
  have hG : Gc g s s.heap := C.2.2.2.2.2.2.1
  have hw := wlK_r i hi
  have hz2 : z < ((VL.getD i 0 : Nat) : Int) := hz.2
  have hw2 : wlK i = ((VL.getD i 0 : Nat) : Int) := rfl
  refine va_tb C.1 C.2.1 (hG.2.2.2.2.1.2.2.1.1 i hi).2.2.2 hS (i := Int32.ofInt z) (i32_in hz.1 hz2 (by omega)) (v := vI (wcK i z)) ?_ d (kk C H locs ls hP hS hL)
  rw [i32_nat hz.1 (by omega)]
  show Value.int _ = Value.int (Int32.ofInt (wcK i z))
  unfold wcK
  rw [i32_ti]
theorem v_ldcK {i : Nat} {tx : String} (hi : i < 7) (hv : VS[i]? = some (idx, tx)) (d : decode cc pc = .ok (.ldc idx, 2)) (kk : V γ g cc nL RX1 rm G k n (pc + 2) L (.ref (gK g i) :: st)) : V γ g cc nL RX1 rm G k n pc L st := by
  obtain ⟨p, l, e, R, s, m, args, below, meth, c0, Q⟩ := γ
  intro C H locs ls hP hS hL
  have hG : Gc g s s.heap := C.2.2.2.2.2.2.1
  exact va_ldcS C.1 C.2.1 C.2.2.2.1 (hG.2.2.2.1 i hi _ hv) d (kk C H locs ls hP hS hL)
theorem v_callK {i : Nat} (hi : i < 7) (hM : Ctr g y bs mL rt rm' (.ref (gK g i) :: as) G Qq Xq) (O : IOk y bs mL rt as.length) (hl : Cond.methodLink own idx y ∈ WT) (hy : y.cls = RJ0) (hR : RmOk rm' rm mL) (hf : k + rm'.cells ≤ rm.cells ∧ n + rm'.slots ≤ rm.slots) (hs : (rest.map fun v => v.category).sum ≤ 8) (hst : st = as.reverse ++ .ref (gK g i) :: rest) (d : decode cc pc = .ok (.invokevirtual idx, 3))
    (kq : ∀ (v : Option Value) (G' : Mem), Qq v G' → V γ g cc nL own rm G' (k + rm'.cells) (n + rm'.slots) (pc + 3) L (v.toList ++ rest)) (kx : ∀ (E : String) (G' : Mem), Xq E G' → VX γ g cc nL own rm G' (k + rm'.cells) (n + rm'.slots) pc L rest E) : V γ g cc nL own rm G k n pc L st := by
  refine v_run (fun p l e R s m args below meth c0 Q H locs ls C hP hS hL => ?_) kq kx
  obtain ⟨hx, hb, hml, ho, hts, rfl, hG, hlk, rfl⟩ := C
  obtain ⟨⟨o1, o2, o3⟩, o4, o5⟩ := O
  refine ⟨(.ref (gK g i) :: as).toArray, ?_⟩
  have cw := cwV (R := R) (s := s) (args := args) (own := own) (index := idx) (C := y.cls) (mc := rm'.cells) (ms := rm'.slots) (rm := rm') as.length hts (wt_cons hl (wt_cons o4 (wt_cons o5 (wt_cons o2 (wt_cons o1 wt_GoodIn))))) rfl rfl rfl ⟨rfl, o3⟩ hR
  exact vx_runV (As := as) (rest := rest) ⟨hx, hb, hml, ho, hts⟩ hM cw ⟨Pc1_blind _ _ _, by rw [hy]; exact vk_recv hG.2.2.2.2.1.2.2.1 hi hS, pre_U hG hP hS⟩ rfl rfl hL.1 hst (lv_room hs) d hf
end VSTG

theorem iok_J0_length_8abf5 : IOk yJ0_length_8abf5 cJ0_length_8abf5 1 (some FieldType.int) 0 := ⟨⟨wC_J0_length_8abf5, wN_J0, by decide, by decide, by decide +kernel⟩, wI_J0_length_8abf5, wS_J0_length_8abf5⟩
theorem iok_J0_coder_7d493 : IOk yJ0_coder_7d493 cJ0_coder_7d493 1 (some FieldType.byte) 0 := ⟨⟨wC_J0_coder_7d493, wN_J0, by decide, by decide, by decide +kernel⟩, wI_J0_coder_7d493, wS_J0_coder_7d493⟩
theorem iok_J0_isLatin1_aae02 : IOk yJ0_isLatin1_aae02 cJ0_isLatin1_aae02 1 (some FieldType.boolean) 0 := ⟨⟨wC_J0_isLatin1_aae02, wN_J0, by decide, by decide, by decide +kernel⟩, wI_J0_isLatin1_aae02, wS_J0_isLatin1_aae02⟩
theorem iok_J0_charAt_5068e : IOk yJ0_charAt_5068e cJ0_charAt_5068e 2 (some FieldType.char) 1 := ⟨⟨wC_J0_charAt_5068e, wN_J0, by decide, by decide, by decide +kernel⟩, wI_J0_charAt_5068e, wS_J0_charAt_5068e⟩
theorem sok_J1_charAt_3b067 : SOk yJ1_charAt_3b067 cJ1_charAt_3b067 2 (some FieldType.char) 2 := ⟨⟨wC_J1_charAt_3b067, wN_J1, by decide, by decide, by decide +kernel⟩, wT_J1_charAt_3b067⟩
theorem sok_J0_checkIndex_df160 : SOk yJ0_checkIndex_df160 cJ0_checkIndex_df160 2 (none : Option FieldType) 2 := ⟨⟨wC_J0_checkIndex_df160, wN_J0, by decide, by decide, by decide +kernel⟩, wT_J0_checkIndex_df160⟩
theorem sok_J3_checkIndex_8e157 : SOk yJ3_checkIndex_8e157 cJ3_checkIndex_8e157 3 (some FieldType.int) 3 := ⟨⟨wC_J3_checkIndex_8e157, wN_J3, by decide, by decide, by decide +kernel⟩, wT_J3_checkIndex_8e157⟩
set_option maxHeartbeats 4000000 in
set_option maxRecDepth 100000 in
theorem c_J0_coder_7d493 {g : GT} {G : Mem} {k : Nat} (hk : k < 7) : Ctr g yJ0_coder_7d493 cJ0_coder_7d493 1 (some FieldType.byte) (rmL 0 0 0) [.ref (gK g k)] G (RM 0 G) NoX := by
  refine ctr_of [some (.ref (gK g k))] (by decide) (Nat.le_of_ble_eq_true rfl) rfl (fun γ E => ?_)
  show V γ g cJ0_coder_7d493 1 RJ0 (rmL 0 0 0) G 0 0 0 [some (.ref (gK g k))] []
  refine v_cs (pc := 0) wF_J0_38 dJ0_coder_7d493_0 ?_
  refine v_if_eq (pc := 3) (tgt := 13) (by omega) dJ0_coder_7d493_3 (by decide) (fun h1 => absurd h1 (by decide)) (fun _ => ?_)
  refine v_aload_n (pc := 6) rfl dJ0_coder_7d493_6 ?_
  refine v_gcK (pc := 7) hk dJ0_coder_7d493_7 ?_
  refine v_goto (pc := 10) (tgt := 14) dJ0_coder_7d493_10 (by decide) ?_
  exact v_zret (pc := 14) E rfl (⟨rfl, rfl⟩) (Nat.le_of_ble_eq_true rfl) (Nat.le_of_ble_eq_true rfl) dJ0_coder_7d493_14
set_option maxHeartbeats 4000000 in
set_option maxRecDepth 100000 in
theorem c_J0_isLatin1_aae02 {g : GT} {G : Mem} {k : Nat} (hk : k < 7) : Ctr g yJ0_isLatin1_aae02 cJ0_isLatin1_aae02 1 (some FieldType.boolean) (rmL 0 0 0) [.ref (gK g k)] G (RM 1 G) NoX := by
  refine ctr_of [some (.ref (gK g k))] (by decide) (Nat.le_of_ble_eq_true rfl) rfl (fun γ E => ?_)
  show V γ g cJ0_isLatin1_aae02 1 RJ0 (rmL 0 0 0) G 0 0 0 [some (.ref (gK g k))] []
  refine v_cs (pc := 0) wF_J0_38 dJ0_isLatin1_aae02_0 ?_
  refine v_if_eq (pc := 3) (tgt := 17) (by omega) dJ0_isLatin1_aae02_3 (by decide) (fun h1 => absurd h1 (by decide)) (fun _ => ?_)
  refine v_aload_n (pc := 6) rfl dJ0_isLatin1_aae02_6 ?_
  refine v_gcK (pc := 7) hk dJ0_isLatin1_aae02_7 ?_
  refine v_if_ne (pc := 10) (tgt := 17) (by omega) dJ0_isLatin1_aae02_10 (by decide) (fun h2 => absurd h2 (by decide)) (fun _ => ?_)
  refine v_iconst (pc := 13) (z := 1) dJ0_isLatin1_aae02_13 ?_
  refine v_goto (pc := 14) (tgt := 18) dJ0_isLatin1_aae02_14 (by decide) ?_
  exact v_bret (pc := 18) E (by decide) (⟨rfl, rfl⟩) (Nat.le_of_ble_eq_true rfl) (Nat.le_of_ble_eq_true rfl) dJ0_isLatin1_aae02_18
set_option maxHeartbeats 4000000 in
set_option maxRecDepth 100000 in
theorem c_J0_length_8abf5 {g : GT} {G : Mem} {k : Nat} (hk : k < 7) : Ctr g yJ0_length_8abf5 cJ0_length_8abf5 1 (some FieldType.int) (rmL 1 0 0) [.ref (gK g k)] G (RM (wlK k) G) NoX := by
  refine ctr_of [some (.ref (gK g k))] (by decide) (Nat.le_of_ble_eq_true rfl) rfl (fun γ E => ?_)
  show V γ g cJ0_length_8abf5 1 RJ0 (rmL 1 0 0) G 0 0 0 [some (.ref (gK g k))] []
  refine v_aload_n (pc := 0) rfl dJ0_length_8abf5_0 ?_
  refine v_gvK (pc := 1) hk dJ0_length_8abf5_1 ?_
  refine v_lenV (pc := 4) hk dJ0_length_8abf5_4 ?_
  refine v_aload_n (pc := 5) rfl dJ0_length_8abf5_5 ?_
  refine v_callK (pc := 6) (rest := [vI (wlK k)]) hk (c_J0_coder_7d493 hk) iok_J0_coder_7d493 wM_J0_335 rfl (rmOk (by decide) (by decide)) ⟨Nat.le_of_ble_eq_true rfl, Nat.le_of_ble_eq_true rfl⟩ (Nat.le_of_ble_eq_true rfl) rfl dJ0_length_8abf5_6 (fun v G' hq => ?_) (fun _ _ h => h.elim)
  obtain ⟨rfl, hG9⟩ := hq
  rw [hG9]
  refine v_stk (st' := [vI 0, vI (wlK k)]) rfl ?_
  refine v_ishr0 (pc := 9) dJ0_length_8abf5_9 ?_
  exact v_iret (pc := 10) E (⟨rfl, rfl⟩) (Nat.le_of_ble_eq_true rfl) (Nat.le_of_ble_eq_true rfl) dJ0_length_8abf5_10
set_option maxHeartbeats 4000000 in
set_option maxRecDepth 100000 in
theorem c_J3_checkIndex_n {g : GT} {G : Mem} {i n : Int} (h_i : 0 ≤ i ∧ i < n) (h_n : n < 2147483648) : Ctr g yJ3_checkIndex_8e157 cJ3_checkIndex_8e157 3 (some FieldType.int) (rmL 0 0 0) [vI i, vI n, .null] G (RM i G) NoX := by
  refine ctr_of [some (vI i), some (vI n), some (.null)] (by decide) (Nat.le_of_ble_eq_true rfl) rfl (fun γ E => ?_)
  show V γ g cJ3_checkIndex_8e157 3 RJ3 (rmL 0 0 0) G 0 0 0 [some (vI i), some (vI n), some (.null)] []
  refine v_iload_n (pc := 0) rfl dJ3_checkIndex_8e157_0 ?_
  refine v_if_lt (pc := 1) (tgt := 9) (by omega) dJ3_checkIndex_8e157_1 (by decide) (fun h1 => ?_) (fun h1 => ?_)
  · skip
    exfalso; omega
  · skip
    refine v_iload_n (pc := 4) rfl dJ3_checkIndex_8e157_4 ?_
    refine v_iload_n (pc := 5) rfl dJ3_checkIndex_8e157_5 ?_
    refine v_icmp_lt (pc := 6) (tgt := 16) (by omega) dJ3_checkIndex_8e157_6 (by decide) (fun h2 => ?_) (fun h2 => ?_)
    · skip
      refine v_iload_n (pc := 16) rfl dJ3_checkIndex_8e157_16 ?_
      exact v_iret (pc := 17) E (⟨rfl, rfl⟩) (Nat.le_of_ble_eq_true rfl) (Nat.le_of_ble_eq_true rfl) dJ3_checkIndex_8e157_17
    · skip
      exfalso; omega
set_option maxHeartbeats 4000000 in
set_option maxRecDepth 100000 in
theorem c_J3_checkIndex_r {g : GT} {G : Mem} {i n : Int} {t : Nat} (h_i : 0 ≤ i ∧ i < n) (h_n : n < 2147483648) : Ctr g yJ3_checkIndex_8e157 cJ3_checkIndex_8e157 3 (some FieldType.int) (rmL 0 0 0) [vI i, vI n, .ref t] G (RM i G) NoX := by
  refine ctr_of [some (vI i), some (vI n), some (.ref t)] (by decide) (Nat.le_of_ble_eq_true rfl) rfl (fun γ E => ?_)
  show V γ g cJ3_checkIndex_8e157 3 RJ3 (rmL 0 0 0) G 0 0 0 [some (vI i), some (vI n), some (.ref t)] []
  refine v_iload_n (pc := 0) rfl dJ3_checkIndex_8e157_0 ?_
  refine v_if_lt (pc := 1) (tgt := 9) (by omega) dJ3_checkIndex_8e157_1 (by decide) (fun h1 => ?_) (fun h1 => ?_)
  · skip
    exfalso; omega
  · skip
    refine v_iload_n (pc := 4) rfl dJ3_checkIndex_8e157_4 ?_
    refine v_iload_n (pc := 5) rfl dJ3_checkIndex_8e157_5 ?_
    refine v_icmp_lt (pc := 6) (tgt := 16) (by omega) dJ3_checkIndex_8e157_6 (by decide) (fun h2 => ?_) (fun h2 => ?_)
    · skip
      refine v_iload_n (pc := 16) rfl dJ3_checkIndex_8e157_16 ?_
      exact v_iret (pc := 17) E (⟨rfl, rfl⟩) (Nat.le_of_ble_eq_true rfl) (Nat.le_of_ble_eq_true rfl) dJ3_checkIndex_8e157_17
    · skip
      exfalso; omega
set_option maxHeartbeats 4000000 in
set_option maxRecDepth 100000 in
theorem c_J0_checkIndex_df160 {g : GT} {G : Mem} {i n : Int} (h_i : 0 ≤ i ∧ i < n) (h_n : n < 2147483648) : Ctr g yJ0_checkIndex_df160 cJ0_checkIndex_df160 2 (none : Option FieldType) (rmL 1 0 0) [vI i, vI n] G (VM G) NoX := by
  refine ctr_of [some (vI i), some (vI n)] (by decide) (Nat.le_of_ble_eq_true rfl) rfl (fun γ E => ?_)
  show V γ g cJ0_checkIndex_df160 2 RJ0 (rmL 1 0 0) G 0 0 0 [some (vI i), some (vI n)] []
  refine v_iload_n (pc := 0) rfl dJ0_checkIndex_df160_0 ?_
  refine v_iload_n (pc := 1) rfl dJ0_checkIndex_df160_1 ?_
  refine v_si (pc := 2) dJ0_checkIndex_df160_2 ?_ (fun t => ?_)
  · skip
    refine v_callS (pc := 5) (rest := []) (c_J3_checkIndex_n h_i h_n) sok_J3_checkIndex_8e157 wM_J0_1059 (rmOk (by decide) (by decide)) ⟨Nat.le_of_ble_eq_true rfl, Nat.le_of_ble_eq_true rfl⟩ (Nat.le_of_ble_eq_true rfl) rfl dJ0_checkIndex_df160_5 (fun v G' hq => ?_) (fun _ _ h => h.elim)
    obtain ⟨rfl, hG9⟩ := hq
    rw [hG9]
    refine v_stk (st' := [vI i]) rfl ?_
    refine v_pop (pc := 8) rfl dJ0_checkIndex_df160_8 ?_
    exact v_vret (pc := 9) E (⟨rfl, rfl⟩) (Nat.le_of_ble_eq_true rfl) (Nat.le_of_ble_eq_true rfl) dJ0_checkIndex_df160_9
  · skip
    refine v_callS (pc := 5) (rest := []) (c_J3_checkIndex_r h_i h_n) sok_J3_checkIndex_8e157 wM_J0_1059 (rmOk (by decide) (by decide)) ⟨Nat.le_of_ble_eq_true rfl, Nat.le_of_ble_eq_true rfl⟩ (Nat.le_of_ble_eq_true rfl) rfl dJ0_checkIndex_df160_5 (fun v G' hq => ?_) (fun _ _ h => h.elim)
    obtain ⟨rfl, hG9⟩ := hq
    rw [hG9]
    refine v_stk (st' := [vI i]) rfl ?_
    refine v_pop (pc := 8) rfl dJ0_checkIndex_df160_8 ?_
    exact v_vret (pc := 9) E (⟨rfl, rfl⟩) (Nat.le_of_ble_eq_true rfl) (Nat.le_of_ble_eq_true rfl) dJ0_checkIndex_df160_9
set_option maxHeartbeats 4000000 in
set_option maxRecDepth 100000 in
theorem c_J1_charAt_3b067 {g : GT} {G : Mem} {k : Nat} (hk : k < 7) {z : Int} (h_z : 0 ≤ z ∧ z < wlK k) : Ctr g yJ1_charAt_3b067 cJ1_charAt_3b067 2 (some FieldType.char) (rmL 2 0 0) [.ref (gV g k), vI z] G (RM (wcK k z) G) NoX := by
  refine ctr_of [some (.ref (gV g k)), some (vI z)] (by decide) (Nat.le_of_ble_eq_true rfl) rfl (fun γ E => ?_)
  show V γ g cJ1_charAt_3b067 2 RJ1 (rmL 2 0 0) G 0 0 0 [some (.ref (gV g k)), some (vI z)] []
  have hw := wcK_r hk h_z
  have hl := wlK_r k hk
  refine v_iload_n (pc := 0) rfl dJ1_charAt_3b067_0 ?_
  refine v_aload_n (pc := 1) rfl dJ1_charAt_3b067_1 ?_
  refine v_lenV (pc := 2) hk dJ1_charAt_3b067_2 ?_
  refine v_callS (pc := 3) (rest := []) (c_J0_checkIndex_df160 h_z (by omega)) sok_J0_checkIndex_df160 wM_J1_9 (rmOk (by decide) (by decide)) ⟨Nat.le_of_ble_eq_true rfl, Nat.le_of_ble_eq_true rfl⟩ (Nat.le_of_ble_eq_true rfl) rfl dJ1_charAt_3b067_3 (fun v G' hq => ?_) (fun _ _ h => h.elim)
  obtain ⟨rfl, hG9⟩ := hq
  rw [hG9]
  refine v_stk (st' := []) rfl ?_
  refine v_aload_n (pc := 6) rfl dJ1_charAt_3b067_6 ?_
  refine v_iload_n (pc := 7) rfl dJ1_charAt_3b067_7 ?_
  refine v_baldV (pc := 8) hk h_z dJ1_charAt_3b067_8 ?_
  refine v_sipush (pc := 9) (z := 255) rfl dJ1_charAt_3b067_9 ?_
  refine v_iand255 (pc := 12) (by omega) dJ1_charAt_3b067_12 ?_
  refine v_i2c (pc := 13) dJ1_charAt_3b067_13 ?_
  refine v_top (b := wcK k z) (by omega) ?_
  exact v_cret (pc := 14) E (by omega) (⟨rfl, rfl⟩) (Nat.le_of_ble_eq_true rfl) (Nat.le_of_ble_eq_true rfl) dJ1_charAt_3b067_14
set_option maxHeartbeats 4000000 in
set_option maxRecDepth 100000 in
theorem c_J0_charAt_5068e {g : GT} {G : Mem} {k : Nat} (hk : k < 7) {z : Int} (h_z : 0 ≤ z ∧ z < wlK k) : Ctr g yJ0_charAt_5068e cJ0_charAt_5068e 2 (some FieldType.char) (rmL 3 0 0) [.ref (gK g k), vI z] G (RM (wcK k z) G) NoX := by
  refine ctr_of [some (.ref (gK g k)), some (vI z)] (by decide) (Nat.le_of_ble_eq_true rfl) rfl (fun γ E => ?_)
  show V γ g cJ0_charAt_5068e 2 RJ0 (rmL 3 0 0) G 0 0 0 [some (.ref (gK g k)), some (vI z)] []
  have hw := wcK_r hk h_z
  refine v_aload_n (pc := 0) rfl dJ0_charAt_5068e_0 ?_
  refine v_callK (pc := 1) (rest := []) hk (c_J0_isLatin1_aae02 hk) iok_J0_isLatin1_aae02 wM_J0_492 rfl (rmOk (by decide) (by decide)) ⟨Nat.le_of_ble_eq_true rfl, Nat.le_of_ble_eq_true rfl⟩ (Nat.le_of_ble_eq_true rfl) rfl dJ0_charAt_5068e_1 (fun v G' hq => ?_) (fun _ _ h => h.elim)
  obtain ⟨rfl, hG9⟩ := hq
  rw [hG9]
  refine v_stk (st' := [vI 1]) rfl ?_
  refine v_if_eq (pc := 4) (tgt := 16) (by omega) dJ0_charAt_5068e_4 (by decide) (fun h1 => absurd h1 (by decide)) (fun _ => ?_)
  refine v_aload_n (pc := 7) rfl dJ0_charAt_5068e_7 ?_
  refine v_gvK (pc := 8) hk dJ0_charAt_5068e_8 ?_
  refine v_iload_n (pc := 11) rfl dJ0_charAt_5068e_11 ?_
  refine v_callS (pc := 12) (rest := []) (c_J1_charAt_3b067 hk h_z) sok_J1_charAt_3b067 wM_J0_495 (rmOk (by decide) (by decide)) ⟨Nat.le_of_ble_eq_true rfl, Nat.le_of_ble_eq_true rfl⟩ (Nat.le_of_ble_eq_true rfl) rfl dJ0_charAt_5068e_12 (fun v G' hq => ?_) (fun _ _ h => h.elim)
  obtain ⟨rfl, hG9⟩ := hq
  rw [hG9]
  refine v_stk (st' := [vI (wcK k z)]) rfl ?_
  exact v_cret (pc := 15) E (by omega) (⟨rfl, rfl⟩) (Nat.le_of_ble_eq_true rfl) (Nat.le_of_ble_eq_true rfl) dJ0_charAt_5068e_15
