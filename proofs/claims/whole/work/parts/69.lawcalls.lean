-- the law's own methods: an exception is caught, its number answered
/-- an int is one of its range -/
theorem int_norm {v : Option Value} (h : ∃ z : Int, v = some (vI z)) : ∃ r : Int, (-2147483648 ≤ r ∧ r < 2147483648) ∧ v = some (vI r) := by
  obtain ⟨z, rfl⟩ := h
  refine ⟨(Int32.ofInt z).toInt, ⟨Int32.le_toInt _, Int32.toInt_lt _⟩, ?_⟩
  show some (Value.int (Int32.ofInt z)) = some (Value.int (Int32.ofInt (Int32.ofInt z).toInt))
  rw [Int32.ofInt_toInt]
def LQ (Q : Option Value → Mem → Prop) (X : String → Mem → Prop) (cl : List String) : Option Value → Mem → Prop := fun v G' => (v = some (vI 0) ∧ ∃ r G1, (-2147483648 ≤ r ∧ r < 2147483648) ∧ Q (some (vI r)) G1 ∧ G' = upd2 G1 119 0 r) ∨ ∃ (i : Nat) (E : String), cl[i]? = some E ∧ X E G' ∧ v = some (vI ((i : Int) + 1))
def LQD (Q : Option Value → Mem → Prop) (X : String → Mem → Prop) (cl : List String) : Option Value → Mem → Prop := fun v G' => (v = some (vI 0) ∧ ∃ (x : UInt64) (G1 : Mem), Q (some (.double x)) G1 ∧ G' = upd2 G1 120 0 (x.toNat : Int)) ∨ ∃ (i : Nat) (E : String), cl[i]? = some E ∧ X E G' ∧ v = some (vI ((i : Int) + 1))
def LQF (Q : Option Value → Mem → Prop) (X : String → Mem → Prop) (cl : List String) : Option Value → Mem → Prop := fun v G' => (v = some (vI 0) ∧ ∃ (x : UInt32) (G1 : Mem), Q (some (.float x)) G1 ∧ G' = upd2 G1 120 0 ((FP.f2d x).toNat : Int)) ∨ ∃ (i : Nat) (E : String), cl[i]? = some E ∧ X E G' ∧ v = some (vI ((i : Int) + 1))
section VCATCH
variable {γ : gT} {g : GT} {cc : ByteArray} {nL : Nat} {own : String} {rm : Room} {G : Mem} {k n : Nat} {pc : Nat} {L : List (Option Value)} {st : List Value} {rt : Option FieldType} {tb : List ExceptionTableEntry} {Qp : Option Value → Mem → Prop} {Xp : String → Mem → Prop} {E name : String}
theorem v_catch {pre suf : List ExceptionTableEntry} {x : ExceptionTableEntry} (Q : EndQ γ g rm rt tb Qp Xp) (hs : tb = pre ++ x :: suf) (hpass : ∀ z ∈ pre, z.catchType ≠ 0 ∧ ∃ nm : String, Cond.classLink own z.catchType nm ∈ WT ∧ (E, nm) ∈ NC) (hx : covers x pc = true) (h0 : x.catchType ≠ 0) (hl : Cond.classLink own x.catchType name ∈ WT) (hc : Cond.castable E name ∈ NT)
    (kk : ∀ q : Nat, V γ g cc nL own rm G k n x.handlerPc L [.ref q]) : VX γ g cc nL own rm G k n pc L st E := by
  obtain ⟨p, l, e, R, s, m, args, below, meth, c, Q0⟩ := γ
  obtain ⟨-, -, ht⟩ := Q
  intro C H locs ls q ce hP hS hL hcell hv hcl
  have hG : Gc g s s.heap := C.2.2.2.2.2.2.1
  exact vx_catch C.2.2.2.1 pre x suf (ht.trans hs) (fun z hz => by
    obtain ⟨h1, nm, h2, h3⟩ := hpass z hz
    exact Or.inr ⟨h1, nm, C.2.2.2.2.1 _ h2, hG.2.2.2.2.1.2.2.2.2.2.2.2.1 (E, nm) h3⟩) hx h0 (C.2.2.2.2.1 _ hl) (va_Nw.use (nt_tab hc) (hG.2.1 _ hc)) hcell hv hcl (kk q C H locs ls hP hS hL)
end VCATCH

theorem fcl_0 {G G' : Mem} {f s : Int} {e : String} (h : ChX G 0 f s e G') : e = eIA ∨ e = eIS ∨ e = eUO := by
  obtain ⟨-, r, h, hr, rfl⟩ := h
  unfold FltV at h
  rw [if_pos rfl] at h
  unfold FltDie at h
  have h9 : r = 2 ∨ r = 3 ∨ r = 4 := by rcases h with ⟨-, q⟩ | ⟨-, ⟨-, q⟩ | ⟨-, ⟨-, q⟩ | ⟨-, q⟩⟩⟩ <;> omega
  rcases h9 with rfl | rfl | rfl
  · exact Or.inl rfl
  · exact Or.inr (Or.inl rfl)
  · exact Or.inr (Or.inr (rfl))
theorem fcl_1 {G G' : Mem} {f s : Int} {e : String} (h : ChX G 1 f s e G') : e = eIB ∨ e = eIS := by
  obtain ⟨-, r, h, hr, rfl⟩ := h
  unfold FltV at h
  rw [if_neg (by decide), if_pos rfl] at h
  unfold FltSh at h
  have h9 : r = 1 ∨ r = 3 := by rcases h with ⟨-, q⟩ | ⟨-, ⟨-, q⟩ | ⟨-, q⟩⟩ <;> omega
  rcases h9 with rfl | rfl
  · exact Or.inl rfl
  · exact Or.inr (rfl)
theorem fcl_2 {G G' : Mem} {f s : Int} {e : String} (h : ChX G 2 f s e G') : e = eIA ∨ e = eIS := by
  obtain ⟨-, r, h, hr, rfl⟩ := h
  unfold FltV at h
  rw [if_neg (by decide), if_neg (by decide), if_pos rfl] at h
  unfold FltLf at h
  have h9 : r = 2 ∨ r = 3 := by rcases h with ⟨-, q⟩ | ⟨-, ⟨-, q⟩ | ⟨-, q⟩⟩ <;> omega
  rcases h9 with rfl | rfl
  · exact Or.inl rfl
  · exact Or.inr (rfl)
theorem fcl_3 {G G' : Mem} {f s : Int} {e : String} (h : ChX G 3 f s e G') : e = eIB ∨ e = eIA ∨ e = eIS ∨ e = eUO := by
  obtain ⟨-, r, h, hr, rfl⟩ := h
  unfold FltV at h
  rw [if_neg (by decide), if_neg (by decide), if_neg (by decide), if_pos rfl] at h
  unfold FltSt at h
  have h9 : r = 1 ∨ r = 2 ∨ r = 3 ∨ r = 4 := by rcases h with ⟨-, q⟩ | ⟨-, ⟨-, q⟩ | ⟨-, ⟨-, q⟩ | ⟨-, ⟨-, q⟩ | ⟨-, q⟩⟩⟩⟩ <;> omega
  rcases h9 with rfl | rfl | rfl | rfl
  · exact Or.inl rfl
  · exact Or.inr (Or.inl rfl)
  · exact Or.inr (Or.inr (Or.inl rfl))
  · exact Or.inr (Or.inr (Or.inr (rfl)))
theorem fcl_4 {G G' : Mem} {f s : Int} {e : String} (h : ChX G 4 f s e G') : e = eIA := by
  obtain ⟨-, r, h, hr, rfl⟩ := h
  unfold FltV at h
  rw [if_neg (by decide), if_neg (by decide), if_neg (by decide), if_neg (by decide), if_pos rfl] at h
  unfold FltYr at h
  have h9 : r = 2 := by rcases h with ⟨-, q⟩ | ⟨-, q⟩ <;> omega
  subst h9
  exact rfl
theorem fcl_5 {G G' : Mem} {f s : Int} {e : String} (h : ChX G 5 f s e G') : e = eIA ∨ e = eNE := by
  obtain ⟨-, r, h, hr, rfl⟩ := h
  unfold FltV at h
  rw [if_neg (by decide), if_neg (by decide), if_neg (by decide), if_neg (by decide), if_neg (by decide), if_pos rfl] at h
  unfold FltMl at h
  have h9 : r = 2 ∨ r = 5 := by rcases h with ⟨-, q⟩ | ⟨-, ⟨-, q⟩ | ⟨-, q⟩⟩ <;> omega
  rcases h9 with rfl | rfl
  · exact Or.inl rfl
  · exact Or.inr (rfl)
theorem fcl_6 {G G' : Mem} {f s : Int} {e : String} (h : ChX G 6 f s e G') : e = eIA ∨ e = eUO := by
  obtain ⟨-, r, h, hr, rfl⟩ := h
  unfold FltV at h
  rw [if_neg (by decide), if_neg (by decide), if_neg (by decide), if_neg (by decide), if_neg (by decide), if_neg (by decide)] at h
  unfold FltPay at h
  have h9 : r = 2 ∨ r = 4 := by rcases h with ⟨-, q⟩ | ⟨-, ⟨-, q⟩ | ⟨-, q⟩⟩ <;> omega
  rcases h9 with rfl | rfl
  · exact Or.inl rfl
  · exact Or.inr (rfl)
theorem bool_norm {r : Int} {p : Prop} (hr : -2147483648 ≤ r ∧ r < 2147483648) (h : some (vI r) = some (vI (bI p))) : r = 0 ∨ r = 1 := by
  have h1 : Int32.ofInt r = Int32.ofInt (bI p) := by
    have := Option.some.inj h
    exact Value.int.inj this
  have h2 := congrArg Int32.toInt h1
  rw [i32_to hr.1 hr.2, i32_to (by have := bI_rng p; omega) (by have := bI_rng p; omega)] at h2
  rw [h2]
  exact bI_rng p
theorem gsx {G : Mem} {c : Int} (x : UInt32) {Q : Prop} (hc : 0 ≤ G 4 5 ∧ G 4 5 ≤ 40) (hq : some (Value.float x) = some (Value.float (gsF (cntE (G 4 5) (G 11) (c - 65)) (G 4 5))) ∧ Q ∧ (65 ≤ c ∧ c ≤ 67) ∧ G 4 5 ≠ 0) : vf_n64 (FP.f2d x) := by
  have e : x = gsF (cntE (G 4 5) (G 11) (c - 65)) (G 4 5) := by
    have := Option.some.inj hq.1
    exact Value.float.inj this
  have hk : 0 ≤ cntE (G 4 5) (G 11) (c - 65) ∧ cntE (G 4 5) (G 11) (c - 65) ≤ G 4 5 := sz_cnt (n := G 4 5) (p := fun k => G 11 k = c - 65) (fun k => Int.instDecidableEq _ _) hc.1
  rw [e]
  exact (gsF_ok (by omega) (by omega)).2.1
set_option maxHeartbeats 4000000 in
set_option maxRecDepth 100000 in
theorem c_L_addDie {g : GT} {G : Mem} (hI : StI G 4) (hp : PastI G) (hlv : 0 ≤ G 4 9 ∧ G 4 9 ≤ 100000) (hyy : G 4 10 + 20 ≤ 1000000) {f s : Int} (h_f : -2147483648 ≤ f ∧ f < 2147483648) (h_s : -2147483648 ≤ s ∧ s < 2147483648) : CtrH g yL_addDie cL_addDie 5 (some FieldType.int) [(0, 10, 13, 13), (0, 10, 17, 15), (0, 10, 21, 17)] (rmL 7 1 6) [vR g 0, vI f, vI s, vR g 119] G (LQ (ChQ G 0 f s) (ChX G 0 f s) [eIA, eIS, eUO]) NoX := by
  refine ctrH_of [some (vR g 0), some (vI f), some (vI s), some (vR g 119), none] (by decide) (Nat.le_of_ble_eq_true rfl) rfl (fun γ E => ?_)
  show V γ g cL_addDie 5 RL (rmL 7 1 6) G 0 0 0 [some (vR g 0), some (vI f), some (vI s), some (vR g 119), none] []
  refine v_aload_n (pc := 0) rfl dL_addDie_0 ?_
  refine v_iconst (pc := 1) (z := 0) dL_addDie_1 ?_
  refine v_aload_n (pc := 2) rfl dL_addDie_2 ?_
  refine v_iload_n (pc := 3) rfl dL_addDie_3 ?_
  refine v_iload_n (pc := 4) rfl dL_addDie_4 ?_
  refine v_callV (pc := 5) (rest := [vI 0, vR g 119]) (c_X3_addDie hI hp h_f h_s hlv hyy) iok_X3_addDie wM_L_7 rfl (by decide) (by decide) rfl (rmOk (by decide) (by decide)) ⟨Nat.le_of_ble_eq_true rfl, Nat.le_of_ble_eq_true rfl⟩ (Nat.le_of_ble_eq_true rfl) rfl dL_addDie_5 (fun v G1 hq => ?_) (fun e G1 hx => ?_)
  · skip
    obtain ⟨r, hr, rfl⟩ := int_norm (by obtain ⟨-, G9, G8, r9, -, -, -, h9⟩ := hq; exact ⟨_, h9⟩)
    refine v_stk (st' := [vI r, vI 0, vR g 119]) rfl ?_
    refine v_i2l (pc := 8) (by omega) dL_addDie_8 ?_
    refine v_last (pc := 9) (N := 1) rfl rfl (by decide) (by omega) (by decide) dL_addDie_9 ?_
    refine v_goto (pc := 10) (tgt := 25) dL_addDie_10 (by decide) ?_
    refine v_iconst (pc := 25) (z := 0) dL_addDie_25 ?_
    exact v_iret (pc := 26) E (Or.inl ⟨rfl, r, G1, hr, hq, rfl⟩) (Nat.le_of_ble_eq_true rfl) (Nat.le_of_ble_eq_true rfl) dL_addDie_26
  · skip
    have hE : e = eIA ∨ e = eIS ∨ e = eUO := fcl_0 hx
    rcases hE with rfl | rfl | rfl
    · skip
      refine v_catch (name := "java/lang/IllegalArgumentException") (pre := []) (x := { startPc := 0, endPc := 10, handlerPc := 13, catchType := 13 }) (suf := [{ startPc := 0, endPc := 10, handlerPc := 17, catchType := 15 }, { startPc := 0, endPc := 10, handlerPc := 21, catchType := 17 }]) E rfl (fun z hz => by cases hz) (by decide) (by decide) wK_L_13 wX_IllegalArgumentException_IllegalArgumentException (fun q9 => ?_)
      show V γ g cL_addDie 5 RL (rmL 7 1 6) G1 (0 + 1) (0 + 6) 13 [some (vR g 0), some (vI f), some (vI s), some (vR g 119), none] [.ref q9]
      refine v_astore (pc := 13) (by decide) rfl dL_addDie_13 ?_
      refine v_iconst (pc := 15) (z := 1) dL_addDie_15 ?_
      exact v_iret (pc := 16) E (Or.inr ⟨0, eIA, rfl, hx, rfl⟩) (Nat.le_of_ble_eq_true rfl) (Nat.le_of_ble_eq_true rfl) dL_addDie_16
    · skip
      refine v_catch (name := "java/lang/IllegalStateException") (pre := [{ startPc := 0, endPc := 10, handlerPc := 13, catchType := 13 }]) (x := { startPc := 0, endPc := 10, handlerPc := 17, catchType := 15 }) (suf := [{ startPc := 0, endPc := 10, handlerPc := 21, catchType := 17 }]) E rfl (fun z hz => by rcases List.mem_cons.mp hz with rfl | hz; exact ⟨by decide, "java/lang/IllegalArgumentException", wK_L_13, by decide +kernel⟩; cases hz) (by decide) (by decide) wK_L_15 wX_IllegalStateException_IllegalStateException (fun q9 => ?_)
      show V γ g cL_addDie 5 RL (rmL 7 1 6) G1 (0 + 1) (0 + 6) 17 [some (vR g 0), some (vI f), some (vI s), some (vR g 119), none] [.ref q9]
      refine v_astore (pc := 17) (by decide) rfl dL_addDie_17 ?_
      refine v_iconst (pc := 19) (z := 2) dL_addDie_19 ?_
      exact v_iret (pc := 20) E (Or.inr ⟨1, eIS, rfl, hx, rfl⟩) (Nat.le_of_ble_eq_true rfl) (Nat.le_of_ble_eq_true rfl) dL_addDie_20
    · skip
      refine v_catch (name := "java/lang/UnsupportedOperationException") (pre := [{ startPc := 0, endPc := 10, handlerPc := 13, catchType := 13 }, { startPc := 0, endPc := 10, handlerPc := 17, catchType := 15 }]) (x := { startPc := 0, endPc := 10, handlerPc := 21, catchType := 17 }) (suf := []) E rfl (fun z hz => by rcases List.mem_cons.mp hz with rfl | hz; exact ⟨by decide, "java/lang/IllegalArgumentException", wK_L_13, by decide +kernel⟩; rcases List.mem_cons.mp hz with rfl | hz; exact ⟨by decide, "java/lang/IllegalStateException", wK_L_15, by decide +kernel⟩; cases hz) (by decide) (by decide) wK_L_17 wX_UnsupportedOperationException_UnsupportedOperationException (fun q9 => ?_)
      show V γ g cL_addDie 5 RL (rmL 7 1 6) G1 (0 + 1) (0 + 6) 21 [some (vR g 0), some (vI f), some (vI s), some (vR g 119), none] [.ref q9]
      refine v_astore (pc := 21) (by decide) rfl dL_addDie_21 ?_
      refine v_iconst (pc := 23) (z := 3) dL_addDie_23 ?_
      exact v_iret (pc := 24) E (Or.inr ⟨2, eUO, rfl, hx, rfl⟩) (Nat.le_of_ble_eq_true rfl) (Nat.le_of_ble_eq_true rfl) dL_addDie_24
set_option maxHeartbeats 4000000 in
set_option maxRecDepth 100000 in
theorem c_L_sharpen {g : GT} {G : Mem} (hI : StI G 4) (hp : PastI G) (hlv : 0 ≤ G 4 9 ∧ G 4 9 ≤ 100000) (hyy : G 4 10 + 20 ≤ 1000000) {f : Int} (h_f : -2147483648 ≤ f ∧ f < 2147483648) : CtrH g yL_sharpen cL_sharpen 4 (some FieldType.int) [(0, 9, 12, 23), (0, 9, 15, 15)] (rmL 7 1 6) [vR g 0, vI f, vR g 119] G (LQ (ChQ G 1 f 0) (ChX G 1 f 0) [eIB, eIS]) NoX := by
  refine ctrH_of [some (vR g 0), some (vI f), some (vR g 119), none] (by decide) (Nat.le_of_ble_eq_true rfl) rfl (fun γ E => ?_)
  show V γ g cL_sharpen 4 RL (rmL 7 1 6) G 0 0 0 [some (vR g 0), some (vI f), some (vR g 119), none] []
  refine v_aload_n (pc := 0) rfl dL_sharpen_0 ?_
  refine v_iconst (pc := 1) (z := 0) dL_sharpen_1 ?_
  refine v_aload_n (pc := 2) rfl dL_sharpen_2 ?_
  refine v_iload_n (pc := 3) rfl dL_sharpen_3 ?_
  refine v_callV (pc := 4) (rest := [vI 0, vR g 119]) (c_X3_sharpen hI hp h_f hlv hyy) iok_X3_sharpen wM_L_19 rfl (by decide) (by decide) rfl (rmOk (by decide) (by decide)) ⟨Nat.le_of_ble_eq_true rfl, Nat.le_of_ble_eq_true rfl⟩ (Nat.le_of_ble_eq_true rfl) rfl dL_sharpen_4 (fun v G1 hq => ?_) (fun e G1 hx => ?_)
  · skip
    obtain ⟨r, hr, rfl⟩ := int_norm (by obtain ⟨-, G9, G8, r9, -, -, -, h9⟩ := hq; exact ⟨_, h9⟩)
    refine v_stk (st' := [vI r, vI 0, vR g 119]) rfl ?_
    refine v_i2l (pc := 7) (by omega) dL_sharpen_7 ?_
    refine v_last (pc := 8) (N := 1) rfl rfl (by decide) (by omega) (by decide) dL_sharpen_8 ?_
    refine v_goto (pc := 9) (tgt := 18) dL_sharpen_9 (by decide) ?_
    refine v_iconst (pc := 18) (z := 0) dL_sharpen_18 ?_
    exact v_iret (pc := 19) E (Or.inl ⟨rfl, r, G1, hr, hq, rfl⟩) (Nat.le_of_ble_eq_true rfl) (Nat.le_of_ble_eq_true rfl) dL_sharpen_19
  · skip
    have hE : e = eIB ∨ e = eIS := fcl_1 hx
    rcases hE with rfl | rfl
    · skip
      refine v_catch (name := "java/lang/IndexOutOfBoundsException") (pre := []) (x := { startPc := 0, endPc := 9, handlerPc := 12, catchType := 23 }) (suf := [{ startPc := 0, endPc := 9, handlerPc := 15, catchType := 15 }]) E rfl (fun z hz => by cases hz) (by decide) (by decide) wK_L_23 wX_IndexOutOfBoundsException_IndexOutOfBoundsException (fun q9 => ?_)
      show V γ g cL_sharpen 4 RL (rmL 7 1 6) G1 (0 + 1) (0 + 6) 12 [some (vR g 0), some (vI f), some (vR g 119), none] [.ref q9]
      refine v_astore_n (pc := 12) (by decide) rfl dL_sharpen_12 ?_
      refine v_iconst (pc := 13) (z := 1) dL_sharpen_13 ?_
      exact v_iret (pc := 14) E (Or.inr ⟨0, eIB, rfl, hx, rfl⟩) (Nat.le_of_ble_eq_true rfl) (Nat.le_of_ble_eq_true rfl) dL_sharpen_14
    · skip
      refine v_catch (name := "java/lang/IllegalStateException") (pre := [{ startPc := 0, endPc := 9, handlerPc := 12, catchType := 23 }]) (x := { startPc := 0, endPc := 9, handlerPc := 15, catchType := 15 }) (suf := []) E rfl (fun z hz => by rcases List.mem_cons.mp hz with rfl | hz; exact ⟨by decide, "java/lang/IndexOutOfBoundsException", wK_L_23, by decide +kernel⟩; cases hz) (by decide) (by decide) wK_L_15 wX_IllegalStateException_IllegalStateException (fun q9 => ?_)
      show V γ g cL_sharpen 4 RL (rmL 7 1 6) G1 (0 + 1) (0 + 6) 15 [some (vR g 0), some (vI f), some (vR g 119), none] [.ref q9]
      refine v_astore_n (pc := 15) (by decide) rfl dL_sharpen_15 ?_
      refine v_iconst (pc := 16) (z := 2) dL_sharpen_16 ?_
      exact v_iret (pc := 17) E (Or.inr ⟨1, eIS, rfl, hx, rfl⟩) (Nat.le_of_ble_eq_true rfl) (Nat.le_of_ble_eq_true rfl) dL_sharpen_17
set_option maxHeartbeats 4000000 in
set_option maxRecDepth 100000 in
theorem c_L_addLeaves {g : GT} {G : Mem} (hI : StI G 4) (hp : PastI G) (hlv : 0 ≤ G 4 9 ∧ G 4 9 ≤ 100000) (hyy : G 4 10 + 20 ≤ 1000000) {f : Int} (h_f : -2147483648 ≤ f ∧ f < 2147483648) : CtrH g yL_addLeaves cL_addLeaves 4 (some FieldType.int) [(0, 9, 12, 13), (0, 9, 15, 15)] (rmL 7 1 6) [vR g 0, vI f, vR g 119] G (LQ (ChQ G 2 f 0) (ChX G 2 f 0) [eIA, eIS]) NoX := by
  refine ctrH_of [some (vR g 0), some (vI f), some (vR g 119), none] (by decide) (Nat.le_of_ble_eq_true rfl) rfl (fun γ E => ?_)
  show V γ g cL_addLeaves 4 RL (rmL 7 1 6) G 0 0 0 [some (vR g 0), some (vI f), some (vR g 119), none] []
  refine v_aload_n (pc := 0) rfl dL_addLeaves_0 ?_
  refine v_iconst (pc := 1) (z := 0) dL_addLeaves_1 ?_
  refine v_aload_n (pc := 2) rfl dL_addLeaves_2 ?_
  refine v_iload_n (pc := 3) rfl dL_addLeaves_3 ?_
  refine v_callV (pc := 4) (rest := [vI 0, vR g 119]) (c_X3_addLeaves hI hp h_f hlv hyy) iok_X3_addLeaves wM_L_25 rfl (by decide) (by decide) rfl (rmOk (by decide) (by decide)) ⟨Nat.le_of_ble_eq_true rfl, Nat.le_of_ble_eq_true rfl⟩ (Nat.le_of_ble_eq_true rfl) rfl dL_addLeaves_4 (fun v G1 hq => ?_) (fun e G1 hx => ?_)
  · skip
    obtain ⟨r, hr, rfl⟩ := int_norm (by obtain ⟨-, G9, G8, r9, -, -, -, h9⟩ := hq; exact ⟨_, h9⟩)
    refine v_stk (st' := [vI r, vI 0, vR g 119]) rfl ?_
    refine v_i2l (pc := 7) (by omega) dL_addLeaves_7 ?_
    refine v_last (pc := 8) (N := 1) rfl rfl (by decide) (by omega) (by decide) dL_addLeaves_8 ?_
    refine v_goto (pc := 9) (tgt := 18) dL_addLeaves_9 (by decide) ?_
    refine v_iconst (pc := 18) (z := 0) dL_addLeaves_18 ?_
    exact v_iret (pc := 19) E (Or.inl ⟨rfl, r, G1, hr, hq, rfl⟩) (Nat.le_of_ble_eq_true rfl) (Nat.le_of_ble_eq_true rfl) dL_addLeaves_19
  · skip
    have hE : e = eIA ∨ e = eIS := fcl_2 hx
    rcases hE with rfl | rfl
    · skip
      refine v_catch (name := "java/lang/IllegalArgumentException") (pre := []) (x := { startPc := 0, endPc := 9, handlerPc := 12, catchType := 13 }) (suf := [{ startPc := 0, endPc := 9, handlerPc := 15, catchType := 15 }]) E rfl (fun z hz => by cases hz) (by decide) (by decide) wK_L_13 wX_IllegalArgumentException_IllegalArgumentException (fun q9 => ?_)
      show V γ g cL_addLeaves 4 RL (rmL 7 1 6) G1 (0 + 1) (0 + 6) 12 [some (vR g 0), some (vI f), some (vR g 119), none] [.ref q9]
      refine v_astore_n (pc := 12) (by decide) rfl dL_addLeaves_12 ?_
      refine v_iconst (pc := 13) (z := 1) dL_addLeaves_13 ?_
      exact v_iret (pc := 14) E (Or.inr ⟨0, eIA, rfl, hx, rfl⟩) (Nat.le_of_ble_eq_true rfl) (Nat.le_of_ble_eq_true rfl) dL_addLeaves_14
    · skip
      refine v_catch (name := "java/lang/IllegalStateException") (pre := [{ startPc := 0, endPc := 9, handlerPc := 12, catchType := 13 }]) (x := { startPc := 0, endPc := 9, handlerPc := 15, catchType := 15 }) (suf := []) E rfl (fun z hz => by rcases List.mem_cons.mp hz with rfl | hz; exact ⟨by decide, "java/lang/IllegalArgumentException", wK_L_13, by decide +kernel⟩; cases hz) (by decide) (by decide) wK_L_15 wX_IllegalStateException_IllegalStateException (fun q9 => ?_)
      show V γ g cL_addLeaves 4 RL (rmL 7 1 6) G1 (0 + 1) (0 + 6) 15 [some (vR g 0), some (vI f), some (vR g 119), none] [.ref q9]
      refine v_astore_n (pc := 15) (by decide) rfl dL_addLeaves_15 ?_
      refine v_iconst (pc := 16) (z := 2) dL_addLeaves_16 ?_
      exact v_iret (pc := 17) E (Or.inr ⟨1, eIS, rfl, hx, rfl⟩) (Nat.le_of_ble_eq_true rfl) (Nat.le_of_ble_eq_true rfl) dL_addLeaves_17
set_option maxHeartbeats 4000000 in
set_option maxRecDepth 100000 in
theorem c_L_strike {g : GT} {G : Mem} (hI : StI G 4) (hp : PastI G) (hlv : 0 ≤ G 4 9 ∧ G 4 9 ≤ 100000) (hyy : G 4 10 + 20 ≤ 1000000) {f s : Int} (h_f : -2147483648 ≤ f ∧ f < 2147483648) (h_s : -2147483648 ≤ s ∧ s < 2147483648) : CtrH g yL_strike cL_strike 5 (some FieldType.int) [(0, 10, 13, 23), (0, 10, 17, 13), (0, 10, 21, 15), (0, 10, 25, 17)] (rmL 7 1 6) [vR g 0, vI f, vI s, vR g 119] G (LQ (ChQ G 3 f s) (ChX G 3 f s) [eIB, eIA, eIS, eUO]) NoX := by
  refine ctrH_of [some (vR g 0), some (vI f), some (vI s), some (vR g 119), none] (by decide) (Nat.le_of_ble_eq_true rfl) rfl (fun γ E => ?_)
  show V γ g cL_strike 5 RL (rmL 7 1 6) G 0 0 0 [some (vR g 0), some (vI f), some (vI s), some (vR g 119), none] []
  refine v_aload_n (pc := 0) rfl dL_strike_0 ?_
  refine v_iconst (pc := 1) (z := 0) dL_strike_1 ?_
  refine v_aload_n (pc := 2) rfl dL_strike_2 ?_
  refine v_iload_n (pc := 3) rfl dL_strike_3 ?_
  refine v_iload_n (pc := 4) rfl dL_strike_4 ?_
  refine v_callV (pc := 5) (rest := [vI 0, vR g 119]) (c_X3_strike hI hp h_f h_s hlv hyy) iok_X3_strike wM_L_28 rfl (by decide) (by decide) rfl (rmOk (by decide) (by decide)) ⟨Nat.le_of_ble_eq_true rfl, Nat.le_of_ble_eq_true rfl⟩ (Nat.le_of_ble_eq_true rfl) rfl dL_strike_5 (fun v G1 hq => ?_) (fun e G1 hx => ?_)
  · skip
    obtain ⟨r, hr, rfl⟩ := int_norm (by obtain ⟨-, G9, G8, r9, -, -, -, h9⟩ := hq; exact ⟨_, h9⟩)
    refine v_stk (st' := [vI r, vI 0, vR g 119]) rfl ?_
    refine v_i2l (pc := 8) (by omega) dL_strike_8 ?_
    refine v_last (pc := 9) (N := 1) rfl rfl (by decide) (by omega) (by decide) dL_strike_9 ?_
    refine v_goto (pc := 10) (tgt := 29) dL_strike_10 (by decide) ?_
    refine v_iconst (pc := 29) (z := 0) dL_strike_29 ?_
    exact v_iret (pc := 30) E (Or.inl ⟨rfl, r, G1, hr, hq, rfl⟩) (Nat.le_of_ble_eq_true rfl) (Nat.le_of_ble_eq_true rfl) dL_strike_30
  · skip
    have hE : e = eIB ∨ e = eIA ∨ e = eIS ∨ e = eUO := fcl_3 hx
    rcases hE with rfl | rfl | rfl | rfl
    · skip
      refine v_catch (name := "java/lang/IndexOutOfBoundsException") (pre := []) (x := { startPc := 0, endPc := 10, handlerPc := 13, catchType := 23 }) (suf := [{ startPc := 0, endPc := 10, handlerPc := 17, catchType := 13 }, { startPc := 0, endPc := 10, handlerPc := 21, catchType := 15 }, { startPc := 0, endPc := 10, handlerPc := 25, catchType := 17 }]) E rfl (fun z hz => by cases hz) (by decide) (by decide) wK_L_23 wX_IndexOutOfBoundsException_IndexOutOfBoundsException (fun q9 => ?_)
      show V γ g cL_strike 5 RL (rmL 7 1 6) G1 (0 + 1) (0 + 6) 13 [some (vR g 0), some (vI f), some (vI s), some (vR g 119), none] [.ref q9]
      refine v_astore (pc := 13) (by decide) rfl dL_strike_13 ?_
      refine v_iconst (pc := 15) (z := 1) dL_strike_15 ?_
      exact v_iret (pc := 16) E (Or.inr ⟨0, eIB, rfl, hx, rfl⟩) (Nat.le_of_ble_eq_true rfl) (Nat.le_of_ble_eq_true rfl) dL_strike_16
    · skip
      refine v_catch (name := "java/lang/IllegalArgumentException") (pre := [{ startPc := 0, endPc := 10, handlerPc := 13, catchType := 23 }]) (x := { startPc := 0, endPc := 10, handlerPc := 17, catchType := 13 }) (suf := [{ startPc := 0, endPc := 10, handlerPc := 21, catchType := 15 }, { startPc := 0, endPc := 10, handlerPc := 25, catchType := 17 }]) E rfl (fun z hz => by rcases List.mem_cons.mp hz with rfl | hz; exact ⟨by decide, "java/lang/IndexOutOfBoundsException", wK_L_23, by decide +kernel⟩; cases hz) (by decide) (by decide) wK_L_13 wX_IllegalArgumentException_IllegalArgumentException (fun q9 => ?_)
      show V γ g cL_strike 5 RL (rmL 7 1 6) G1 (0 + 1) (0 + 6) 17 [some (vR g 0), some (vI f), some (vI s), some (vR g 119), none] [.ref q9]
      refine v_astore (pc := 17) (by decide) rfl dL_strike_17 ?_
      refine v_iconst (pc := 19) (z := 2) dL_strike_19 ?_
      exact v_iret (pc := 20) E (Or.inr ⟨1, eIA, rfl, hx, rfl⟩) (Nat.le_of_ble_eq_true rfl) (Nat.le_of_ble_eq_true rfl) dL_strike_20
    · skip
      refine v_catch (name := "java/lang/IllegalStateException") (pre := [{ startPc := 0, endPc := 10, handlerPc := 13, catchType := 23 }, { startPc := 0, endPc := 10, handlerPc := 17, catchType := 13 }]) (x := { startPc := 0, endPc := 10, handlerPc := 21, catchType := 15 }) (suf := [{ startPc := 0, endPc := 10, handlerPc := 25, catchType := 17 }]) E rfl (fun z hz => by rcases List.mem_cons.mp hz with rfl | hz; exact ⟨by decide, "java/lang/IndexOutOfBoundsException", wK_L_23, by decide +kernel⟩; rcases List.mem_cons.mp hz with rfl | hz; exact ⟨by decide, "java/lang/IllegalArgumentException", wK_L_13, by decide +kernel⟩; cases hz) (by decide) (by decide) wK_L_15 wX_IllegalStateException_IllegalStateException (fun q9 => ?_)
      show V γ g cL_strike 5 RL (rmL 7 1 6) G1 (0 + 1) (0 + 6) 21 [some (vR g 0), some (vI f), some (vI s), some (vR g 119), none] [.ref q9]
      refine v_astore (pc := 21) (by decide) rfl dL_strike_21 ?_
      refine v_iconst (pc := 23) (z := 3) dL_strike_23 ?_
      exact v_iret (pc := 24) E (Or.inr ⟨2, eIS, rfl, hx, rfl⟩) (Nat.le_of_ble_eq_true rfl) (Nat.le_of_ble_eq_true rfl) dL_strike_24
    · skip
      refine v_catch (name := "java/lang/UnsupportedOperationException") (pre := [{ startPc := 0, endPc := 10, handlerPc := 13, catchType := 23 }, { startPc := 0, endPc := 10, handlerPc := 17, catchType := 13 }, { startPc := 0, endPc := 10, handlerPc := 21, catchType := 15 }]) (x := { startPc := 0, endPc := 10, handlerPc := 25, catchType := 17 }) (suf := []) E rfl (fun z hz => by rcases List.mem_cons.mp hz with rfl | hz; exact ⟨by decide, "java/lang/IndexOutOfBoundsException", wK_L_23, by decide +kernel⟩; rcases List.mem_cons.mp hz with rfl | hz; exact ⟨by decide, "java/lang/IllegalArgumentException", wK_L_13, by decide +kernel⟩; rcases List.mem_cons.mp hz with rfl | hz; exact ⟨by decide, "java/lang/IllegalStateException", wK_L_15, by decide +kernel⟩; cases hz) (by decide) (by decide) wK_L_17 wX_UnsupportedOperationException_UnsupportedOperationException (fun q9 => ?_)
      show V γ g cL_strike 5 RL (rmL 7 1 6) G1 (0 + 1) (0 + 6) 25 [some (vR g 0), some (vI f), some (vI s), some (vR g 119), none] [.ref q9]
      refine v_astore (pc := 25) (by decide) rfl dL_strike_25 ?_
      refine v_iconst (pc := 27) (z := 4) dL_strike_27 ?_
      exact v_iret (pc := 28) E (Or.inr ⟨3, eUO, rfl, hx, rfl⟩) (Nat.le_of_ble_eq_true rfl) (Nat.le_of_ble_eq_true rfl) dL_strike_28
set_option maxHeartbeats 4000000 in
set_option maxRecDepth 100000 in
theorem c_L_passYears {g : GT} {G : Mem} (hI : StI G 4) (hp : PastI G) (hlv : 0 ≤ G 4 9 ∧ G 4 9 ≤ 100000) (hyy : G 4 10 + 20 ≤ 1000000) {f : Int} (h_f : -2147483648 ≤ f ∧ f < 2147483648) : CtrH g yL_passYears cL_passYears 4 (some FieldType.int) [(0, 9, 12, 13)] (rmL 7 1 6) [vR g 0, vI f, vR g 119] G (LQ (ChQ G 4 f 0) (ChX G 4 f 0) [eIA]) NoX := by
  refine ctrH_of [some (vR g 0), some (vI f), some (vR g 119), none] (by decide) (Nat.le_of_ble_eq_true rfl) rfl (fun γ E => ?_)
  show V γ g cL_passYears 4 RL (rmL 7 1 6) G 0 0 0 [some (vR g 0), some (vI f), some (vR g 119), none] []
  refine v_aload_n (pc := 0) rfl dL_passYears_0 ?_
  refine v_iconst (pc := 1) (z := 0) dL_passYears_1 ?_
  refine v_aload_n (pc := 2) rfl dL_passYears_2 ?_
  refine v_iload_n (pc := 3) rfl dL_passYears_3 ?_
  refine v_callV (pc := 4) (rest := [vI 0, vR g 119]) (c_X3_passYears hI hp h_f hlv hyy) iok_X3_passYears wM_L_31 rfl (by decide) (by decide) rfl (rmOk (by decide) (by decide)) ⟨Nat.le_of_ble_eq_true rfl, Nat.le_of_ble_eq_true rfl⟩ (Nat.le_of_ble_eq_true rfl) rfl dL_passYears_4 (fun v G1 hq => ?_) (fun e G1 hx => ?_)
  · skip
    obtain ⟨r, hr, rfl⟩ := int_norm (by obtain ⟨-, G9, G8, r9, -, -, -, h9⟩ := hq; exact ⟨_, h9⟩)
    refine v_stk (st' := [vI r, vI 0, vR g 119]) rfl ?_
    refine v_i2l (pc := 7) (by omega) dL_passYears_7 ?_
    refine v_last (pc := 8) (N := 1) rfl rfl (by decide) (by omega) (by decide) dL_passYears_8 ?_
    refine v_goto (pc := 9) (tgt := 15) dL_passYears_9 (by decide) ?_
    refine v_iconst (pc := 15) (z := 0) dL_passYears_15 ?_
    exact v_iret (pc := 16) E (Or.inl ⟨rfl, r, G1, hr, hq, rfl⟩) (Nat.le_of_ble_eq_true rfl) (Nat.le_of_ble_eq_true rfl) dL_passYears_16
  · skip
    have hE : e = eIA := fcl_4 hx
    rcases hE with rfl
    · skip
      refine v_catch (name := "java/lang/IllegalArgumentException") (pre := []) (x := { startPc := 0, endPc := 9, handlerPc := 12, catchType := 13 }) (suf := []) E rfl (fun z hz => by cases hz) (by decide) (by decide) wK_L_13 wX_IllegalArgumentException_IllegalArgumentException (fun q9 => ?_)
      show V γ g cL_passYears 4 RL (rmL 7 1 6) G1 (0 + 1) (0 + 6) 12 [some (vR g 0), some (vI f), some (vR g 119), none] [.ref q9]
      refine v_astore_n (pc := 12) (by decide) rfl dL_passYears_12 ?_
      refine v_iconst (pc := 13) (z := 1) dL_passYears_13 ?_
      exact v_iret (pc := 14) E (Or.inr ⟨0, eIA, rfl, hx, rfl⟩) (Nat.le_of_ble_eq_true rfl) (Nat.le_of_ble_eq_true rfl) dL_passYears_14
set_option maxHeartbeats 4000000 in
set_option maxRecDepth 100000 in
theorem c_L_recall {g : GT} {G : Mem} (hI : StI G 4) (hp : PastI G) (hlv : 0 ≤ G 4 9 ∧ G 4 9 ≤ 100000) (hyy : G 4 10 + 20 ≤ 1000000) {f : Int} (h_f : -2147483648 ≤ f ∧ f < 2147483648) : CtrH g yL_recall cL_recall 4 (some FieldType.int) [(0, 9, 12, 13), (0, 9, 15, 37)] (rmL 7 1 6) [vR g 0, vI f, vR g 119] G (LQ (ChQ G 5 f 0) (ChX G 5 f 0) [eIA, eNE]) NoX := by
  refine ctrH_of [some (vR g 0), some (vI f), some (vR g 119), none] (by decide) (Nat.le_of_ble_eq_true rfl) rfl (fun γ E => ?_)
  show V γ g cL_recall 4 RL (rmL 7 1 6) G 0 0 0 [some (vR g 0), some (vI f), some (vR g 119), none] []
  refine v_aload_n (pc := 0) rfl dL_recall_0 ?_
  refine v_iconst (pc := 1) (z := 0) dL_recall_1 ?_
  refine v_aload_n (pc := 2) rfl dL_recall_2 ?_
  refine v_iload_n (pc := 3) rfl dL_recall_3 ?_
  refine v_callV (pc := 4) (rest := [vI 0, vR g 119]) (c_X3_recall hI hp h_f hlv hyy) iok_X3_recall wM_L_34 rfl (by decide) (by decide) rfl (rmOk (by decide) (by decide)) ⟨Nat.le_of_ble_eq_true rfl, Nat.le_of_ble_eq_true rfl⟩ (Nat.le_of_ble_eq_true rfl) rfl dL_recall_4 (fun v G1 hq => ?_) (fun e G1 hx => ?_)
  · skip
    obtain ⟨r, hr, rfl⟩ := int_norm (by obtain ⟨-, G9, G8, r9, -, -, -, h9⟩ := hq; exact ⟨_, h9⟩)
    refine v_stk (st' := [vI r, vI 0, vR g 119]) rfl ?_
    refine v_i2l (pc := 7) (by omega) dL_recall_7 ?_
    refine v_last (pc := 8) (N := 1) rfl rfl (by decide) (by omega) (by decide) dL_recall_8 ?_
    refine v_goto (pc := 9) (tgt := 18) dL_recall_9 (by decide) ?_
    refine v_iconst (pc := 18) (z := 0) dL_recall_18 ?_
    exact v_iret (pc := 19) E (Or.inl ⟨rfl, r, G1, hr, hq, rfl⟩) (Nat.le_of_ble_eq_true rfl) (Nat.le_of_ble_eq_true rfl) dL_recall_19
  · skip
    have hE : e = eIA ∨ e = eNE := fcl_5 hx
    rcases hE with rfl | rfl
    · skip
      refine v_catch (name := "java/lang/IllegalArgumentException") (pre := []) (x := { startPc := 0, endPc := 9, handlerPc := 12, catchType := 13 }) (suf := [{ startPc := 0, endPc := 9, handlerPc := 15, catchType := 37 }]) E rfl (fun z hz => by cases hz) (by decide) (by decide) wK_L_13 wX_IllegalArgumentException_IllegalArgumentException (fun q9 => ?_)
      show V γ g cL_recall 4 RL (rmL 7 1 6) G1 (0 + 1) (0 + 6) 12 [some (vR g 0), some (vI f), some (vR g 119), none] [.ref q9]
      refine v_astore_n (pc := 12) (by decide) rfl dL_recall_12 ?_
      refine v_iconst (pc := 13) (z := 1) dL_recall_13 ?_
      exact v_iret (pc := 14) E (Or.inr ⟨0, eIA, rfl, hx, rfl⟩) (Nat.le_of_ble_eq_true rfl) (Nat.le_of_ble_eq_true rfl) dL_recall_14
    · skip
      refine v_catch (name := "java/util/NoSuchElementException") (pre := [{ startPc := 0, endPc := 9, handlerPc := 12, catchType := 13 }]) (x := { startPc := 0, endPc := 9, handlerPc := 15, catchType := 37 }) (suf := []) E rfl (fun z hz => by rcases List.mem_cons.mp hz with rfl | hz; exact ⟨by decide, "java/lang/IllegalArgumentException", wK_L_13, by decide +kernel⟩; cases hz) (by decide) (by decide) wK_L_37 wX_NoSuchElementException_NoSuchElementException (fun q9 => ?_)
      show V γ g cL_recall 4 RL (rmL 7 1 6) G1 (0 + 1) (0 + 6) 15 [some (vR g 0), some (vI f), some (vR g 119), none] [.ref q9]
      refine v_astore_n (pc := 15) (by decide) rfl dL_recall_15 ?_
      refine v_iconst (pc := 16) (z := 2) dL_recall_16 ?_
      exact v_iret (pc := 17) E (Or.inr ⟨1, eNE, rfl, hx, rfl⟩) (Nat.le_of_ble_eq_true rfl) (Nat.le_of_ble_eq_true rfl) dL_recall_17
set_option maxHeartbeats 4000000 in
set_option maxRecDepth 100000 in
theorem c_L_pay {g : GT} {G : Mem} (hI : StI G 4) (hp : PastI G) (hlv : 0 ≤ G 4 9 ∧ G 4 9 ≤ 100000) (hyy : G 4 10 + 20 ≤ 1000000) {f : Int} (h_f : -2147483648 ≤ f ∧ f < 2147483648) : CtrH g yL_pay cL_pay 4 (some FieldType.int) [(0, 9, 12, 13), (0, 9, 15, 17)] (rmL 7 1 6) [vR g 0, vI f, vR g 119] G (LQ (ChQ G 6 f 0) (ChX G 6 f 0) [eIA, eUO]) NoX := by
  refine ctrH_of [some (vR g 0), some (vI f), some (vR g 119), none] (by decide) (Nat.le_of_ble_eq_true rfl) rfl (fun γ E => ?_)
  show V γ g cL_pay 4 RL (rmL 7 1 6) G 0 0 0 [some (vR g 0), some (vI f), some (vR g 119), none] []
  refine v_aload_n (pc := 0) rfl dL_pay_0 ?_
  refine v_iconst (pc := 1) (z := 0) dL_pay_1 ?_
  refine v_aload_n (pc := 2) rfl dL_pay_2 ?_
  refine v_iload_n (pc := 3) rfl dL_pay_3 ?_
  refine v_callV (pc := 4) (rest := [vI 0, vR g 119]) (c_X3_pay hI hp h_f hlv hyy) iok_X3_pay wM_L_39 rfl (by decide) (by decide) rfl (rmOk (by decide) (by decide)) ⟨Nat.le_of_ble_eq_true rfl, Nat.le_of_ble_eq_true rfl⟩ (Nat.le_of_ble_eq_true rfl) rfl dL_pay_4 (fun v G1 hq => ?_) (fun e G1 hx => ?_)
  · skip
    obtain ⟨r, hr, rfl⟩ := int_norm (by obtain ⟨-, G9, G8, r9, -, -, -, h9⟩ := hq; exact ⟨_, h9⟩)
    refine v_stk (st' := [vI r, vI 0, vR g 119]) rfl ?_
    refine v_i2l (pc := 7) (by omega) dL_pay_7 ?_
    refine v_last (pc := 8) (N := 1) rfl rfl (by decide) (by omega) (by decide) dL_pay_8 ?_
    refine v_goto (pc := 9) (tgt := 18) dL_pay_9 (by decide) ?_
    refine v_iconst (pc := 18) (z := 0) dL_pay_18 ?_
    exact v_iret (pc := 19) E (Or.inl ⟨rfl, r, G1, hr, hq, rfl⟩) (Nat.le_of_ble_eq_true rfl) (Nat.le_of_ble_eq_true rfl) dL_pay_19
  · skip
    have hE : e = eIA ∨ e = eUO := fcl_6 hx
    rcases hE with rfl | rfl
    · skip
      refine v_catch (name := "java/lang/IllegalArgumentException") (pre := []) (x := { startPc := 0, endPc := 9, handlerPc := 12, catchType := 13 }) (suf := [{ startPc := 0, endPc := 9, handlerPc := 15, catchType := 17 }]) E rfl (fun z hz => by cases hz) (by decide) (by decide) wK_L_13 wX_IllegalArgumentException_IllegalArgumentException (fun q9 => ?_)
      show V γ g cL_pay 4 RL (rmL 7 1 6) G1 (0 + 1) (0 + 6) 12 [some (vR g 0), some (vI f), some (vR g 119), none] [.ref q9]
      refine v_astore_n (pc := 12) (by decide) rfl dL_pay_12 ?_
      refine v_iconst (pc := 13) (z := 1) dL_pay_13 ?_
      exact v_iret (pc := 14) E (Or.inr ⟨0, eIA, rfl, hx, rfl⟩) (Nat.le_of_ble_eq_true rfl) (Nat.le_of_ble_eq_true rfl) dL_pay_14
    · skip
      refine v_catch (name := "java/lang/UnsupportedOperationException") (pre := [{ startPc := 0, endPc := 9, handlerPc := 12, catchType := 13 }]) (x := { startPc := 0, endPc := 9, handlerPc := 15, catchType := 17 }) (suf := []) E rfl (fun z hz => by rcases List.mem_cons.mp hz with rfl | hz; exact ⟨by decide, "java/lang/IllegalArgumentException", wK_L_13, by decide +kernel⟩; cases hz) (by decide) (by decide) wK_L_17 wX_UnsupportedOperationException_UnsupportedOperationException (fun q9 => ?_)
      show V γ g cL_pay 4 RL (rmL 7 1 6) G1 (0 + 1) (0 + 6) 15 [some (vR g 0), some (vI f), some (vR g 119), none] [.ref q9]
      refine v_astore_n (pc := 15) (by decide) rfl dL_pay_15 ?_
      refine v_iconst (pc := 16) (z := 2) dL_pay_16 ?_
      exact v_iret (pc := 17) E (Or.inr ⟨1, eUO, rfl, hx, rfl⟩) (Nat.le_of_ble_eq_true rfl) (Nat.le_of_ble_eq_true rfl) dL_pay_17
set_option maxHeartbeats 4000000 in
set_option maxRecDepth 100000 in
theorem c_L_dieValue {g : GT} {G : Mem} (hI : StI G 4) {d : Int} (h_d : -2147483648 ≤ d ∧ d < 2147483648) : CtrH g yL_dieValue cL_dieValue 4 (some FieldType.int) [(0, 9, 12, 23)] (rmL 3 1 6) [vR g 0, vI d, vR g 119] G (LQ (fun v G' => v = some (vI (G 5 d)) ∧ G' = G ∧ 0 ≤ d ∧ d < G 4 0) (fun e G' => e = eIB ∧ G' = G ∧ ¬ (0 ≤ d ∧ d < G 4 0)) [eIB]) NoX := by
  refine ctrH_of [some (vR g 0), some (vI d), some (vR g 119), none] (by decide) (Nat.le_of_ble_eq_true rfl) rfl (fun γ E => ?_)
  show V γ g cL_dieValue 4 RL (rmL 3 1 6) G 0 0 0 [some (vR g 0), some (vI d), some (vR g 119), none] []
  refine v_aload_n (pc := 0) rfl dL_dieValue_0 ?_
  refine v_iconst (pc := 1) (z := 0) dL_dieValue_1 ?_
  refine v_aload_n (pc := 2) rfl dL_dieValue_2 ?_
  refine v_iload_n (pc := 3) rfl dL_dieValue_3 ?_
  refine v_callV (pc := 4) (rest := [vI 0, vR g 119]) (c_X3_dieValue hI h_d) iok_X3_dieValue wM_L_42 rfl (by decide) (by decide) rfl (rmOk (by decide) (by decide)) ⟨Nat.le_of_ble_eq_true rfl, Nat.le_of_ble_eq_true rfl⟩ (Nat.le_of_ble_eq_true rfl) rfl dL_dieValue_4 (fun v G1 hq => ?_) (fun e G1 hx => ?_)
  · skip
    obtain ⟨r, hr, rfl⟩ := int_norm (⟨_, hq.1⟩)
    refine v_stk (st' := [vI r, vI 0, vR g 119]) rfl ?_
    refine v_i2l (pc := 7) (by omega) dL_dieValue_7 ?_
    refine v_last (pc := 8) (N := 1) rfl rfl (by decide) (by omega) (by decide) dL_dieValue_8 ?_
    refine v_goto (pc := 9) (tgt := 15) dL_dieValue_9 (by decide) ?_
    refine v_iconst (pc := 15) (z := 0) dL_dieValue_15 ?_
    exact v_iret (pc := 16) E (Or.inl ⟨rfl, r, G1, hr, hq, rfl⟩) (Nat.le_of_ble_eq_true rfl) (Nat.le_of_ble_eq_true rfl) dL_dieValue_16
  · skip
    have hE : e = eIB := hx.1
    rcases hE with rfl
    · skip
      refine v_catch (name := "java/lang/IndexOutOfBoundsException") (pre := []) (x := { startPc := 0, endPc := 9, handlerPc := 12, catchType := 23 }) (suf := []) E rfl (fun z hz => by cases hz) (by decide) (by decide) wK_L_23 wX_IndexOutOfBoundsException_IndexOutOfBoundsException (fun q9 => ?_)
      show V γ g cL_dieValue 4 RL (rmL 3 1 6) G1 (0 + 1) (0 + 6) 12 [some (vR g 0), some (vI d), some (vR g 119), none] [.ref q9]
      refine v_astore_n (pc := 12) (by decide) rfl dL_dieValue_12 ?_
      refine v_iconst (pc := 13) (z := 1) dL_dieValue_13 ?_
      exact v_iret (pc := 14) E (Or.inr ⟨0, eIB, rfl, hx, rfl⟩) (Nat.le_of_ble_eq_true rfl) (Nat.le_of_ble_eq_true rfl) dL_dieValue_14
set_option maxHeartbeats 4000000 in
set_option maxRecDepth 100000 in
theorem c_L_coinWeight {g : GT} {G : Mem} (hI : StI G 4) {d : Int} (h_d : -2147483648 ≤ d ∧ d < 2147483648) : CtrH g yL_coinWeight cL_coinWeight 4 (some FieldType.int) [(0, 9, 12, 23)] (rmL 3 1 6) [vR g 0, vI d, vR g 119] G (LQ (fun v G' => v = some (vI (G 6 d)) ∧ G' = G ∧ 0 ≤ d ∧ d < G 4 0) (fun e G' => e = eIB ∧ G' = G ∧ ¬ (0 ≤ d ∧ d < G 4 0)) [eIB]) NoX := by
  refine ctrH_of [some (vR g 0), some (vI d), some (vR g 119), none] (by decide) (Nat.le_of_ble_eq_true rfl) rfl (fun γ E => ?_)
  show V γ g cL_coinWeight 4 RL (rmL 3 1 6) G 0 0 0 [some (vR g 0), some (vI d), some (vR g 119), none] []
  refine v_aload_n (pc := 0) rfl dL_coinWeight_0 ?_
  refine v_iconst (pc := 1) (z := 0) dL_coinWeight_1 ?_
  refine v_aload_n (pc := 2) rfl dL_coinWeight_2 ?_
  refine v_iload_n (pc := 3) rfl dL_coinWeight_3 ?_
  refine v_callV (pc := 4) (rest := [vI 0, vR g 119]) (c_X3_coinWeight hI h_d) iok_X3_coinWeight wM_L_45 rfl (by decide) (by decide) rfl (rmOk (by decide) (by decide)) ⟨Nat.le_of_ble_eq_true rfl, Nat.le_of_ble_eq_true rfl⟩ (Nat.le_of_ble_eq_true rfl) rfl dL_coinWeight_4 (fun v G1 hq => ?_) (fun e G1 hx => ?_)
  · skip
    obtain ⟨r, hr, rfl⟩ := int_norm (⟨_, hq.1⟩)
    refine v_stk (st' := [vI r, vI 0, vR g 119]) rfl ?_
    refine v_i2l (pc := 7) (by omega) dL_coinWeight_7 ?_
    refine v_last (pc := 8) (N := 1) rfl rfl (by decide) (by omega) (by decide) dL_coinWeight_8 ?_
    refine v_goto (pc := 9) (tgt := 15) dL_coinWeight_9 (by decide) ?_
    refine v_iconst (pc := 15) (z := 0) dL_coinWeight_15 ?_
    exact v_iret (pc := 16) E (Or.inl ⟨rfl, r, G1, hr, hq, rfl⟩) (Nat.le_of_ble_eq_true rfl) (Nat.le_of_ble_eq_true rfl) dL_coinWeight_16
  · skip
    have hE : e = eIB := hx.1
    rcases hE with rfl
    · skip
      refine v_catch (name := "java/lang/IndexOutOfBoundsException") (pre := []) (x := { startPc := 0, endPc := 9, handlerPc := 12, catchType := 23 }) (suf := []) E rfl (fun z hz => by cases hz) (by decide) (by decide) wK_L_23 wX_IndexOutOfBoundsException_IndexOutOfBoundsException (fun q9 => ?_)
      show V γ g cL_coinWeight 4 RL (rmL 3 1 6) G1 (0 + 1) (0 + 6) 12 [some (vR g 0), some (vI d), some (vR g 119), none] [.ref q9]
      refine v_astore_n (pc := 12) (by decide) rfl dL_coinWeight_12 ?_
      refine v_iconst (pc := 13) (z := 1) dL_coinWeight_13 ?_
      exact v_iret (pc := 14) E (Or.inr ⟨0, eIB, rfl, hx, rfl⟩) (Nat.le_of_ble_eq_true rfl) (Nat.le_of_ble_eq_true rfl) dL_coinWeight_14
set_option maxHeartbeats 4000000 in
set_option maxRecDepth 100000 in
theorem c_L_wear {g : GT} {G : Mem} (hI : StI G 4) {d : Int} (h_d : -2147483648 ≤ d ∧ d < 2147483648) : CtrH g yL_wear cL_wear 4 (some FieldType.int) [(0, 9, 12, 23)] (rmL 3 1 6) [vR g 0, vI d, vR g 119] G (LQ (fun v G' => v = some (vI (G 7 d)) ∧ G' = G ∧ 0 ≤ d ∧ d < G 4 0) (fun e G' => e = eIB ∧ G' = G ∧ ¬ (0 ≤ d ∧ d < G 4 0)) [eIB]) NoX := by
  refine ctrH_of [some (vR g 0), some (vI d), some (vR g 119), none] (by decide) (Nat.le_of_ble_eq_true rfl) rfl (fun γ E => ?_)
  show V γ g cL_wear 4 RL (rmL 3 1 6) G 0 0 0 [some (vR g 0), some (vI d), some (vR g 119), none] []
  refine v_aload_n (pc := 0) rfl dL_wear_0 ?_
  refine v_iconst (pc := 1) (z := 0) dL_wear_1 ?_
  refine v_aload_n (pc := 2) rfl dL_wear_2 ?_
  refine v_iload_n (pc := 3) rfl dL_wear_3 ?_
  refine v_callV (pc := 4) (rest := [vI 0, vR g 119]) (c_X3_wear hI h_d) iok_X3_wear wM_L_48 rfl (by decide) (by decide) rfl (rmOk (by decide) (by decide)) ⟨Nat.le_of_ble_eq_true rfl, Nat.le_of_ble_eq_true rfl⟩ (Nat.le_of_ble_eq_true rfl) rfl dL_wear_4 (fun v G1 hq => ?_) (fun e G1 hx => ?_)
  · skip
    obtain ⟨r, hr, rfl⟩ := int_norm (⟨_, hq.1⟩)
    refine v_stk (st' := [vI r, vI 0, vR g 119]) rfl ?_
    refine v_i2l (pc := 7) (by omega) dL_wear_7 ?_
    refine v_last (pc := 8) (N := 1) rfl rfl (by decide) (by omega) (by decide) dL_wear_8 ?_
    refine v_goto (pc := 9) (tgt := 15) dL_wear_9 (by decide) ?_
    refine v_iconst (pc := 15) (z := 0) dL_wear_15 ?_
    exact v_iret (pc := 16) E (Or.inl ⟨rfl, r, G1, hr, hq, rfl⟩) (Nat.le_of_ble_eq_true rfl) (Nat.le_of_ble_eq_true rfl) dL_wear_16
  · skip
    have hE : e = eIB := hx.1
    rcases hE with rfl
    · skip
      refine v_catch (name := "java/lang/IndexOutOfBoundsException") (pre := []) (x := { startPc := 0, endPc := 9, handlerPc := 12, catchType := 23 }) (suf := []) E rfl (fun z hz => by cases hz) (by decide) (by decide) wK_L_23 wX_IndexOutOfBoundsException_IndexOutOfBoundsException (fun q9 => ?_)
      show V γ g cL_wear 4 RL (rmL 3 1 6) G1 (0 + 1) (0 + 6) 12 [some (vR g 0), some (vI d), some (vR g 119), none] [.ref q9]
      refine v_astore_n (pc := 12) (by decide) rfl dL_wear_12 ?_
      refine v_iconst (pc := 13) (z := 1) dL_wear_13 ?_
      exact v_iret (pc := 14) E (Or.inr ⟨0, eIB, rfl, hx, rfl⟩) (Nat.le_of_ble_eq_true rfl) (Nat.le_of_ble_eq_true rfl) dL_wear_14
set_option maxHeartbeats 4000000 in
set_option maxRecDepth 100000 in
theorem c_L_nextGrade {g : GT} {G : Mem} (hI : StI G 4) {d : Int} (h_d : -2147483648 ≤ d ∧ d < 2147483648) : CtrH g yL_nextGrade cL_nextGrade 4 (some FieldType.int) [(0, 9, 12, 23), (0, 9, 15, 15)] (rmL 3 2 12) [vR g 0, vI d, vR g 119] G (LQ (fun v G' => v = some (vI (65 + gow (G 7 d))) ∧ G' = G ∧ (0 ≤ d ∧ d < G 4 0) ∧ G 7 d < 30) (fun e G' => G' = G ∧ ((e = eIB ∧ ¬ (0 ≤ d ∧ d < G 4 0)) ∨ (e = eIS ∧ (0 ≤ d ∧ d < G 4 0) ∧ 30 ≤ G 7 d))) [eIB, eIS]) NoX := by
  refine ctrH_of [some (vR g 0), some (vI d), some (vR g 119), none] (by decide) (Nat.le_of_ble_eq_true rfl) rfl (fun γ E => ?_)
  show V γ g cL_nextGrade 4 RL (rmL 3 2 12) G 0 0 0 [some (vR g 0), some (vI d), some (vR g 119), none] []
  refine v_aload_n (pc := 0) rfl dL_nextGrade_0 ?_
  refine v_iconst (pc := 1) (z := 0) dL_nextGrade_1 ?_
  refine v_aload_n (pc := 2) rfl dL_nextGrade_2 ?_
  refine v_iload_n (pc := 3) rfl dL_nextGrade_3 ?_
  refine v_callV (pc := 4) (rest := [vI 0, vR g 119]) (c_X3_nextGrade hI h_d) iok_X3_nextGrade wM_L_51 rfl (by decide) (by decide) rfl (rmOk (by decide) (by decide)) ⟨Nat.le_of_ble_eq_true rfl, Nat.le_of_ble_eq_true rfl⟩ (Nat.le_of_ble_eq_true rfl) rfl dL_nextGrade_4 (fun v G1 hq => ?_) (fun e G1 hx => ?_)
  · skip
    obtain ⟨r, hr, rfl⟩ := int_norm (⟨_, hq.1⟩)
    refine v_stk (st' := [vI r, vI 0, vR g 119]) rfl ?_
    refine v_i2l (pc := 7) (by omega) dL_nextGrade_7 ?_
    refine v_last (pc := 8) (N := 1) rfl rfl (by decide) (by omega) (by decide) dL_nextGrade_8 ?_
    refine v_goto (pc := 9) (tgt := 18) dL_nextGrade_9 (by decide) ?_
    refine v_iconst (pc := 18) (z := 0) dL_nextGrade_18 ?_
    exact v_iret (pc := 19) E (Or.inl ⟨rfl, r, G1, hr, hq, rfl⟩) (Nat.le_of_ble_eq_true rfl) (Nat.le_of_ble_eq_true rfl) dL_nextGrade_19
  · skip
    have hE : e = eIB ∨ e = eIS := hx.2.imp And.left And.left
    rcases hE with rfl | rfl
    · skip
      refine v_catch (name := "java/lang/IndexOutOfBoundsException") (pre := []) (x := { startPc := 0, endPc := 9, handlerPc := 12, catchType := 23 }) (suf := [{ startPc := 0, endPc := 9, handlerPc := 15, catchType := 15 }]) E rfl (fun z hz => by cases hz) (by decide) (by decide) wK_L_23 wX_IndexOutOfBoundsException_IndexOutOfBoundsException (fun q9 => ?_)
      show V γ g cL_nextGrade 4 RL (rmL 3 2 12) G1 (0 + 2) (0 + 12) 12 [some (vR g 0), some (vI d), some (vR g 119), none] [.ref q9]
      refine v_astore_n (pc := 12) (by decide) rfl dL_nextGrade_12 ?_
      refine v_iconst (pc := 13) (z := 1) dL_nextGrade_13 ?_
      exact v_iret (pc := 14) E (Or.inr ⟨0, eIB, rfl, hx, rfl⟩) (Nat.le_of_ble_eq_true rfl) (Nat.le_of_ble_eq_true rfl) dL_nextGrade_14
    · skip
      refine v_catch (name := "java/lang/IllegalStateException") (pre := [{ startPc := 0, endPc := 9, handlerPc := 12, catchType := 23 }]) (x := { startPc := 0, endPc := 9, handlerPc := 15, catchType := 15 }) (suf := []) E rfl (fun z hz => by rcases List.mem_cons.mp hz with rfl | hz; exact ⟨by decide, "java/lang/IndexOutOfBoundsException", wK_L_23, by decide +kernel⟩; cases hz) (by decide) (by decide) wK_L_15 wX_IllegalStateException_IllegalStateException (fun q9 => ?_)
      show V γ g cL_nextGrade 4 RL (rmL 3 2 12) G1 (0 + 2) (0 + 12) 15 [some (vR g 0), some (vI d), some (vR g 119), none] [.ref q9]
      refine v_astore_n (pc := 15) (by decide) rfl dL_nextGrade_15 ?_
      refine v_iconst (pc := 16) (z := 2) dL_nextGrade_16 ?_
      exact v_iret (pc := 17) E (Or.inr ⟨1, eIS, rfl, hx, rfl⟩) (Nat.le_of_ble_eq_true rfl) (Nat.le_of_ble_eq_true rfl) dL_nextGrade_17
set_option maxHeartbeats 4000000 in
set_option maxRecDepth 100000 in
theorem c_L_dieByWear {g : GT} {G : Mem} (hI : StI G 4) {x : Int} (h_x : -2147483648 ≤ x ∧ x < 2147483648) : CtrH g yL_dieByWear cL_dieByWear 4 (some FieldType.int) [(0, 9, 12, 37)] (rmL 2 1 6) [vR g 0, vI x, vR g 119] G (LQ (fun v G' => ∃ d, v = some (vI d) ∧ G' = G ∧ (0 ≤ d ∧ d < G 4 0) ∧ ahd (G 4 0) (G 7) (G 5) d = x ∧ ∀ e, 0 ≤ e → e < d → ahd (G 4 0) (G 7) (G 5) e ≠ x) (fun e G' => e = eNE ∧ G' = G ∧ ∀ d, 0 ≤ d → d < G 4 0 → ahd (G 4 0) (G 7) (G 5) d ≠ x) [eNE]) NoX := by
  refine ctrH_of [some (vR g 0), some (vI x), some (vR g 119), none] (by decide) (Nat.le_of_ble_eq_true rfl) rfl (fun γ E => ?_)
  show V γ g cL_dieByWear 4 RL (rmL 2 1 6) G 0 0 0 [some (vR g 0), some (vI x), some (vR g 119), none] []
  refine v_aload_n (pc := 0) rfl dL_dieByWear_0 ?_
  refine v_iconst (pc := 1) (z := 0) dL_dieByWear_1 ?_
  refine v_aload_n (pc := 2) rfl dL_dieByWear_2 ?_
  refine v_iload_n (pc := 3) rfl dL_dieByWear_3 ?_
  refine v_callV (pc := 4) (rest := [vI 0, vR g 119]) (c_X3_dieByWear hI h_x) iok_X3_dieByWear wM_L_55 rfl (by decide) (by decide) rfl (rmOk (by decide) (by decide)) ⟨Nat.le_of_ble_eq_true rfl, Nat.le_of_ble_eq_true rfl⟩ (Nat.le_of_ble_eq_true rfl) rfl dL_dieByWear_4 (fun v G1 hq => ?_) (fun e G1 hx => ?_)
  · skip
    obtain ⟨r, hr, rfl⟩ := int_norm (by obtain ⟨d, h, -⟩ := hq; exact ⟨_, h⟩)
    refine v_stk (st' := [vI r, vI 0, vR g 119]) rfl ?_
    refine v_i2l (pc := 7) (by omega) dL_dieByWear_7 ?_
    refine v_last (pc := 8) (N := 1) rfl rfl (by decide) (by omega) (by decide) dL_dieByWear_8 ?_
    refine v_goto (pc := 9) (tgt := 15) dL_dieByWear_9 (by decide) ?_
    refine v_iconst (pc := 15) (z := 0) dL_dieByWear_15 ?_
    exact v_iret (pc := 16) E (Or.inl ⟨rfl, r, G1, hr, hq, rfl⟩) (Nat.le_of_ble_eq_true rfl) (Nat.le_of_ble_eq_true rfl) dL_dieByWear_16
  · skip
    have hE : e = eNE := hx.1
    rcases hE with rfl
    · skip
      refine v_catch (name := "java/util/NoSuchElementException") (pre := []) (x := { startPc := 0, endPc := 9, handlerPc := 12, catchType := 37 }) (suf := []) E rfl (fun z hz => by cases hz) (by decide) (by decide) wK_L_37 wX_NoSuchElementException_NoSuchElementException (fun q9 => ?_)
      show V γ g cL_dieByWear 4 RL (rmL 2 1 6) G1 (0 + 1) (0 + 6) 12 [some (vR g 0), some (vI x), some (vR g 119), none] [.ref q9]
      refine v_astore_n (pc := 12) (by decide) rfl dL_dieByWear_12 ?_
      refine v_iconst (pc := 13) (z := 1) dL_dieByWear_13 ?_
      exact v_iret (pc := 14) E (Or.inr ⟨0, eNE, rfl, hx, rfl⟩) (Nat.le_of_ble_eq_true rfl) (Nat.le_of_ble_eq_true rfl) dL_dieByWear_14
set_option maxHeartbeats 4000000 in
set_option maxRecDepth 100000 in
theorem c_L_coinsOfValue {g : GT} {G : Mem} (hI : StI G 4) {x : Int} (h_x : -2147483648 ≤ x ∧ x < 2147483648) : CtrH g yL_coinsOfValue cL_coinsOfValue 4 (some FieldType.int) [(0, 9, 12, 37)] (rmL 3 1 6) [vR g 0, vI x, vR g 119] G (LQ (fun v G' => ∃ d, v = some (vI (cntE (G 4 5) (G 9) d)) ∧ G' = G ∧ (0 ≤ d ∧ d < G 4 0) ∧ G 5 d = x) (fun e G' => e = eNE ∧ G' = G ∧ ∀ i, 0 ≤ i → i < G 4 0 → G 5 i ≠ x) [eNE]) NoX := by
  refine ctrH_of [some (vR g 0), some (vI x), some (vR g 119), none] (by decide) (Nat.le_of_ble_eq_true rfl) rfl (fun γ E => ?_)
  show V γ g cL_coinsOfValue 4 RL (rmL 3 1 6) G 0 0 0 [some (vR g 0), some (vI x), some (vR g 119), none] []
  refine v_aload_n (pc := 0) rfl dL_coinsOfValue_0 ?_
  refine v_iconst (pc := 1) (z := 0) dL_coinsOfValue_1 ?_
  refine v_aload_n (pc := 2) rfl dL_coinsOfValue_2 ?_
  refine v_iload_n (pc := 3) rfl dL_coinsOfValue_3 ?_
  refine v_callV (pc := 4) (rest := [vI 0, vR g 119]) (c_X3_coinsOfValue hI h_x) iok_X3_coinsOfValue wM_L_58 rfl (by decide) (by decide) rfl (rmOk (by decide) (by decide)) ⟨Nat.le_of_ble_eq_true rfl, Nat.le_of_ble_eq_true rfl⟩ (Nat.le_of_ble_eq_true rfl) rfl dL_coinsOfValue_4 (fun v G1 hq => ?_) (fun e G1 hx => ?_)
  · skip
    obtain ⟨r, hr, rfl⟩ := int_norm (by obtain ⟨d, h, -⟩ := hq; exact ⟨_, h⟩)
    refine v_stk (st' := [vI r, vI 0, vR g 119]) rfl ?_
    refine v_i2l (pc := 7) (by omega) dL_coinsOfValue_7 ?_
    refine v_last (pc := 8) (N := 1) rfl rfl (by decide) (by omega) (by decide) dL_coinsOfValue_8 ?_
    refine v_goto (pc := 9) (tgt := 15) dL_coinsOfValue_9 (by decide) ?_
    refine v_iconst (pc := 15) (z := 0) dL_coinsOfValue_15 ?_
    exact v_iret (pc := 16) E (Or.inl ⟨rfl, r, G1, hr, hq, rfl⟩) (Nat.le_of_ble_eq_true rfl) (Nat.le_of_ble_eq_true rfl) dL_coinsOfValue_16
  · skip
    have hE : e = eNE := hx.1
    rcases hE with rfl
    · skip
      refine v_catch (name := "java/util/NoSuchElementException") (pre := []) (x := { startPc := 0, endPc := 9, handlerPc := 12, catchType := 37 }) (suf := []) E rfl (fun z hz => by cases hz) (by decide) (by decide) wK_L_37 wX_NoSuchElementException_NoSuchElementException (fun q9 => ?_)
      show V γ g cL_coinsOfValue 4 RL (rmL 3 1 6) G1 (0 + 1) (0 + 6) 12 [some (vR g 0), some (vI x), some (vR g 119), none] [.ref q9]
      refine v_astore_n (pc := 12) (by decide) rfl dL_coinsOfValue_12 ?_
      refine v_iconst (pc := 13) (z := 1) dL_coinsOfValue_13 ?_
      exact v_iret (pc := 14) E (Or.inr ⟨0, eNE, rfl, hx, rfl⟩) (Nat.le_of_ble_eq_true rfl) (Nat.le_of_ble_eq_true rfl) dL_coinsOfValue_14
set_option maxHeartbeats 4000000 in
set_option maxRecDepth 100000 in
theorem c_L_coinsOfGrade {g : GT} {G : Mem} (hI : StI G 4) {c : Int} (h_c : 0 ≤ c ∧ c < 65536) : CtrH g yL_coinsOfGrade cL_coinsOfGrade 4 (some FieldType.int) [(0, 9, 12, 13)] (rmL 2 1 6) [vR g 0, vI c, vR g 119] G (LQ (fun v G' => v = some (vI (cntE (G 4 5) (G 11) (c - 65))) ∧ G' = G ∧ 65 ≤ c ∧ c ≤ 67) (fun e G' => e = eIA ∧ G' = G ∧ ¬ (65 ≤ c ∧ c ≤ 67)) [eIA]) NoX := by
  refine ctrH_of [some (vR g 0), some (vI c), some (vR g 119), none] (by decide) (Nat.le_of_ble_eq_true rfl) rfl (fun γ E => ?_)
  show V γ g cL_coinsOfGrade 4 RL (rmL 2 1 6) G 0 0 0 [some (vR g 0), some (vI c), some (vR g 119), none] []
  refine v_aload_n (pc := 0) rfl dL_coinsOfGrade_0 ?_
  refine v_iconst (pc := 1) (z := 0) dL_coinsOfGrade_1 ?_
  refine v_aload_n (pc := 2) rfl dL_coinsOfGrade_2 ?_
  refine v_iload_n (pc := 3) rfl dL_coinsOfGrade_3 ?_
  refine v_callV (pc := 4) (rest := [vI 0, vR g 119]) (c_X3_coinsOfGrade hI h_c) iok_X3_coinsOfGrade wM_L_61 rfl (by decide) (by decide) rfl (rmOk (by decide) (by decide)) ⟨Nat.le_of_ble_eq_true rfl, Nat.le_of_ble_eq_true rfl⟩ (Nat.le_of_ble_eq_true rfl) rfl dL_coinsOfGrade_4 (fun v G1 hq => ?_) (fun e G1 hx => ?_)
  · skip
    obtain ⟨r, hr, rfl⟩ := int_norm (⟨_, hq.1⟩)
    refine v_stk (st' := [vI r, vI 0, vR g 119]) rfl ?_
    refine v_i2l (pc := 7) (by omega) dL_coinsOfGrade_7 ?_
    refine v_last (pc := 8) (N := 1) rfl rfl (by decide) (by omega) (by decide) dL_coinsOfGrade_8 ?_
    refine v_goto (pc := 9) (tgt := 15) dL_coinsOfGrade_9 (by decide) ?_
    refine v_iconst (pc := 15) (z := 0) dL_coinsOfGrade_15 ?_
    exact v_iret (pc := 16) E (Or.inl ⟨rfl, r, G1, hr, hq, rfl⟩) (Nat.le_of_ble_eq_true rfl) (Nat.le_of_ble_eq_true rfl) dL_coinsOfGrade_16
  · skip
    have hE : e = eIA := hx.1
    rcases hE with rfl
    · skip
      refine v_catch (name := "java/lang/IllegalArgumentException") (pre := []) (x := { startPc := 0, endPc := 9, handlerPc := 12, catchType := 13 }) (suf := []) E rfl (fun z hz => by cases hz) (by decide) (by decide) wK_L_13 wX_IllegalArgumentException_IllegalArgumentException (fun q9 => ?_)
      show V γ g cL_coinsOfGrade 4 RL (rmL 2 1 6) G1 (0 + 1) (0 + 6) 12 [some (vR g 0), some (vI c), some (vR g 119), none] [.ref q9]
      refine v_astore_n (pc := 12) (by decide) rfl dL_coinsOfGrade_12 ?_
      refine v_iconst (pc := 13) (z := 1) dL_coinsOfGrade_13 ?_
      exact v_iret (pc := 14) E (Or.inr ⟨0, eIA, rfl, hx, rfl⟩) (Nat.le_of_ble_eq_true rfl) (Nat.le_of_ble_eq_true rfl) dL_coinsOfGrade_14
set_option maxHeartbeats 4000000 in
set_option maxRecDepth 100000 in
theorem c_L_fewestCoins {g : GT} {G : Mem} (hI : StI G 4) {a : Int} (h_a : -2147483648 ≤ a ∧ a < 2147483648) : CtrH g yL_fewestCoins cL_fewestCoins 4 (some FieldType.int) [(0, 9, 12, 13), (0, 9, 15, 37)] (rmL 3 2 12) [vR g 0, vI a, vR g 119] G (LQ (fun v G' => v = some (vI (Tab (vsR G 4) (cnR G 4) (G 4 0).toNat a)) ∧ (∀ i z, ¬ (94 ≤ i ∧ i ≤ 99) → ¬ (i = 1 ∧ z = 4) → G' i z = G i z) ∧ (1 ≤ a ∧ a ≤ 99) ∧ (Tab (vsR G 4) (cnR G 4) (G 4 0).toNat a) ≠ 1000) (fun e G' => (e = eIA ∧ G' = G ∧ ¬ (1 ≤ a ∧ a ≤ 99)) ∨ (e = eNE ∧ (∀ i z, ¬ (94 ≤ i ∧ i ≤ 99) → ¬ (i = 1 ∧ z = 4) → G' i z = G i z) ∧ (1 ≤ a ∧ a ≤ 99) ∧ (Tab (vsR G 4) (cnR G 4) (G 4 0).toNat a) = 1000)) [eIA, eNE]) NoX := by
  refine ctrH_of [some (vR g 0), some (vI a), some (vR g 119), none] (by decide) (Nat.le_of_ble_eq_true rfl) rfl (fun γ E => ?_)
  show V γ g cL_fewestCoins 4 RL (rmL 3 2 12) G 0 0 0 [some (vR g 0), some (vI a), some (vR g 119), none] []
  refine v_aload_n (pc := 0) rfl dL_fewestCoins_0 ?_
  refine v_iconst (pc := 1) (z := 0) dL_fewestCoins_1 ?_
  refine v_aload_n (pc := 2) rfl dL_fewestCoins_2 ?_
  refine v_iload_n (pc := 3) rfl dL_fewestCoins_3 ?_
  refine v_callV (pc := 4) (rest := [vI 0, vR g 119]) (c_X3_fewestCoins hI h_a) iok_X3_fewestCoins wM_L_69 rfl (by decide) (by decide) rfl (rmOk (by decide) (by decide)) ⟨Nat.le_of_ble_eq_true rfl, Nat.le_of_ble_eq_true rfl⟩ (Nat.le_of_ble_eq_true rfl) rfl dL_fewestCoins_4 (fun v G1 hq => ?_) (fun e G1 hx => ?_)
  · skip
    obtain ⟨r, hr, rfl⟩ := int_norm (⟨_, hq.1⟩)
    refine v_stk (st' := [vI r, vI 0, vR g 119]) rfl ?_
    refine v_i2l (pc := 7) (by omega) dL_fewestCoins_7 ?_
    refine v_last (pc := 8) (N := 1) rfl rfl (by decide) (by omega) (by decide) dL_fewestCoins_8 ?_
    refine v_goto (pc := 9) (tgt := 18) dL_fewestCoins_9 (by decide) ?_
    refine v_iconst (pc := 18) (z := 0) dL_fewestCoins_18 ?_
    exact v_iret (pc := 19) E (Or.inl ⟨rfl, r, G1, hr, hq, rfl⟩) (Nat.le_of_ble_eq_true rfl) (Nat.le_of_ble_eq_true rfl) dL_fewestCoins_19
  · skip
    have hE : e = eIA ∨ e = eNE := hx.imp And.left And.left
    rcases hE with rfl | rfl
    · skip
      refine v_catch (name := "java/lang/IllegalArgumentException") (pre := []) (x := { startPc := 0, endPc := 9, handlerPc := 12, catchType := 13 }) (suf := [{ startPc := 0, endPc := 9, handlerPc := 15, catchType := 37 }]) E rfl (fun z hz => by cases hz) (by decide) (by decide) wK_L_13 wX_IllegalArgumentException_IllegalArgumentException (fun q9 => ?_)
      show V γ g cL_fewestCoins 4 RL (rmL 3 2 12) G1 (0 + 2) (0 + 12) 12 [some (vR g 0), some (vI a), some (vR g 119), none] [.ref q9]
      refine v_astore_n (pc := 12) (by decide) rfl dL_fewestCoins_12 ?_
      refine v_iconst (pc := 13) (z := 1) dL_fewestCoins_13 ?_
      exact v_iret (pc := 14) E (Or.inr ⟨0, eIA, rfl, hx, rfl⟩) (Nat.le_of_ble_eq_true rfl) (Nat.le_of_ble_eq_true rfl) dL_fewestCoins_14
    · skip
      refine v_catch (name := "java/util/NoSuchElementException") (pre := [{ startPc := 0, endPc := 9, handlerPc := 12, catchType := 13 }]) (x := { startPc := 0, endPc := 9, handlerPc := 15, catchType := 37 }) (suf := []) E rfl (fun z hz => by rcases List.mem_cons.mp hz with rfl | hz; exact ⟨by decide, "java/lang/IllegalArgumentException", wK_L_13, by decide +kernel⟩; cases hz) (by decide) (by decide) wK_L_37 wX_NoSuchElementException_NoSuchElementException (fun q9 => ?_)
      show V γ g cL_fewestCoins 4 RL (rmL 3 2 12) G1 (0 + 2) (0 + 12) 15 [some (vR g 0), some (vI a), some (vR g 119), none] [.ref q9]
      refine v_astore_n (pc := 15) (by decide) rfl dL_fewestCoins_15 ?_
      refine v_iconst (pc := 16) (z := 2) dL_fewestCoins_16 ?_
      exact v_iret (pc := 17) E (Or.inr ⟨1, eNE, rfl, hx, rfl⟩) (Nat.le_of_ble_eq_true rfl) (Nat.le_of_ble_eq_true rfl) dL_fewestCoins_17
set_option maxHeartbeats 4000000 in
set_option maxRecDepth 100000 in
theorem c_L_fewestCoinsBySets {g : GT} {G : Mem} (hI : StI G 4) {a : Int} (h_a : -2147483648 ≤ a ∧ a < 2147483648) : CtrH g yL_fewestCoinsBySets cL_fewestCoinsBySets 4 (some FieldType.int) [(0, 9, 12, 13), (0, 9, 15, 37)] (rmL 3 2 12) [vR g 0, vI a, vR g 119] G (LQ (fun v G' => ∃ r, v = some (vI r) ∧ (∀ i z, i ≠ 100 ∧ i ≠ 101 → ¬ (i = 1 ∧ z = 5) → G' i z = G i z) ∧ (1 ≤ a ∧ a ≤ 99) ∧ r ≠ 1000 ∧ SetR (fun k => PS (fun k => G 5 (G 9 k)) (G 4 5).toNat k a) (G 4 5) r) (fun e G' => (e = eIA ∧ G' = G ∧ ¬ (1 ≤ a ∧ a ≤ 99)) ∨ (e = eNE ∧ (∀ i z, i ≠ 100 ∧ i ≠ 101 → ¬ (i = 1 ∧ z = 5) → G' i z = G i z) ∧ (1 ≤ a ∧ a ≤ 99) ∧ SetR (fun k => PS (fun k => G 5 (G 9 k)) (G 4 5).toNat k a) (G 4 5) 1000)) [eIA, eNE]) NoX := by
  refine ctrH_of [some (vR g 0), some (vI a), some (vR g 119), none] (by decide) (Nat.le_of_ble_eq_true rfl) rfl (fun γ E => ?_)
  show V γ g cL_fewestCoinsBySets 4 RL (rmL 3 2 12) G 0 0 0 [some (vR g 0), some (vI a), some (vR g 119), none] []
  refine v_aload_n (pc := 0) rfl dL_fewestCoinsBySets_0 ?_
  refine v_iconst (pc := 1) (z := 0) dL_fewestCoinsBySets_1 ?_
  refine v_aload_n (pc := 2) rfl dL_fewestCoinsBySets_2 ?_
  refine v_iload_n (pc := 3) rfl dL_fewestCoinsBySets_3 ?_
  refine v_callV (pc := 4) (rest := [vI 0, vR g 119]) (c_X3_fewestCoinsBySets hI h_a) iok_X3_fewestCoinsBySets wM_L_72 rfl (by decide) (by decide) rfl (rmOk (by decide) (by decide)) ⟨Nat.le_of_ble_eq_true rfl, Nat.le_of_ble_eq_true rfl⟩ (Nat.le_of_ble_eq_true rfl) rfl dL_fewestCoinsBySets_4 (fun v G1 hq => ?_) (fun e G1 hx => ?_)
  · skip
    obtain ⟨r, hr, rfl⟩ := int_norm (by obtain ⟨d, h, -⟩ := hq; exact ⟨_, h⟩)
    refine v_stk (st' := [vI r, vI 0, vR g 119]) rfl ?_
    refine v_i2l (pc := 7) (by omega) dL_fewestCoinsBySets_7 ?_
    refine v_last (pc := 8) (N := 1) rfl rfl (by decide) (by omega) (by decide) dL_fewestCoinsBySets_8 ?_
    refine v_goto (pc := 9) (tgt := 18) dL_fewestCoinsBySets_9 (by decide) ?_
    refine v_iconst (pc := 18) (z := 0) dL_fewestCoinsBySets_18 ?_
    exact v_iret (pc := 19) E (Or.inl ⟨rfl, r, G1, hr, hq, rfl⟩) (Nat.le_of_ble_eq_true rfl) (Nat.le_of_ble_eq_true rfl) dL_fewestCoinsBySets_19
  · skip
    have hE : e = eIA ∨ e = eNE := hx.imp And.left And.left
    rcases hE with rfl | rfl
    · skip
      refine v_catch (name := "java/lang/IllegalArgumentException") (pre := []) (x := { startPc := 0, endPc := 9, handlerPc := 12, catchType := 13 }) (suf := [{ startPc := 0, endPc := 9, handlerPc := 15, catchType := 37 }]) E rfl (fun z hz => by cases hz) (by decide) (by decide) wK_L_13 wX_IllegalArgumentException_IllegalArgumentException (fun q9 => ?_)
      show V γ g cL_fewestCoinsBySets 4 RL (rmL 3 2 12) G1 (0 + 2) (0 + 12) 12 [some (vR g 0), some (vI a), some (vR g 119), none] [.ref q9]
      refine v_astore_n (pc := 12) (by decide) rfl dL_fewestCoinsBySets_12 ?_
      refine v_iconst (pc := 13) (z := 1) dL_fewestCoinsBySets_13 ?_
      exact v_iret (pc := 14) E (Or.inr ⟨0, eIA, rfl, hx, rfl⟩) (Nat.le_of_ble_eq_true rfl) (Nat.le_of_ble_eq_true rfl) dL_fewestCoinsBySets_14
    · skip
      refine v_catch (name := "java/util/NoSuchElementException") (pre := [{ startPc := 0, endPc := 9, handlerPc := 12, catchType := 13 }]) (x := { startPc := 0, endPc := 9, handlerPc := 15, catchType := 37 }) (suf := []) E rfl (fun z hz => by rcases List.mem_cons.mp hz with rfl | hz; exact ⟨by decide, "java/lang/IllegalArgumentException", wK_L_13, by decide +kernel⟩; cases hz) (by decide) (by decide) wK_L_37 wX_NoSuchElementException_NoSuchElementException (fun q9 => ?_)
      show V γ g cL_fewestCoinsBySets 4 RL (rmL 3 2 12) G1 (0 + 2) (0 + 12) 15 [some (vR g 0), some (vI a), some (vR g 119), none] [.ref q9]
      refine v_astore_n (pc := 15) (by decide) rfl dL_fewestCoinsBySets_15 ?_
      refine v_iconst (pc := 16) (z := 2) dL_fewestCoinsBySets_16 ?_
      exact v_iret (pc := 17) E (Or.inr ⟨1, eNE, rfl, hx, rfl⟩) (Nat.le_of_ble_eq_true rfl) (Nat.le_of_ble_eq_true rfl) dL_fewestCoinsBySets_17
set_option maxHeartbeats 4000000 in
set_option maxRecDepth 100000 in
theorem c_L_greedyCoins {g : GT} {G : Mem} (hI : StI G 4) {a : Int} (h_a : -2147483648 ≤ a ∧ a < 2147483648) : CtrH g yL_greedyCoins cL_greedyCoins 4 (some FieldType.int) [(0, 9, 12, 13), (0, 9, 15, 37)] (rmL 4 2 12) [vR g 0, vI a, vR g 119] G (LQ (fun v G' => ∃ r, v = some (vI r) ∧ r = (if grR (vsR G 4) (cnR G 4) (G 4 0) a (G 4 0).toNat = 0 then sz (G 4 0) (grU (vsR G 4) (cnR G 4) (G 4 0) a) else 1000) ∧ G' = G ∧ (1 ≤ a ∧ a ≤ 99) ∧ r ≠ 1000) (fun e G' => (e = eIA ∧ G' = G ∧ ¬ (1 ≤ a ∧ a ≤ 99)) ∨ (e = eNE ∧ G' = G ∧ (1 ≤ a ∧ a ≤ 99) ∧ (if grR (vsR G 4) (cnR G 4) (G 4 0) a (G 4 0).toNat = 0 then sz (G 4 0) (grU (vsR G 4) (cnR G 4) (G 4 0) a) else 1000) = 1000)) [eIA, eNE]) NoX := by
  refine ctrH_of [some (vR g 0), some (vI a), some (vR g 119), none] (by decide) (Nat.le_of_ble_eq_true rfl) rfl (fun γ E => ?_)
  show V γ g cL_greedyCoins 4 RL (rmL 4 2 12) G 0 0 0 [some (vR g 0), some (vI a), some (vR g 119), none] []
  refine v_aload_n (pc := 0) rfl dL_greedyCoins_0 ?_
  refine v_iconst (pc := 1) (z := 0) dL_greedyCoins_1 ?_
  refine v_aload_n (pc := 2) rfl dL_greedyCoins_2 ?_
  refine v_iload_n (pc := 3) rfl dL_greedyCoins_3 ?_
  refine v_callV (pc := 4) (rest := [vI 0, vR g 119]) (c_X3_greedyCoins hI h_a) iok_X3_greedyCoins wM_L_75 rfl (by decide) (by decide) rfl (rmOk (by decide) (by decide)) ⟨Nat.le_of_ble_eq_true rfl, Nat.le_of_ble_eq_true rfl⟩ (Nat.le_of_ble_eq_true rfl) rfl dL_greedyCoins_4 (fun v G1 hq => ?_) (fun e G1 hx => ?_)
  · skip
    obtain ⟨r, hr, rfl⟩ := int_norm (by obtain ⟨d, h, -⟩ := hq; exact ⟨_, h⟩)
    refine v_stk (st' := [vI r, vI 0, vR g 119]) rfl ?_
    refine v_i2l (pc := 7) (by omega) dL_greedyCoins_7 ?_
    refine v_last (pc := 8) (N := 1) rfl rfl (by decide) (by omega) (by decide) dL_greedyCoins_8 ?_
    refine v_goto (pc := 9) (tgt := 18) dL_greedyCoins_9 (by decide) ?_
    refine v_iconst (pc := 18) (z := 0) dL_greedyCoins_18 ?_
    exact v_iret (pc := 19) E (Or.inl ⟨rfl, r, G1, hr, hq, rfl⟩) (Nat.le_of_ble_eq_true rfl) (Nat.le_of_ble_eq_true rfl) dL_greedyCoins_19
  · skip
    have hE : e = eIA ∨ e = eNE := hx.imp And.left And.left
    rcases hE with rfl | rfl
    · skip
      refine v_catch (name := "java/lang/IllegalArgumentException") (pre := []) (x := { startPc := 0, endPc := 9, handlerPc := 12, catchType := 13 }) (suf := [{ startPc := 0, endPc := 9, handlerPc := 15, catchType := 37 }]) E rfl (fun z hz => by cases hz) (by decide) (by decide) wK_L_13 wX_IllegalArgumentException_IllegalArgumentException (fun q9 => ?_)
      show V γ g cL_greedyCoins 4 RL (rmL 4 2 12) G1 (0 + 2) (0 + 12) 12 [some (vR g 0), some (vI a), some (vR g 119), none] [.ref q9]
      refine v_astore_n (pc := 12) (by decide) rfl dL_greedyCoins_12 ?_
      refine v_iconst (pc := 13) (z := 1) dL_greedyCoins_13 ?_
      exact v_iret (pc := 14) E (Or.inr ⟨0, eIA, rfl, hx, rfl⟩) (Nat.le_of_ble_eq_true rfl) (Nat.le_of_ble_eq_true rfl) dL_greedyCoins_14
    · skip
      refine v_catch (name := "java/util/NoSuchElementException") (pre := [{ startPc := 0, endPc := 9, handlerPc := 12, catchType := 13 }]) (x := { startPc := 0, endPc := 9, handlerPc := 15, catchType := 37 }) (suf := []) E rfl (fun z hz => by rcases List.mem_cons.mp hz with rfl | hz; exact ⟨by decide, "java/lang/IllegalArgumentException", wK_L_13, by decide +kernel⟩; cases hz) (by decide) (by decide) wK_L_37 wX_NoSuchElementException_NoSuchElementException (fun q9 => ?_)
      show V γ g cL_greedyCoins 4 RL (rmL 4 2 12) G1 (0 + 2) (0 + 12) 15 [some (vR g 0), some (vI a), some (vR g 119), none] [.ref q9]
      refine v_astore_n (pc := 15) (by decide) rfl dL_greedyCoins_15 ?_
      refine v_iconst (pc := 16) (z := 2) dL_greedyCoins_16 ?_
      exact v_iret (pc := 17) E (Or.inr ⟨1, eNE, rfl, hx, rfl⟩) (Nat.le_of_ble_eq_true rfl) (Nat.le_of_ble_eq_true rfl) dL_greedyCoins_17
set_option maxHeartbeats 4000000 in
set_option maxRecDepth 100000 in
theorem c_L_coinsUsed {g : GT} {G : Mem} (hI : StI G 4) {a : Int} (h_a : -2147483648 ≤ a ∧ a < 2147483648) {x : Int} (h_x : -2147483648 ≤ x ∧ x < 2147483648) : CtrH g yL_coinsUsed cL_coinsUsed 5 (some FieldType.int) [(0, 10, 13, 13), (0, 10, 17, 37), (0, 10, 21, 17)] (rmL 4 3 18) [vR g 0, vI a, vI x, vR g 119] G (LQ (fun v G' => ∃ d, v = some (vI (G' 92 d)) ∧ (1 ≤ a ∧ a ≤ 99) ∧ (0 ≤ d ∧ d < G 4 0) ∧ G 5 d = x ∧ (Tab (vsR G 4) (cnR G 4) (G 4 0).toNat a) ≠ 1000 ∧ FrP G G' ∧ ∀ s, 0 ≤ s → s < G 4 0 → G' 92 (G 8 s) = usF (vsR G 4) (cnR G 4) (G 4 0) a s) (fun e G' => (e = eIA ∧ G' = G ∧ ¬ (1 ≤ a ∧ a ≤ 99)) ∨ (e = eNE ∧ G' = G ∧ (1 ≤ a ∧ a ≤ 99) ∧ ∀ i, 0 ≤ i → i < G 4 0 → G 5 i ≠ x) ∨ (e = eUO ∧ FrP G G' ∧ (1 ≤ a ∧ a ≤ 99) ∧ (∃ d, (0 ≤ d ∧ d < G 4 0) ∧ G 5 d = x) ∧ (Tab (vsR G 4) (cnR G 4) (G 4 0).toNat a) = 1000)) [eIA, eNE, eUO]) NoX := by
  refine ctrH_of [some (vR g 0), some (vI a), some (vI x), some (vR g 119), none] (by decide) (Nat.le_of_ble_eq_true rfl) rfl (fun γ E => ?_)
  show V γ g cL_coinsUsed 5 RL (rmL 4 3 18) G 0 0 0 [some (vR g 0), some (vI a), some (vI x), some (vR g 119), none] []
  refine v_aload_n (pc := 0) rfl dL_coinsUsed_0 ?_
  refine v_iconst (pc := 1) (z := 0) dL_coinsUsed_1 ?_
  refine v_aload_n (pc := 2) rfl dL_coinsUsed_2 ?_
  refine v_iload_n (pc := 3) rfl dL_coinsUsed_3 ?_
  refine v_iload_n (pc := 4) rfl dL_coinsUsed_4 ?_
  refine v_callV (pc := 5) (rest := [vI 0, vR g 119]) (c_X3_coinsUsed hI h_a h_x) iok_X3_coinsUsed wM_L_78 rfl (by decide) (by decide) rfl (rmOk (by decide) (by decide)) ⟨Nat.le_of_ble_eq_true rfl, Nat.le_of_ble_eq_true rfl⟩ (Nat.le_of_ble_eq_true rfl) rfl dL_coinsUsed_5 (fun v G1 hq => ?_) (fun e G1 hx => ?_)
  · skip
    obtain ⟨r, hr, rfl⟩ := int_norm (by obtain ⟨d, h, -⟩ := hq; exact ⟨_, h⟩)
    refine v_stk (st' := [vI r, vI 0, vR g 119]) rfl ?_
    refine v_i2l (pc := 8) (by omega) dL_coinsUsed_8 ?_
    refine v_last (pc := 9) (N := 1) rfl rfl (by decide) (by omega) (by decide) dL_coinsUsed_9 ?_
    refine v_goto (pc := 10) (tgt := 25) dL_coinsUsed_10 (by decide) ?_
    refine v_iconst (pc := 25) (z := 0) dL_coinsUsed_25 ?_
    exact v_iret (pc := 26) E (Or.inl ⟨rfl, r, G1, hr, hq, rfl⟩) (Nat.le_of_ble_eq_true rfl) (Nat.le_of_ble_eq_true rfl) dL_coinsUsed_26
  · skip
    have hE : e = eIA ∨ e = eNE ∨ e = eUO := hx.imp And.left (Or.imp And.left And.left)
    rcases hE with rfl | rfl | rfl
    · skip
      refine v_catch (name := "java/lang/IllegalArgumentException") (pre := []) (x := { startPc := 0, endPc := 10, handlerPc := 13, catchType := 13 }) (suf := [{ startPc := 0, endPc := 10, handlerPc := 17, catchType := 37 }, { startPc := 0, endPc := 10, handlerPc := 21, catchType := 17 }]) E rfl (fun z hz => by cases hz) (by decide) (by decide) wK_L_13 wX_IllegalArgumentException_IllegalArgumentException (fun q9 => ?_)
      show V γ g cL_coinsUsed 5 RL (rmL 4 3 18) G1 (0 + 3) (0 + 18) 13 [some (vR g 0), some (vI a), some (vI x), some (vR g 119), none] [.ref q9]
      refine v_astore (pc := 13) (by decide) rfl dL_coinsUsed_13 ?_
      refine v_iconst (pc := 15) (z := 1) dL_coinsUsed_15 ?_
      exact v_iret (pc := 16) E (Or.inr ⟨0, eIA, rfl, hx, rfl⟩) (Nat.le_of_ble_eq_true rfl) (Nat.le_of_ble_eq_true rfl) dL_coinsUsed_16
    · skip
      refine v_catch (name := "java/util/NoSuchElementException") (pre := [{ startPc := 0, endPc := 10, handlerPc := 13, catchType := 13 }]) (x := { startPc := 0, endPc := 10, handlerPc := 17, catchType := 37 }) (suf := [{ startPc := 0, endPc := 10, handlerPc := 21, catchType := 17 }]) E rfl (fun z hz => by rcases List.mem_cons.mp hz with rfl | hz; exact ⟨by decide, "java/lang/IllegalArgumentException", wK_L_13, by decide +kernel⟩; cases hz) (by decide) (by decide) wK_L_37 wX_NoSuchElementException_NoSuchElementException (fun q9 => ?_)
      show V γ g cL_coinsUsed 5 RL (rmL 4 3 18) G1 (0 + 3) (0 + 18) 17 [some (vR g 0), some (vI a), some (vI x), some (vR g 119), none] [.ref q9]
      refine v_astore (pc := 17) (by decide) rfl dL_coinsUsed_17 ?_
      refine v_iconst (pc := 19) (z := 2) dL_coinsUsed_19 ?_
      exact v_iret (pc := 20) E (Or.inr ⟨1, eNE, rfl, hx, rfl⟩) (Nat.le_of_ble_eq_true rfl) (Nat.le_of_ble_eq_true rfl) dL_coinsUsed_20
    · skip
      refine v_catch (name := "java/lang/UnsupportedOperationException") (pre := [{ startPc := 0, endPc := 10, handlerPc := 13, catchType := 13 }, { startPc := 0, endPc := 10, handlerPc := 17, catchType := 37 }]) (x := { startPc := 0, endPc := 10, handlerPc := 21, catchType := 17 }) (suf := []) E rfl (fun z hz => by rcases List.mem_cons.mp hz with rfl | hz; exact ⟨by decide, "java/lang/IllegalArgumentException", wK_L_13, by decide +kernel⟩; rcases List.mem_cons.mp hz with rfl | hz; exact ⟨by decide, "java/util/NoSuchElementException", wK_L_37, by decide +kernel⟩; cases hz) (by decide) (by decide) wK_L_17 wX_UnsupportedOperationException_UnsupportedOperationException (fun q9 => ?_)
      show V γ g cL_coinsUsed 5 RL (rmL 4 3 18) G1 (0 + 3) (0 + 18) 21 [some (vR g 0), some (vI a), some (vI x), some (vR g 119), none] [.ref q9]
      refine v_astore (pc := 21) (by decide) rfl dL_coinsUsed_21 ?_
      refine v_iconst (pc := 23) (z := 3) dL_coinsUsed_23 ?_
      exact v_iret (pc := 24) E (Or.inr ⟨2, eUO, rfl, hx, rfl⟩) (Nat.le_of_ble_eq_true rfl) (Nat.le_of_ble_eq_true rfl) dL_coinsUsed_24
set_option maxHeartbeats 4000000 in
set_option maxRecDepth 100000 in
theorem c_L_meanWear {g : GT} {G : Mem} (hI : StI G 4) : CtrH g yL_meanWear cL_meanWear 3 (some FieldType.int) [(0, 7, 10, 85)] (rmL 2 1 6) [vR g 0, vR g 120] G (LQD (fun v G' => v = some (.double (mwD (sz (G 4 0) (G 7)) (G 4 0))) ∧ G' = G ∧ G 4 0 ≠ 0) (fun e G' => e = eAR ∧ G' = G ∧ G 4 0 = 0) [eAR]) NoX := by
  refine ctrH_of [some (vR g 0), some (vR g 120), none] (by decide) (Nat.le_of_ble_eq_true rfl) rfl (fun γ E => ?_)
  show V γ g cL_meanWear 3 RL (rmL 2 1 6) G 0 0 0 [some (vR g 0), some (vR g 120), none] []
  refine v_aload_n (pc := 0) rfl dL_meanWear_0 ?_
  refine v_iconst (pc := 1) (z := 0) dL_meanWear_1 ?_
  refine v_aload_n (pc := 2) rfl dL_meanWear_2 ?_
  refine v_callV (pc := 3) (rest := [vI 0, vR g 120]) (c_X3_meanWear hI) iok_X3_meanWear wM_L_81 rfl (by decide) (by decide) rfl (rmOk (by decide) (by decide)) ⟨Nat.le_of_ble_eq_true rfl, Nat.le_of_ble_eq_true rfl⟩ (Nat.le_of_ble_eq_true rfl) rfl dL_meanWear_3 (fun v G1 hq => ?_) (fun e G1 hx => ?_)
  · skip
    obtain ⟨x, rfl⟩ : ∃ x, v = some (.double x) := ⟨_, hq.1⟩
    refine v_stk (st' := [.double x, vI 0, vR g 120]) rfl ?_
    refine v_dast (pc := 6) (N := 1) rfl rfl (by decide) (by omega) (by decide) dL_meanWear_6 ?_
    refine v_goto (pc := 7) (tgt := 13) dL_meanWear_7 (by decide) ?_
    refine v_iconst (pc := 13) (z := 0) dL_meanWear_13 ?_
    exact v_iret (pc := 14) E (Or.inl ⟨rfl, x, G1, hq, rfl⟩) (Nat.le_of_ble_eq_true rfl) (Nat.le_of_ble_eq_true rfl) dL_meanWear_14
  · skip
    have hE : e = eAR := hx.1
    rcases hE with rfl
    · skip
      refine v_catch (name := "java/lang/ArithmeticException") (pre := []) (x := { startPc := 0, endPc := 7, handlerPc := 10, catchType := 85 }) (suf := []) E rfl (fun z hz => by cases hz) (by decide) (by decide) wK_L_85 wX_ArithmeticException_ArithmeticException (fun q9 => ?_)
      show V γ g cL_meanWear 3 RL (rmL 2 1 6) G1 (0 + 1) (0 + 6) 10 [some (vR g 0), some (vR g 120), none] [.ref q9]
      refine v_astore_n (pc := 10) (by decide) rfl dL_meanWear_10 ?_
      refine v_iconst (pc := 11) (z := 1) dL_meanWear_11 ?_
      exact v_iret (pc := 12) E (Or.inr ⟨0, eAR, rfl, hx, rfl⟩) (Nat.le_of_ble_eq_true rfl) (Nat.le_of_ble_eq_true rfl) dL_meanWear_12
set_option maxHeartbeats 4000000 in
set_option maxRecDepth 100000 in
theorem c_L_renderDie {g : GT} {G : Mem} (hI : StI G 4) {d : Int} (h_d : -2147483648 ≤ d ∧ d < 2147483648) : CtrH g yL_renderDie cL_renderDie 4 (some FieldType.int) [(0, 9, 12, 23)] (rmL 6 9 1622) [vR g 0, vI d, vR g 119] G (LQ (fun v G' => (0 ≤ d ∧ d < G 4 0) ∧ v = some (vI (tnum (tc (tnum (tc (tnum (tc (tnum t0 d) 58) (G 5 d)) 119) (G 6 d)) 47) (G 7 d)).1) ∧ G' = sbG G (tnum (tc (tnum (tc (tnum (tc (tnum t0 d) 58) (G 5 d)) 119) (G 6 d)) 47) (G 7 d))) (fun e G' => e = eIB ∧ G' = G ∧ ¬ (0 ≤ d ∧ d < G 4 0)) [eIB]) NoX := by
  refine ctrH_of [some (vR g 0), some (vI d), some (vR g 119), none] (by decide) (Nat.le_of_ble_eq_true rfl) rfl (fun γ E => ?_)
  show V γ g cL_renderDie 4 RL (rmL 6 9 1622) G 0 0 0 [some (vR g 0), some (vI d), some (vR g 119), none] []
  refine v_aload_n (pc := 0) rfl dL_renderDie_0 ?_
  refine v_iconst (pc := 1) (z := 0) dL_renderDie_1 ?_
  refine v_aload_n (pc := 2) rfl dL_renderDie_2 ?_
  refine v_iload_n (pc := 3) rfl dL_renderDie_3 ?_
  refine v_callV (pc := 4) (rest := [vI 0, vR g 119]) (c_X3_renderDie hI h_d) iok_X3_renderDie wM_L_91 rfl (by decide) (by decide) rfl (rmOk (by decide) (by decide)) ⟨Nat.le_of_ble_eq_true rfl, Nat.le_of_ble_eq_true rfl⟩ (Nat.le_of_ble_eq_true rfl) rfl dL_renderDie_4 (fun v G1 hq => ?_) (fun e G1 hx => ?_)
  · skip
    obtain ⟨r, hr, rfl⟩ := int_norm (⟨_, hq.2.1⟩)
    refine v_stk (st' := [vI r, vI 0, vR g 119]) rfl ?_
    refine v_i2l (pc := 7) (by omega) dL_renderDie_7 ?_
    refine v_last (pc := 8) (N := 1) rfl rfl (by decide) (by omega) (by decide) dL_renderDie_8 ?_
    refine v_goto (pc := 9) (tgt := 15) dL_renderDie_9 (by decide) ?_
    refine v_iconst (pc := 15) (z := 0) dL_renderDie_15 ?_
    exact v_iret (pc := 16) E (Or.inl ⟨rfl, r, G1, hr, hq, rfl⟩) (Nat.le_of_ble_eq_true rfl) (Nat.le_of_ble_eq_true rfl) dL_renderDie_16
  · skip
    have hE : e = eIB := hx.1
    rcases hE with rfl
    · skip
      refine v_catch (name := "java/lang/IndexOutOfBoundsException") (pre := []) (x := { startPc := 0, endPc := 9, handlerPc := 12, catchType := 23 }) (suf := []) E rfl (fun z hz => by cases hz) (by decide) (by decide) wK_L_23 wX_IndexOutOfBoundsException_IndexOutOfBoundsException (fun q9 => ?_)
      show V γ g cL_renderDie 4 RL (rmL 6 9 1622) G1 (0 + 9) (0 + 1622) 12 [some (vR g 0), some (vI d), some (vR g 119), none] [.ref q9]
      refine v_astore_n (pc := 12) (by decide) rfl dL_renderDie_12 ?_
      refine v_iconst (pc := 13) (z := 1) dL_renderDie_13 ?_
      exact v_iret (pc := 14) E (Or.inr ⟨0, eIB, rfl, hx, rfl⟩) (Nat.le_of_ble_eq_true rfl) (Nat.le_of_ble_eq_true rfl) dL_renderDie_14
set_option maxHeartbeats 4000000 in
set_option maxRecDepth 100000 in
theorem c_L_outputAt {g : GT} {G : Mem} (hn : 0 ≤ G 122 0 ∧ G 122 0 ≤ 90) (hz : ∀ z, 0 ≤ z → z < G 122 0 → 0 ≤ G 121 z ∧ G 121 z < 65536) {d : Int} (h_d : -2147483648 ≤ d ∧ d < 2147483648) : CtrH g yL_outputAt cL_outputAt 4 (some FieldType.int) [(0, 9, 12, 23)] (rmL 5 1 6) [vR g 0, vI d, vR g 119] G (LQ (fun v G' => v = some (vI (G 121 d)) ∧ G' = G ∧ 0 ≤ d ∧ d < G 122 0) (fun e G' => e = eIB ∧ G' = G ∧ ¬ (0 ≤ d ∧ d < G 122 0)) [eIB]) NoX := by
  refine ctrH_of [some (vR g 0), some (vI d), some (vR g 119), none] (by decide) (Nat.le_of_ble_eq_true rfl) rfl (fun γ E => ?_)
  show V γ g cL_outputAt 4 RL (rmL 5 1 6) G 0 0 0 [some (vR g 0), some (vI d), some (vR g 119), none] []
  refine v_aload_n (pc := 0) rfl dL_outputAt_0 ?_
  refine v_iconst (pc := 1) (z := 0) dL_outputAt_1 ?_
  refine v_aload_n (pc := 2) rfl dL_outputAt_2 ?_
  refine v_iload_n (pc := 3) rfl dL_outputAt_3 ?_
  refine v_callV (pc := 4) (rest := [vI 0, vR g 119]) (c_X3_outputAt hn hz h_d) iok_X3_outputAt wM_L_94 rfl (by decide) (by decide) rfl (rmOk (by decide) (by decide)) ⟨Nat.le_of_ble_eq_true rfl, Nat.le_of_ble_eq_true rfl⟩ (Nat.le_of_ble_eq_true rfl) rfl dL_outputAt_4 (fun v G1 hq => ?_) (fun e G1 hx => ?_)
  · skip
    obtain ⟨r, hr, rfl⟩ := int_norm (⟨_, hq.1⟩)
    refine v_stk (st' := [vI r, vI 0, vR g 119]) rfl ?_
    refine v_i2l (pc := 7) (by omega) dL_outputAt_7 ?_
    refine v_last (pc := 8) (N := 1) rfl rfl (by decide) (by omega) (by decide) dL_outputAt_8 ?_
    refine v_goto (pc := 9) (tgt := 15) dL_outputAt_9 (by decide) ?_
    refine v_iconst (pc := 15) (z := 0) dL_outputAt_15 ?_
    exact v_iret (pc := 16) E (Or.inl ⟨rfl, r, G1, hr, hq, rfl⟩) (Nat.le_of_ble_eq_true rfl) (Nat.le_of_ble_eq_true rfl) dL_outputAt_16
  · skip
    have hE : e = eIB := hx.1
    rcases hE with rfl
    · skip
      refine v_catch (name := "java/lang/IndexOutOfBoundsException") (pre := []) (x := { startPc := 0, endPc := 9, handlerPc := 12, catchType := 23 }) (suf := []) E rfl (fun z hz => by cases hz) (by decide) (by decide) wK_L_23 wX_IndexOutOfBoundsException_IndexOutOfBoundsException (fun q9 => ?_)
      show V γ g cL_outputAt 4 RL (rmL 5 1 6) G1 (0 + 1) (0 + 6) 12 [some (vR g 0), some (vI d), some (vR g 119), none] [.ref q9]
      refine v_astore_n (pc := 12) (by decide) rfl dL_outputAt_12 ?_
      refine v_iconst (pc := 13) (z := 1) dL_outputAt_13 ?_
      exact v_iret (pc := 14) E (Or.inr ⟨0, eIB, rfl, hx, rfl⟩) (Nat.le_of_ble_eq_true rfl) (Nat.le_of_ble_eq_true rfl) dL_outputAt_14
set_option maxHeartbeats 4000000 in
set_option maxRecDepth 100000 in
theorem c_L_type {g : GT} {G : Mem} {c : Int} (h_c : 0 ≤ c ∧ c < 65536) (hn : 0 ≤ G 2 1 ∧ G 2 1 ≤ 60) : CtrH g yL_type cL_type 4 (some FieldType.int) [(0, 9, 12, 13), (0, 9, 15, 15)] (rmL 2 1 6) [vR g 0, vI c, vR g 119] G (LQ (fun v G' => v = some (vI (G 2 1 + 1)) ∧ (32 ≤ c ∧ c ≤ 126) ∧ G 2 1 < 60 ∧ G' = upd2 (upd2 G 102 (G 2 1) c) 2 1 (G 2 1 + 1)) (fun e G' => G' = G ∧ ((e = eIA ∧ ¬ (32 ≤ c ∧ c ≤ 126)) ∨ (e = eIS ∧ (32 ≤ c ∧ c ≤ 126) ∧ 60 ≤ G 2 1))) [eIA, eIS]) NoX := by
  refine ctrH_of [some (vR g 0), some (vI c), some (vR g 119), none] (by decide) (Nat.le_of_ble_eq_true rfl) rfl (fun γ E => ?_)
  show V γ g cL_type 4 RL (rmL 2 1 6) G 0 0 0 [some (vR g 0), some (vI c), some (vR g 119), none] []
  refine v_aload_n (pc := 0) rfl dL_type_0 ?_
  refine v_iconst (pc := 1) (z := 0) dL_type_1 ?_
  refine v_aload_n (pc := 2) rfl dL_type_2 ?_
  refine v_iload_n (pc := 3) rfl dL_type_3 ?_
  refine v_callV (pc := 4) (rest := [vI 0, vR g 119]) (c_X3_type h_c hn) iok_X3_type wM_L_97 rfl (by decide) (by decide) rfl (rmOk (by decide) (by decide)) ⟨Nat.le_of_ble_eq_true rfl, Nat.le_of_ble_eq_true rfl⟩ (Nat.le_of_ble_eq_true rfl) rfl dL_type_4 (fun v G1 hq => ?_) (fun e G1 hx => ?_)
  · skip
    obtain ⟨r, hr, rfl⟩ := int_norm (⟨_, hq.1⟩)
    refine v_stk (st' := [vI r, vI 0, vR g 119]) rfl ?_
    refine v_i2l (pc := 7) (by omega) dL_type_7 ?_
    refine v_last (pc := 8) (N := 1) rfl rfl (by decide) (by omega) (by decide) dL_type_8 ?_
    refine v_goto (pc := 9) (tgt := 18) dL_type_9 (by decide) ?_
    refine v_iconst (pc := 18) (z := 0) dL_type_18 ?_
    exact v_iret (pc := 19) E (Or.inl ⟨rfl, r, G1, hr, hq, rfl⟩) (Nat.le_of_ble_eq_true rfl) (Nat.le_of_ble_eq_true rfl) dL_type_19
  · skip
    have hE : e = eIA ∨ e = eIS := hx.2.imp And.left And.left
    rcases hE with rfl | rfl
    · skip
      refine v_catch (name := "java/lang/IllegalArgumentException") (pre := []) (x := { startPc := 0, endPc := 9, handlerPc := 12, catchType := 13 }) (suf := [{ startPc := 0, endPc := 9, handlerPc := 15, catchType := 15 }]) E rfl (fun z hz => by cases hz) (by decide) (by decide) wK_L_13 wX_IllegalArgumentException_IllegalArgumentException (fun q9 => ?_)
      show V γ g cL_type 4 RL (rmL 2 1 6) G1 (0 + 1) (0 + 6) 12 [some (vR g 0), some (vI c), some (vR g 119), none] [.ref q9]
      refine v_astore_n (pc := 12) (by decide) rfl dL_type_12 ?_
      refine v_iconst (pc := 13) (z := 1) dL_type_13 ?_
      exact v_iret (pc := 14) E (Or.inr ⟨0, eIA, rfl, hx, rfl⟩) (Nat.le_of_ble_eq_true rfl) (Nat.le_of_ble_eq_true rfl) dL_type_14
    · skip
      refine v_catch (name := "java/lang/IllegalStateException") (pre := [{ startPc := 0, endPc := 9, handlerPc := 12, catchType := 13 }]) (x := { startPc := 0, endPc := 9, handlerPc := 15, catchType := 15 }) (suf := []) E rfl (fun z hz => by rcases List.mem_cons.mp hz with rfl | hz; exact ⟨by decide, "java/lang/IllegalArgumentException", wK_L_13, by decide +kernel⟩; cases hz) (by decide) (by decide) wK_L_15 wX_IllegalStateException_IllegalStateException (fun q9 => ?_)
      show V γ g cL_type 4 RL (rmL 2 1 6) G1 (0 + 1) (0 + 6) 15 [some (vR g 0), some (vI c), some (vR g 119), none] [.ref q9]
      refine v_astore_n (pc := 15) (by decide) rfl dL_type_15 ?_
      refine v_iconst (pc := 16) (z := 2) dL_type_16 ?_
      exact v_iret (pc := 17) E (Or.inr ⟨1, eIS, rfl, hx, rfl⟩) (Nat.le_of_ble_eq_true rfl) (Nat.le_of_ble_eq_true rfl) dL_type_17
set_option maxHeartbeats 4000000 in
set_option maxRecDepth 100000 in
theorem c_L_runScript {g : GT} {G : Mem} (hI : StI G 4) (hp : PastI G) (hlv : 0 ≤ G 4 9 ∧ G 4 9 ≤ 30000) (hyy : G 4 10 + 2000 ≤ 1000000) (hsn : 0 ≤ G 2 1 ∧ G 2 1 ≤ 60) (hS : ∀ j, 0 ≤ j → j < G 2 1 → 32 ≤ G 102 j ∧ G 102 j ≤ 126) : CtrH g yL_runScript cL_runScript 3 (some FieldType.int) [(0, 8, 11, 13), (0, 8, 14, 15)] (rmL 9 1 6) [vR g 0, vR g 119] G (LQ (fun v G' => ∃ Gp Gc Gk Gr, (prs (G 102) (G 2 1)).1 = 1 ∧ FrPr G Gp ∧ CpS (upd2 Gp 2 1 0) Gc 12 4 ∧ RunR (G 102) (G 2 1) Gc (prs (G 102) (G 2 1)).2.1.toNat Gk ∧ RemR Gk Gr ∧ CpS Gr G' 4 12 ∧ v = some (vI (prs (G 102) (G 2 1)).2.1)) (fun e G' => (e = eIA ∧ (prs (G 102) (G 2 1)).1 ≠ 1 ∧ ∃ Gp, FrPr G Gp ∧ G' = upd2 (upd2 Gp 2 1 0) 0 9 (prs (G 102) (G 2 1)).2.2) ∨ (e = eIS ∧ (prs (G 102) (G 2 1)).1 = 1 ∧ ∃ Gp Gc Gk Gn, ∃ k r : Int, FrPr G Gp ∧ CpS (upd2 Gp 2 1 0) Gc 12 4 ∧ (0 ≤ k ∧ k < (prs (G 102) (G 2 1)).2.1) ∧ RunR (G 102) (G 2 1) Gc k.toNat Gk ∧ FltV Gk 12 (vb (G 102) (G 2 1) (ps (G 102) (G 2 1) k.toNat)) (cA (G 102) (G 2 1) (ps (G 102) (G 2 1) k.toNat)) (cB (G 102) (G 2 1) (ps (G 102) (G 2 1) k.toNat)) r ∧ r ≠ 0 ∧ FrP Gk Gn ∧ G' = upd2 Gn 0 10 k)) [eIA, eIS]) NoX := by
  refine ctrH_of [some (vR g 0), some (vR g 119), none] (by decide) (Nat.le_of_ble_eq_true rfl) rfl (fun γ E => ?_)
  show V γ g cL_runScript 3 RL (rmL 9 1 6) G 0 0 0 [some (vR g 0), some (vR g 119), none] []
  refine v_aload_n (pc := 0) rfl dL_runScript_0 ?_
  refine v_iconst (pc := 1) (z := 0) dL_runScript_1 ?_
  refine v_aload_n (pc := 2) rfl dL_runScript_2 ?_
  refine v_callV (pc := 3) (rest := [vI 0, vR g 119]) (c_X3_runScript hI hp hlv hyy hsn hS) iok_X3_runScript wM_L_100 rfl (by decide) (by decide) rfl (rmOk (by decide) (by decide)) ⟨Nat.le_of_ble_eq_true rfl, Nat.le_of_ble_eq_true rfl⟩ (Nat.le_of_ble_eq_true rfl) rfl dL_runScript_3 (fun v G1 hq => ?_) (fun e G1 hx => ?_)
  · skip
    obtain ⟨r, hr, rfl⟩ := int_norm (by obtain ⟨_, _, _, _, -, -, -, -, -, -, h⟩ := hq; exact ⟨_, h⟩)
    refine v_stk (st' := [vI r, vI 0, vR g 119]) rfl ?_
    refine v_i2l (pc := 6) (by omega) dL_runScript_6 ?_
    refine v_last (pc := 7) (N := 1) rfl rfl (by decide) (by omega) (by decide) dL_runScript_7 ?_
    refine v_goto (pc := 8) (tgt := 17) dL_runScript_8 (by decide) ?_
    refine v_iconst (pc := 17) (z := 0) dL_runScript_17 ?_
    exact v_iret (pc := 18) E (Or.inl ⟨rfl, r, G1, hr, hq, rfl⟩) (Nat.le_of_ble_eq_true rfl) (Nat.le_of_ble_eq_true rfl) dL_runScript_18
  · skip
    have hE : e = eIA ∨ e = eIS := hx.imp And.left And.left
    rcases hE with rfl | rfl
    · skip
      refine v_catch (name := "java/lang/IllegalArgumentException") (pre := []) (x := { startPc := 0, endPc := 8, handlerPc := 11, catchType := 13 }) (suf := [{ startPc := 0, endPc := 8, handlerPc := 14, catchType := 15 }]) E rfl (fun z hz => by cases hz) (by decide) (by decide) wK_L_13 wX_IllegalArgumentException_IllegalArgumentException (fun q9 => ?_)
      show V γ g cL_runScript 3 RL (rmL 9 1 6) G1 (0 + 1) (0 + 6) 11 [some (vR g 0), some (vR g 119), none] [.ref q9]
      refine v_astore_n (pc := 11) (by decide) rfl dL_runScript_11 ?_
      refine v_iconst (pc := 12) (z := 1) dL_runScript_12 ?_
      exact v_iret (pc := 13) E (Or.inr ⟨0, eIA, rfl, hx, rfl⟩) (Nat.le_of_ble_eq_true rfl) (Nat.le_of_ble_eq_true rfl) dL_runScript_13
    · skip
      refine v_catch (name := "java/lang/IllegalStateException") (pre := [{ startPc := 0, endPc := 8, handlerPc := 11, catchType := 13 }]) (x := { startPc := 0, endPc := 8, handlerPc := 14, catchType := 15 }) (suf := []) E rfl (fun z hz => by rcases List.mem_cons.mp hz with rfl | hz; exact ⟨by decide, "java/lang/IllegalArgumentException", wK_L_13, by decide +kernel⟩; cases hz) (by decide) (by decide) wK_L_15 wX_IllegalStateException_IllegalStateException (fun q9 => ?_)
      show V γ g cL_runScript 3 RL (rmL 9 1 6) G1 (0 + 1) (0 + 6) 14 [some (vR g 0), some (vR g 119), none] [.ref q9]
      refine v_astore_n (pc := 14) (by decide) rfl dL_runScript_14 ?_
      refine v_iconst (pc := 15) (z := 2) dL_runScript_15 ?_
      exact v_iret (pc := 16) E (Or.inr ⟨1, eIS, rfl, hx, rfl⟩) (Nat.le_of_ble_eq_true rfl) (Nat.le_of_ble_eq_true rfl) dL_runScript_16
set_option maxHeartbeats 4000000 in
set_option maxRecDepth 100000 in
theorem c_L_errorPosition {g : GT} {G : Mem} (h9 : -1 ≤ G 0 9 ∧ G 0 9 ≤ 1000) : CtrH g yL_errorPosition cL_errorPosition 3 (some FieldType.int) [(0, 8, 11, 37)] (rmL 1 1 6) [vR g 0, vR g 119] G (LQ (fun v G' => v = some (vI (G 0 9)) ∧ G' = G ∧ G 0 9 ≠ -1) (fun e G' => e = eNE ∧ G' = G ∧ G 0 9 = -1) [eNE]) NoX := by
  refine ctrH_of [some (vR g 0), some (vR g 119), none] (by decide) (Nat.le_of_ble_eq_true rfl) rfl (fun γ E => ?_)
  show V γ g cL_errorPosition 3 RL (rmL 1 1 6) G 0 0 0 [some (vR g 0), some (vR g 119), none] []
  refine v_aload_n (pc := 0) rfl dL_errorPosition_0 ?_
  refine v_iconst (pc := 1) (z := 0) dL_errorPosition_1 ?_
  refine v_aload_n (pc := 2) rfl dL_errorPosition_2 ?_
  refine v_callV (pc := 3) (rest := [vI 0, vR g 119]) (c_X3_errorPosition h9) iok_X3_errorPosition wM_L_104 rfl (by decide) (by decide) rfl (rmOk (by decide) (by decide)) ⟨Nat.le_of_ble_eq_true rfl, Nat.le_of_ble_eq_true rfl⟩ (Nat.le_of_ble_eq_true rfl) rfl dL_errorPosition_3 (fun v G1 hq => ?_) (fun e G1 hx => ?_)
  · skip
    obtain ⟨r, hr, rfl⟩ := int_norm (⟨_, hq.1⟩)
    refine v_stk (st' := [vI r, vI 0, vR g 119]) rfl ?_
    refine v_i2l (pc := 6) (by omega) dL_errorPosition_6 ?_
    refine v_last (pc := 7) (N := 1) rfl rfl (by decide) (by omega) (by decide) dL_errorPosition_7 ?_
    refine v_goto (pc := 8) (tgt := 14) dL_errorPosition_8 (by decide) ?_
    refine v_iconst (pc := 14) (z := 0) dL_errorPosition_14 ?_
    exact v_iret (pc := 15) E (Or.inl ⟨rfl, r, G1, hr, hq, rfl⟩) (Nat.le_of_ble_eq_true rfl) (Nat.le_of_ble_eq_true rfl) dL_errorPosition_15
  · skip
    have hE : e = eNE := hx.1
    rcases hE with rfl
    · skip
      refine v_catch (name := "java/util/NoSuchElementException") (pre := []) (x := { startPc := 0, endPc := 8, handlerPc := 11, catchType := 37 }) (suf := []) E rfl (fun z hz => by cases hz) (by decide) (by decide) wK_L_37 wX_NoSuchElementException_NoSuchElementException (fun q9 => ?_)
      show V γ g cL_errorPosition 3 RL (rmL 1 1 6) G1 (0 + 1) (0 + 6) 11 [some (vR g 0), some (vR g 119), none] [.ref q9]
      refine v_astore_n (pc := 11) (by decide) rfl dL_errorPosition_11 ?_
      refine v_iconst (pc := 12) (z := 1) dL_errorPosition_12 ?_
      exact v_iret (pc := 13) E (Or.inr ⟨0, eNE, rfl, hx, rfl⟩) (Nat.le_of_ble_eq_true rfl) (Nat.le_of_ble_eq_true rfl) dL_errorPosition_13
set_option maxHeartbeats 4000000 in
set_option maxRecDepth 100000 in
theorem c_L_failedCommand {g : GT} {G : Mem} (h9 : -1 ≤ G 0 10 ∧ G 0 10 ≤ 1000) : CtrH g yL_failedCommand cL_failedCommand 3 (some FieldType.int) [(0, 8, 11, 37)] (rmL 1 1 6) [vR g 0, vR g 119] G (LQ (fun v G' => v = some (vI (G 0 10)) ∧ G' = G ∧ G 0 10 ≠ -1) (fun e G' => e = eNE ∧ G' = G ∧ G 0 10 = -1) [eNE]) NoX := by
  refine ctrH_of [some (vR g 0), some (vR g 119), none] (by decide) (Nat.le_of_ble_eq_true rfl) rfl (fun γ E => ?_)
  show V γ g cL_failedCommand 3 RL (rmL 1 1 6) G 0 0 0 [some (vR g 0), some (vR g 119), none] []
  refine v_aload_n (pc := 0) rfl dL_failedCommand_0 ?_
  refine v_iconst (pc := 1) (z := 0) dL_failedCommand_1 ?_
  refine v_aload_n (pc := 2) rfl dL_failedCommand_2 ?_
  refine v_callV (pc := 3) (rest := [vI 0, vR g 119]) (c_X3_failedCommand h9) iok_X3_failedCommand wM_L_107 rfl (by decide) (by decide) rfl (rmOk (by decide) (by decide)) ⟨Nat.le_of_ble_eq_true rfl, Nat.le_of_ble_eq_true rfl⟩ (Nat.le_of_ble_eq_true rfl) rfl dL_failedCommand_3 (fun v G1 hq => ?_) (fun e G1 hx => ?_)
  · skip
    obtain ⟨r, hr, rfl⟩ := int_norm (⟨_, hq.1⟩)
    refine v_stk (st' := [vI r, vI 0, vR g 119]) rfl ?_
    refine v_i2l (pc := 6) (by omega) dL_failedCommand_6 ?_
    refine v_last (pc := 7) (N := 1) rfl rfl (by decide) (by omega) (by decide) dL_failedCommand_7 ?_
    refine v_goto (pc := 8) (tgt := 14) dL_failedCommand_8 (by decide) ?_
    refine v_iconst (pc := 14) (z := 0) dL_failedCommand_14 ?_
    exact v_iret (pc := 15) E (Or.inl ⟨rfl, r, G1, hr, hq, rfl⟩) (Nat.le_of_ble_eq_true rfl) (Nat.le_of_ble_eq_true rfl) dL_failedCommand_15
  · skip
    have hE : e = eNE := hx.1
    rcases hE with rfl
    · skip
      refine v_catch (name := "java/util/NoSuchElementException") (pre := []) (x := { startPc := 0, endPc := 8, handlerPc := 11, catchType := 37 }) (suf := []) E rfl (fun z hz => by cases hz) (by decide) (by decide) wK_L_37 wX_NoSuchElementException_NoSuchElementException (fun q9 => ?_)
      show V γ g cL_failedCommand 3 RL (rmL 1 1 6) G1 (0 + 1) (0 + 6) 11 [some (vR g 0), some (vR g 119), none] [.ref q9]
      refine v_astore_n (pc := 11) (by decide) rfl dL_failedCommand_11 ?_
      refine v_iconst (pc := 12) (z := 1) dL_failedCommand_12 ?_
      exact v_iret (pc := 13) E (Or.inr ⟨0, eNE, rfl, hx, rfl⟩) (Nat.le_of_ble_eq_true rfl) (Nat.le_of_ble_eq_true rfl) dL_failedCommand_13
set_option maxHeartbeats 4000000 in
set_option maxRecDepth 100000 in
theorem c_L_undo {g : GT} {G : Mem} (hp : PastI G) : CtrH g yL_undo cL_undo 3 (some FieldType.int) [(0, 8, 11, 15)] (rmL 2 1 6) [vR g 0, vR g 119] G (LQ (fun v G' => v = some (vI (G 0 8 - 1)) ∧ G 0 8 ≠ 0 ∧ CpS (upd2 G 0 8 (G 0 8 - 1)) G' 4 (G 3 (G 0 8 - 1)).toNat) (fun e G' => e = eIS ∧ G' = G ∧ G 0 8 = 0) [eIS]) NoX := by
  refine ctrH_of [some (vR g 0), some (vR g 119), none] (by decide) (Nat.le_of_ble_eq_true rfl) rfl (fun γ E => ?_)
  show V γ g cL_undo 3 RL (rmL 2 1 6) G 0 0 0 [some (vR g 0), some (vR g 119), none] []
  refine v_aload_n (pc := 0) rfl dL_undo_0 ?_
  refine v_iconst (pc := 1) (z := 0) dL_undo_1 ?_
  refine v_aload_n (pc := 2) rfl dL_undo_2 ?_
  refine v_callV (pc := 3) (rest := [vI 0, vR g 119]) (c_X3_undo hp) iok_X3_undo wM_L_110 rfl (by decide) (by decide) rfl (rmOk (by decide) (by decide)) ⟨Nat.le_of_ble_eq_true rfl, Nat.le_of_ble_eq_true rfl⟩ (Nat.le_of_ble_eq_true rfl) rfl dL_undo_3 (fun v G1 hq => ?_) (fun e G1 hx => ?_)
  · skip
    obtain ⟨r, hr, rfl⟩ := int_norm (⟨_, hq.1⟩)
    refine v_stk (st' := [vI r, vI 0, vR g 119]) rfl ?_
    refine v_i2l (pc := 6) (by omega) dL_undo_6 ?_
    refine v_last (pc := 7) (N := 1) rfl rfl (by decide) (by omega) (by decide) dL_undo_7 ?_
    refine v_goto (pc := 8) (tgt := 14) dL_undo_8 (by decide) ?_
    refine v_iconst (pc := 14) (z := 0) dL_undo_14 ?_
    exact v_iret (pc := 15) E (Or.inl ⟨rfl, r, G1, hr, hq, rfl⟩) (Nat.le_of_ble_eq_true rfl) (Nat.le_of_ble_eq_true rfl) dL_undo_15
  · skip
    have hE : e = eIS := hx.1
    rcases hE with rfl
    · skip
      refine v_catch (name := "java/lang/IllegalStateException") (pre := []) (x := { startPc := 0, endPc := 8, handlerPc := 11, catchType := 15 }) (suf := []) E rfl (fun z hz => by cases hz) (by decide) (by decide) wK_L_15 wX_IllegalStateException_IllegalStateException (fun q9 => ?_)
      show V γ g cL_undo 3 RL (rmL 2 1 6) G1 (0 + 1) (0 + 6) 11 [some (vR g 0), some (vR g 119), none] [.ref q9]
      refine v_astore_n (pc := 11) (by decide) rfl dL_undo_11 ?_
      refine v_iconst (pc := 12) (z := 1) dL_undo_12 ?_
      exact v_iret (pc := 13) E (Or.inr ⟨0, eIS, rfl, hx, rfl⟩) (Nat.le_of_ble_eq_true rfl) (Nat.le_of_ble_eq_true rfl) dL_undo_13
set_option maxHeartbeats 4000000 in
set_option maxRecDepth 100000 in
theorem c_L_restore {g : GT} {G : Mem} (h7 : 0 ≤ G 0 7 ∧ G 0 7 ≤ 1) : CtrH g yL_restore cL_restore 3 (some FieldType.int) [(0, 8, 11, 15)] (rmL 2 1 6) [vR g 0, vR g 119] G (LQ (fun v G' => v = some (vI (G 20 5)) ∧ G 0 7 ≠ 0 ∧ ∃ G2, CpS G G2 4 20 ∧ G' = upd2 G2 0 8 0) (fun e G' => e = eIS ∧ G' = G ∧ G 0 7 = 0) [eIS]) NoX := by
  refine ctrH_of [some (vR g 0), some (vR g 119), none] (by decide) (Nat.le_of_ble_eq_true rfl) rfl (fun γ E => ?_)
  show V γ g cL_restore 3 RL (rmL 2 1 6) G 0 0 0 [some (vR g 0), some (vR g 119), none] []
  refine v_aload_n (pc := 0) rfl dL_restore_0 ?_
  refine v_iconst (pc := 1) (z := 0) dL_restore_1 ?_
  refine v_aload_n (pc := 2) rfl dL_restore_2 ?_
  refine v_callV (pc := 3) (rest := [vI 0, vR g 119]) (c_X3_restore h7) iok_X3_restore wM_L_113 rfl (by decide) (by decide) rfl (rmOk (by decide) (by decide)) ⟨Nat.le_of_ble_eq_true rfl, Nat.le_of_ble_eq_true rfl⟩ (Nat.le_of_ble_eq_true rfl) rfl dL_restore_3 (fun v G1 hq => ?_) (fun e G1 hx => ?_)
  · skip
    obtain ⟨r, hr, rfl⟩ := int_norm (⟨_, hq.1⟩)
    refine v_stk (st' := [vI r, vI 0, vR g 119]) rfl ?_
    refine v_i2l (pc := 6) (by omega) dL_restore_6 ?_
    refine v_last (pc := 7) (N := 1) rfl rfl (by decide) (by omega) (by decide) dL_restore_7 ?_
    refine v_goto (pc := 8) (tgt := 14) dL_restore_8 (by decide) ?_
    refine v_iconst (pc := 14) (z := 0) dL_restore_14 ?_
    exact v_iret (pc := 15) E (Or.inl ⟨rfl, r, G1, hr, hq, rfl⟩) (Nat.le_of_ble_eq_true rfl) (Nat.le_of_ble_eq_true rfl) dL_restore_15
  · skip
    have hE : e = eIS := hx.1
    rcases hE with rfl
    · skip
      refine v_catch (name := "java/lang/IllegalStateException") (pre := []) (x := { startPc := 0, endPc := 8, handlerPc := 11, catchType := 15 }) (suf := []) E rfl (fun z hz => by cases hz) (by decide) (by decide) wK_L_15 wX_IllegalStateException_IllegalStateException (fun q9 => ?_)
      show V γ g cL_restore 3 RL (rmL 2 1 6) G1 (0 + 1) (0 + 6) 11 [some (vR g 0), some (vR g 119), none] [.ref q9]
      refine v_astore_n (pc := 11) (by decide) rfl dL_restore_11 ?_
      refine v_iconst (pc := 12) (z := 1) dL_restore_12 ?_
      exact v_iret (pc := 13) E (Or.inr ⟨0, eIS, rfl, hx, rfl⟩) (Nat.le_of_ble_eq_true rfl) (Nat.le_of_ble_eq_true rfl) dL_restore_13
set_option maxHeartbeats 4000000 in
set_option maxRecDepth 100000 in
theorem c_L_gradeShare {g : GT} {G : Mem} (hI : StI G 4) {c : Int} (h_c : 0 ≤ c ∧ c < 65536) : CtrH g yL_gradeShare cL_gradeShare 4 (some FieldType.int) [(0, 9, 12, 13), (0, 9, 15, 85)] (rmL 2 2 12) [vR g 0, vI c, vR g 120] G (LQF (fun v G' => v = some (.float (gsF (cntE (G 4 5) (G 11) (c - 65)) (G 4 5))) ∧ G' = G ∧ (65 ≤ c ∧ c ≤ 67) ∧ G 4 5 ≠ 0) (fun e G' => G' = G ∧ ((e = eIA ∧ ¬ (65 ≤ c ∧ c ≤ 67)) ∨ (e = eAR ∧ (65 ≤ c ∧ c ≤ 67) ∧ G 4 5 = 0))) [eIA, eAR]) NoX := by
  refine ctrH_of [some (vR g 0), some (vI c), some (vR g 120), none] (by decide) (Nat.le_of_ble_eq_true rfl) rfl (fun γ E => ?_)
  show V γ g cL_gradeShare 4 RL (rmL 2 2 12) G 0 0 0 [some (vR g 0), some (vI c), some (vR g 120), none] []
  have hc := StI_c hI
  refine v_aload_n (pc := 0) rfl dL_gradeShare_0 ?_
  refine v_iconst (pc := 1) (z := 0) dL_gradeShare_1 ?_
  refine v_aload_n (pc := 2) rfl dL_gradeShare_2 ?_
  refine v_iload_n (pc := 3) rfl dL_gradeShare_3 ?_
  refine v_callV (pc := 4) (rest := [vI 0, vR g 120]) (c_X3_gradeShare hI h_c) iok_X3_gradeShare wM_L_87 rfl (by decide) (by decide) rfl (rmOk (by decide) (by decide)) ⟨Nat.le_of_ble_eq_true rfl, Nat.le_of_ble_eq_true rfl⟩ (Nat.le_of_ble_eq_true rfl) rfl dL_gradeShare_4 (fun v G1 hq => ?_) (fun e G1 hx => ?_)
  · skip
    obtain ⟨x, rfl⟩ : ∃ x, v = some (.float x) := ⟨_, hq.1⟩
    refine v_stk (st' := [.float x, vI 0, vR g 120]) rfl ?_
    refine v_f2d (pc := 7) (gsx x hc hq) dL_gradeShare_7 ?_
    refine v_dast (pc := 8) (N := 1) rfl rfl (by decide) (by omega) (by decide) dL_gradeShare_8 ?_
    refine v_goto (pc := 9) (tgt := 18) dL_gradeShare_9 (by decide) ?_
    refine v_iconst (pc := 18) (z := 0) dL_gradeShare_18 ?_
    exact v_iret (pc := 19) E (Or.inl ⟨rfl, x, G1, hq, rfl⟩) (Nat.le_of_ble_eq_true rfl) (Nat.le_of_ble_eq_true rfl) dL_gradeShare_19
  · skip
    have hE : e = eIA ∨ e = eAR := hx.2.imp And.left And.left
    rcases hE with rfl | rfl
    · skip
      refine v_catch (name := "java/lang/IllegalArgumentException") (pre := []) (x := { startPc := 0, endPc := 9, handlerPc := 12, catchType := 13 }) (suf := [{ startPc := 0, endPc := 9, handlerPc := 15, catchType := 85 }]) E rfl (fun z hz => by cases hz) (by decide) (by decide) wK_L_13 wX_IllegalArgumentException_IllegalArgumentException (fun q9 => ?_)
      show V γ g cL_gradeShare 4 RL (rmL 2 2 12) G1 (0 + 2) (0 + 12) 12 [some (vR g 0), some (vI c), some (vR g 120), none] [.ref q9]
      refine v_astore_n (pc := 12) (by decide) rfl dL_gradeShare_12 ?_
      refine v_iconst (pc := 13) (z := 1) dL_gradeShare_13 ?_
      exact v_iret (pc := 14) E (Or.inr ⟨0, eIA, rfl, hx, rfl⟩) (Nat.le_of_ble_eq_true rfl) (Nat.le_of_ble_eq_true rfl) dL_gradeShare_14
    · skip
      refine v_catch (name := "java/lang/ArithmeticException") (pre := [{ startPc := 0, endPc := 9, handlerPc := 12, catchType := 13 }]) (x := { startPc := 0, endPc := 9, handlerPc := 15, catchType := 85 }) (suf := []) E rfl (fun z hz => by rcases List.mem_cons.mp hz with rfl | hz; exact ⟨by decide, "java/lang/IllegalArgumentException", wK_L_13, by decide +kernel⟩; cases hz) (by decide) (by decide) wK_L_85 wX_ArithmeticException_ArithmeticException (fun q9 => ?_)
      show V γ g cL_gradeShare 4 RL (rmL 2 2 12) G1 (0 + 2) (0 + 12) 15 [some (vR g 0), some (vI c), some (vR g 120), none] [.ref q9]
      refine v_astore_n (pc := 15) (by decide) rfl dL_gradeShare_15 ?_
      refine v_iconst (pc := 16) (z := 2) dL_gradeShare_16 ?_
      exact v_iret (pc := 17) E (Or.inr ⟨1, eAR, rfl, hx, rfl⟩) (Nat.le_of_ble_eq_true rfl) (Nat.le_of_ble_eq_true rfl) dL_gradeShare_17
set_option maxHeartbeats 4000000 in
set_option maxRecDepth 100000 in
theorem c_L_canPay {g : GT} {G : Mem} (hI : StI G 4) {a : Int} (h_a : -2147483648 ≤ a ∧ a < 2147483648) : CtrH g yL_canPay cL_canPay 4 (some FieldType.int) [(0, 16, 19, 13)] (rmL 3 1 6) [vR g 0, vI a, vR g 119] G (LQ (fun v G' => v = some (vI (bI ((Tab (vsR G 4) (cnR G 4) (G 4 0).toNat a) ≠ 1000))) ∧ (∀ i z, ¬ (94 ≤ i ∧ i ≤ 99) → ¬ (i = 1 ∧ z = 4) → G' i z = G i z) ∧ (1 ≤ a ∧ a ≤ 99)) (fun e G' => e = eIA ∧ G' = G ∧ ¬ (1 ≤ a ∧ a ≤ 99)) [eIA]) NoX := by
  refine ctrH_of [some (vR g 0), some (vI a), some (vR g 119), none] (by decide) (Nat.le_of_ble_eq_true rfl) rfl (fun γ E => ?_)
  show V γ g cL_canPay 4 RL (rmL 3 1 6) G 0 0 0 [some (vR g 0), some (vI a), some (vR g 119), none] []
  refine v_aload_n (pc := 0) rfl dL_canPay_0 ?_
  refine v_iconst (pc := 1) (z := 0) dL_canPay_1 ?_
  refine v_aload_n (pc := 2) rfl dL_canPay_2 ?_
  refine v_iload_n (pc := 3) rfl dL_canPay_3 ?_
  refine v_callV (pc := 4) (rest := [vI 0, vR g 119]) (c_X3_canPay hI h_a) iok_X3_canPay wM_L_65 rfl (by decide) (by decide) rfl (rmOk (by decide) (by decide)) ⟨Nat.le_of_ble_eq_true rfl, Nat.le_of_ble_eq_true rfl⟩ (Nat.le_of_ble_eq_true rfl) rfl dL_canPay_4 (fun v G1 hq => ?_) (fun e G1 hx => ?_)
  · skip
    obtain ⟨r, hr, rfl⟩ := int_norm (⟨_, hq.1⟩)
    refine v_stk (st' := [vI r, vI 0, vR g 119]) rfl ?_
    have hr01 : r = 0 ∨ r = 1 := bool_norm hr hq.1
    refine v_if_eq (pc := 7) (tgt := 14) (by omega) dL_canPay_7 (by decide) (fun bq1 => ?_) (fun bq1 => ?_)
    · skip
      have r0 : r = 0 := by omega
      subst r0
      refine v_lconst (pc := 14) (z := 0) rfl dL_canPay_14 ?_
      refine v_last (pc := 15) (N := 1) rfl rfl (by decide) (by omega) (by decide) dL_canPay_15 ?_
      refine v_goto (pc := 16) (tgt := 22) dL_canPay_16 (by decide) ?_
      refine v_iconst (pc := 22) (z := 0) dL_canPay_22 ?_
      exact v_iret (pc := 23) E (Or.inl ⟨rfl, 0, G1, hr, hq, rfl⟩) (Nat.le_of_ble_eq_true rfl) (Nat.le_of_ble_eq_true rfl) dL_canPay_23
    · skip
      have r1 : r = 1 := by have := hr01; omega
      subst r1
      refine v_lconst (pc := 10) (z := 1) rfl dL_canPay_10 ?_
      refine v_goto (pc := 11) (tgt := 15) dL_canPay_11 (by decide) ?_
      refine v_last (pc := 15) (N := 1) rfl rfl (by decide) (by omega) (by decide) dL_canPay_15 ?_
      refine v_goto (pc := 16) (tgt := 22) dL_canPay_16 (by decide) ?_
      refine v_iconst (pc := 22) (z := 0) dL_canPay_22 ?_
      exact v_iret (pc := 23) E (Or.inl ⟨rfl, 1, G1, hr, hq, rfl⟩) (Nat.le_of_ble_eq_true rfl) (Nat.le_of_ble_eq_true rfl) dL_canPay_23
  · skip
    have hE : e = eIA := hx.1
    rcases hE with rfl
    · skip
      refine v_catch (name := "java/lang/IllegalArgumentException") (pre := []) (x := { startPc := 0, endPc := 16, handlerPc := 19, catchType := 13 }) (suf := []) E rfl (fun z hz => by cases hz) (by decide) (by decide) wK_L_13 wX_IllegalArgumentException_IllegalArgumentException (fun q9 => ?_)
      show V γ g cL_canPay 4 RL (rmL 3 1 6) G1 (0 + 1) (0 + 6) 19 [some (vR g 0), some (vI a), some (vR g 119), none] [.ref q9]
      refine v_astore_n (pc := 19) (by decide) rfl dL_canPay_19 ?_
      refine v_iconst (pc := 20) (z := 1) dL_canPay_20 ?_
      exact v_iret (pc := 21) E (Or.inr ⟨0, eIA, rfl, hx, rfl⟩) (Nat.le_of_ble_eq_true rfl) (Nat.le_of_ble_eq_true rfl) dL_canPay_21
