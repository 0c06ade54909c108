-- calls of constructors
section NVK
variable {γ : gT} {g : GT} {A : Nat → Prop} {cc bs : ByteArray} {nL mL : Nat} {own : String} {rm rm' : Room} {ws : va_W} {k n : Nat} {pc idx : Nat} {L : List (Option Value)} {st rest : List Value} {Qq : Option Value → va_W → Prop} {y : MethodName} {as : List Value}
theorem n_run {mc ms : Nat} (hr : ∀ (p : Program) (l : Launch) (e : Env) (R : Room) (s : State) (m : MethodId) (args : Array Value) (below : List Frame) (meth : Method) (c : Code) (Q : State → Prop) (H : Heap) (locs : List Loc) (ls : Array Slot), CU (p, l, e, R, s, m, args, below, meth, c, Q) g A cc nL own rm → WN g A ws H → va_S A s.heap H locs → Lh ls nL L → ∃ a : Array Value, va_Run p l e R s m args below meth c H locs k n mc ms (F0 m pc ls st) rest (QcN g A Qq a) A)
    (kq : ∀ (v : Option Value) (w : va_W), Qq v w → NV γ g A cc nL own rm w (k + mc) (n + ms) (pc + 3) L (v.toList ++ rest)) : NV γ g A cc nL own rm ws k n pc L st := by
  obtain ⟨p, l, e, R, s, m, args, below, meth, c, Q⟩ := γ
  intro C H locs ls hP hS hL
  obtain ⟨a, hr1⟩ := hr p l e R s m args below meth c Q H locs ls C hP hS hL
  intro T hT X
  obtain ⟨v, st₀, t, T', L1, h0, X', hL1, e1, e2, ⟨⟨v', w, hv, hp, hb⟩, hF⟩, stp⟩ := hr1 T hT X
  cases hv
  obtain ⟨-, -, k3⟩ := vx_keep h0 e1 hS (fun q _ h => h) (fun q h => h) hL1 hF
  obtain ⟨t2, a1, b1⟩ := kq v w hp C T'.heap (locs ++ L1) ls (by rw [e1]; exact hb) k3 hL T' rfl X'
  exact ⟨t2, stp t2 a1, b1⟩
theorem n_callI {b : Nat} (hM : CtrN g A y bs mL none rm' (.ref b :: as) ws Qq) (O : MOk y bs mL none as.length) (hI : Cond.instanceMethod y ∈ WT) (hnm : y.name = "<init>") (hl : Cond.methodLink own idx y ∈ WT) (hR : RmOk rm' rm mL) (hf : k + rm'.cells ≤ rm.cells ∧ n + rm'.slots ≤ rm.slots) (hs : (rest.map fun v => v.category).sum ≤ 8) (hst : st = as.reverse ++ .ref b :: rest) (d : decode cc pc = .ok (.invokespecial idx, 3))
    (kq : ∀ (v : Option Value) (w : va_W), Qq v w → NV γ g A cc nL own rm w (k + rm'.cells) (n + rm'.slots) (pc + 3) L (v.toList ++ rest)) : NV γ g A cc nL own rm ws k n pc L st := by
  refine n_run (fun p l e R s m args below meth c0 Q H locs ls C hP hS hL => ?_) kq
  obtain ⟨hx, hb, hml, ho, hts, rfl, hG, hlk, rfl, hA1, hA2⟩ := C
  obtain ⟨o1, o2, o3, o4, o5⟩ := O
  refine ⟨(.ref b :: as).toArray, ?_⟩
  have cw := callB_of (R := R) (s := s) (args := args) (own := own) (index := idx) (mc := rm'.cells) (ms := rm'.slots) (rm := rm') as.length hts (wt_cons o1 wt_GoodIn) rfl rfl rfl (hts _ o2) (hts _ hl) ⟨o3, o4, o5⟩ hR
  exact va_runI (As := as) (rest := rest) ⟨hx, hb, hml, ho, hts⟩ hM ⟨cw, hnm, hts _ hI⟩ ⟨PcN_blind _ _ _ _, preN hG hP hS hA1 hA2⟩ rfl rfl hL.1 hst (lv_room hs) d hf
theorem n_callIN {b : Nat} {host : String} (hM : CtrN g A y bs mL none rm' (.ref b :: as) ws Qq) (O : MOk y bs mL none as.length) (hI : Cond.instanceMethod y ∈ WT) (hnm : y.name = "<init>") (hl : Cond.methodLinkNest own idx y host ∈ NT) (hR : RmOk rm' rm mL) (hf : k + rm'.cells ≤ rm.cells ∧ n + rm'.slots ≤ rm.slots) (hs : (rest.map fun v => v.category).sum ≤ 8) (hst : st = as.reverse ++ .ref b :: rest) (d : decode cc pc = .ok (.invokespecial idx, 3))
    (kq : ∀ (v : Option Value) (w : va_W), Qq v w → NV γ g A cc nL own rm w (k + rm'.cells) (n + rm'.slots) (pc + 3) L (v.toList ++ rest)) : NV γ g A cc nL own rm ws k n pc L st := by
  refine n_run (fun p l e R s m args below meth c0 Q H locs ls C hP hS hL => ?_) kq
  obtain ⟨hx, hb, hml, ho, hts, rfl, hG, hlk, rfl, hA1, hA2⟩ := C
  obtain ⟨o1, o2, o3⟩ := O
  refine ⟨(.ref b :: as).toArray, ?_⟩
  have cw := va_cnB (R := R) (s := s) (args := args) (own := own) (index := idx) (mc := rm'.cells) (ms := rm'.slots) (rm := rm') as.length hts (wt_cons o1 wt_GoodIn) rfl rfl rfl (hG.2.1 _ hl) (hts _ o2) o3 hR
  exact va_runIN (As := as) (rest := rest) ⟨hx, hb, hml, ho, hts⟩ hM ⟨cw, hnm, hts _ hI⟩ ⟨PcN_blind _ _ _ _, preN hG hP hS hA1 hA2⟩ rfl rfl hL.1 hst (lv_room hs) d hf
/-- a field that a superclass declares -/
theorem n_putR {ci N f q0 a : Nat} {cn ref : String} {T : u_T} {ty0 : Nat → FieldType} {fs : List Value} {ty : FieldType} {v : Value} (hc : cls[ci]? = some (cn, T, N)) (hin : ∀ w ∈ u_ws cn T N, w ∈ WT) (hty : ∀ k, k < N → parseFieldDescriptor (T k).2.2.1 = some (ty0 k)) (hnm : ∀ a, a < N → ∀ b, b < N → a ≠ b → (T a).2.1 ≠ (T b).2.1) (he : ws[q0]? = some (a, .inr (ci, fs))) (hf : f < N) (hl : Cond.fieldLink own idx ref (T f).2.1 (T f).2.2.1 ∈ WT) (hr : (T f).1 = ref) (hfin : (T f).2.2.2 = false) (hpt : parseFieldDescriptor (T f).2.2.1 = some ty) (hv : narrow ty v = v) (hft : fits ty v = true) (hlen : f < fs.length) (d : decode cc pc = .ok (.putfield idx, 3))
    (kk : NV γ g A cc nL own rm (ws.set q0 (a, .inr (ci, fs.set f v))) k n (pc + 3) L st) : NV γ g A cc nL own rm ws k n pc L (v :: .ref a :: st) := by
  obtain ⟨p, l, e, R, s, m, args, below, meth, c, Q⟩ := γ
  intro C H locs ls hP hS hL
  have hG : Gc g s s.heap := C.2.2.2.2.2.2.1
  exact va_put C.1 C.2.1 C.2.2.2.2.1 hin ty0 hty hnm C.2.2.2.1 hG.1 hP.1 hP.2 hS q0 (ci := ci) (fs := fs) he hc f hf (C.2.2.2.2.1 _ hl) (fun x h => by rw [hr] at h; exact h) hfin (ty := ty) (v := v) hpt hv hft hlen d (fun H1 locs1 hP1 hD1 hS1 => kk C H1 locs1 ls ⟨hP1, hD1⟩ hS1 hL)
theorem n_cs (hl : Cond.fieldLink own idx RJ0 "COMPACT_STRINGS" "Z" ∈ WT) (d : decode cc pc = .ok (.getstatic idx, 3)) (kk : NV γ g A cc nL own rm ws k n (pc + 3) L (vI 1 :: st)) : NV γ g A cc nL own rm ws k n pc L st := by
  obtain ⟨p, l, e, R, s, m, args, below, meth, c0, Q⟩ := γ
  intro C H locs ls hP hS hL
  have hG : Gc g s s.heap := C.2.2.2.2.2.2.1
  have hA := C.2.2.2.2.2.2.2.2.2.2
  exact va_gets C.1 C.2.1 (hG.2.2.2.2.1.2.2.2.1.narrow hA) hS C.2.2.2.1 (C.2.2.2.2.1 _ hl) (fun x h => h) d (kk C H locs ls hP hS hL)
end NVK
def dX1 : List Value := [.null, .int 0, .int 0, .int 0, .null, .null, .null]
def fX1 (q1 q2 q3 q4 : Nat) : List Value := [.ref q1, .int 0, .int 0, .int 0, .ref q2, .ref q3, .ref q4]
def aX1 (g : GT) (q1 q2 q3 q4 : Nat) : va_W := [(q1, .inl (gC g 2, 60, .inl fun _ => 0)), (q2, .inl (gC g 0, 60, .inl fun _ => 0)), (q3, .inl (gC g 0, 60, .inl fun _ => 0)), (q4, .inl (gC g 0, 60, .inl fun _ => 0))]
set_option maxHeartbeats 4000000 in
set_option maxRecDepth 100000 in
theorem n_X1_init {g : GT} {A : Nat → Prop} {ws : va_W} {p b : Nat} (hp : ws[p]? = some (b, .inr (1, dX1))) : CtrN g A yX1_init cX1_init 1 none (rmL 1 4 240) [.ref b] ws (fun v w => v = none ∧ ∃ q1 q2 q3 q4 : Nat, w = ws.set p (b, .inr (1, fX1 q1 q2 q3 q4)) ++ aX1 g q1 q2 q3 q4) := by
  have hl : p < ws.length := (List.getElem?_eq_some_iff.mp hp).1
  refine ctrN_of [some (.ref b)] (by decide) (Nat.le_of_ble_eq_true rfl) rfl (fun γ E hi => ?_)
  show NV γ g A cX1_init 1 RX1 (rmL 1 4 240) ws 0 0 0 [some (.ref b)] []
  refine n_ws (wsi hp) ?_
  refine n_aload_n (pc := 0) rfl dX1_init_0 ?_
  refine n_obj (pc := 1) wM_X1_3 (Nat.le_of_ble_eq_true rfl) (Nat.le_of_ble_eq_true rfl) dX1_init_1 ?_
  refine n_aload_n (pc := 4) rfl dX1_init_4 ?_
  refine n_bipush (pc := 5) (z := 60) rfl dX1_init_5 ?_
  refine n_newa (pc := 7) (m := 60) (at9 := .char) (ty := .char) (t0 := 2) (a0 := (60, .inl fun _ => 0)) rfl rfl (fun cA => rfl) (by decide) (Nat.le_of_ble_eq_true rfl) (Nat.le_of_ble_eq_true rfl) (by decide) (fun C h => by cases h) wA_176 dX1_init_7 (fun q1 => ?_)
  refine n_ws (ws' := ws.set p (b, .inr (1, dX1)) ++ [(q1, .inl (gC g 2, 60, .inl fun _ => 0))]) (by first | exact List.append_assoc _ _ _ | rfl) ?_
  refine n_putF (pc := 9) (ci := 1) (f := 0) (q0 := p) (fs := dX1) (ty := .array .char) hi rfl in_X1 tyX1_ok nmX1 (wsg hl) (by decide) wF_X1_9 rfl rfl (by decide +kernel) rfl rfl (Nat.le_of_ble_eq_true rfl) dX1_init_9 ?_
  refine n_ws (ws' := ws.set p (b, .inr (1, [.ref q1, .int 0, .int 0, .int 0, .null, .null, .null])) ++ [(q1, .inl (gC g 2, 60, .inl fun _ => 0))]) (wss hl) ?_
  refine n_aload_n (pc := 12) rfl dX1_init_12 ?_
  refine n_bipush (pc := 13) (z := 60) rfl dX1_init_13 ?_
  refine n_newa (pc := 15) (m := 60) (at9 := .int) (ty := .int) (t0 := 0) (a0 := (60, .inl fun _ => 0)) rfl rfl (fun cA => rfl) (by decide) (Nat.le_of_ble_eq_true rfl) (Nat.le_of_ble_eq_true rfl) (by decide) (fun C h => by cases h) wA_111 dX1_init_15 (fun q2 => ?_)
  refine n_ws (ws' := ws.set p (b, .inr (1, [.ref q1, .int 0, .int 0, .int 0, .null, .null, .null])) ++ [(q1, .inl (gC g 2, 60, .inl fun _ => 0)), (q2, .inl (gC g 0, 60, .inl fun _ => 0))]) (by first | exact List.append_assoc _ _ _ | rfl) ?_
  refine n_putF (pc := 17) (ci := 1) (f := 4) (q0 := p) (fs := [.ref q1, .int 0, .int 0, .int 0, .null, .null, .null]) (ty := .array .int) hi rfl in_X1 tyX1_ok nmX1 (wsg hl) (by decide) wF_X1_15 rfl rfl (by decide +kernel) rfl rfl (Nat.le_of_ble_eq_true rfl) dX1_init_17 ?_
  refine n_ws (ws' := ws.set p (b, .inr (1, [.ref q1, .int 0, .int 0, .int 0, .ref q2, .null, .null])) ++ [(q1, .inl (gC g 2, 60, .inl fun _ => 0)), (q2, .inl (gC g 0, 60, .inl fun _ => 0))]) (wss hl) ?_
  refine n_aload_n (pc := 20) rfl dX1_init_20 ?_
  refine n_bipush (pc := 21) (z := 60) rfl dX1_init_21 ?_
  refine n_newa (pc := 23) (m := 60) (at9 := .int) (ty := .int) (t0 := 0) (a0 := (60, .inl fun _ => 0)) rfl rfl (fun cA => rfl) (by decide) (Nat.le_of_ble_eq_true rfl) (Nat.le_of_ble_eq_true rfl) (by decide) (fun C h => by cases h) wA_111 dX1_init_23 (fun q3 => ?_)
  refine n_ws (ws' := ws.set p (b, .inr (1, [.ref q1, .int 0, .int 0, .int 0, .ref q2, .null, .null])) ++ [(q1, .inl (gC g 2, 60, .inl fun _ => 0)), (q2, .inl (gC g 0, 60, .inl fun _ => 0)), (q3, .inl (gC g 0, 60, .inl fun _ => 0))]) (by first | exact List.append_assoc _ _ _ | rfl) ?_
  refine n_putF (pc := 25) (ci := 1) (f := 5) (q0 := p) (fs := [.ref q1, .int 0, .int 0, .int 0, .ref q2, .null, .null]) (ty := .array .int) hi rfl in_X1 tyX1_ok nmX1 (wsg hl) (by decide) wF_X1_19 rfl rfl (by decide +kernel) rfl rfl (Nat.le_of_ble_eq_true rfl) dX1_init_25 ?_
  refine n_ws (ws' := ws.set p (b, .inr (1, [.ref q1, .int 0, .int 0, .int 0, .ref q2, .ref q3, .null])) ++ [(q1, .inl (gC g 2, 60, .inl fun _ => 0)), (q2, .inl (gC g 0, 60, .inl fun _ => 0)), (q3, .inl (gC g 0, 60, .inl fun _ => 0))]) (wss hl) ?_
  refine n_aload_n (pc := 28) rfl dX1_init_28 ?_
  refine n_bipush (pc := 29) (z := 60) rfl dX1_init_29 ?_
  refine n_newa (pc := 31) (m := 60) (at9 := .int) (ty := .int) (t0 := 0) (a0 := (60, .inl fun _ => 0)) rfl rfl (fun cA => rfl) (by decide) (Nat.le_of_ble_eq_true rfl) (Nat.le_of_ble_eq_true rfl) (by decide) (fun C h => by cases h) wA_111 dX1_init_31 (fun q4 => ?_)
  refine n_ws (ws' := ws.set p (b, .inr (1, [.ref q1, .int 0, .int 0, .int 0, .ref q2, .ref q3, .null])) ++ [(q1, .inl (gC g 2, 60, .inl fun _ => 0)), (q2, .inl (gC g 0, 60, .inl fun _ => 0)), (q3, .inl (gC g 0, 60, .inl fun _ => 0)), (q4, .inl (gC g 0, 60, .inl fun _ => 0))]) (by first | exact List.append_assoc _ _ _ | rfl) ?_
  refine n_putF (pc := 33) (ci := 1) (f := 6) (q0 := p) (fs := [.ref q1, .int 0, .int 0, .int 0, .ref q2, .ref q3, .null]) (ty := .array .int) hi rfl in_X1 tyX1_ok nmX1 (wsg hl) (by decide) wF_X1_22 rfl rfl (by decide +kernel) rfl rfl (Nat.le_of_ble_eq_true rfl) dX1_init_33 ?_
  refine n_ws (ws' := ws.set p (b, .inr (1, [.ref q1, .int 0, .int 0, .int 0, .ref q2, .ref q3, .ref q4])) ++ [(q1, .inl (gC g 2, 60, .inl fun _ => 0)), (q2, .inl (gC g 0, 60, .inl fun _ => 0)), (q3, .inl (gC g 0, 60, .inl fun _ => 0)), (q4, .inl (gC g 0, 60, .inl fun _ => 0))]) (wss hl) ?_
  exact n_vret (pc := 36) E ⟨rfl, q1, q2, q3, q4, rfl⟩ (Nat.le_of_ble_eq_true rfl) (Nat.le_of_ble_eq_true rfl) dX1_init_36
def dJ4 : List Value := [.null, .int 0, .int 0, .int 0]
set_option maxHeartbeats 4000000 in
set_option maxRecDepth 100000 in
theorem n_J5_init {g : GT} {A : Nat → Prop} {ws : va_W} {p b : Nat} (hp : ws[p]? = some (b, .inr (5, dJ4))) : CtrN g A yJ5_init_d00df cJ5_init_d00df 2 none (rmL 1 1 16) [.ref b, vI 16] ws (fun v w => v = none ∧ ∃ q : Nat, w = ws.set p (b, .inr (5, [.ref q, .int 0, .int 0, .int 0])) ++ [(q, .inl (gC g 6, 16, .inl fun _ => 0))]) := by
  have hl : p < ws.length := (List.getElem?_eq_some_iff.mp hp).1
  refine ctrN_of [some (.ref b), some (vI 16)] (by decide) (Nat.le_of_ble_eq_true rfl) rfl (fun γ E hi => ?_)
  show NV γ g A cJ5_init_d00df 2 RJ5 (rmL 1 1 16) ws 0 0 0 [some (.ref b), some (vI 16)] []
  refine n_ws (wsi hp) ?_
  refine n_aload_n (pc := 0) rfl dJ5_init_d00df_0 ?_
  refine n_obj (pc := 1) wM_J5_3 (Nat.le_of_ble_eq_true rfl) (Nat.le_of_ble_eq_true rfl) dJ5_init_d00df_1 ?_
  refine n_cs (pc := 4) wF_J5_18 dJ5_init_d00df_4 ?_
  refine n_if_eq (pc := 7) (tgt := 25) (by decide) dJ5_init_d00df_7 (by decide) (fun h => absurd h (by decide)) (fun _ => ?_)
  refine n_aload_n (pc := 10) rfl dJ5_init_d00df_10 ?_
  refine n_iload_n (pc := 11) rfl dJ5_init_d00df_11 ?_
  refine n_newa (pc := 12) (m := 16) (at9 := .byte) (ty := .byte) (t0 := 6) (a0 := (16, .inl fun _ => 0)) rfl rfl (fun cA => rfl) (by decide) (Nat.le_of_ble_eq_true rfl) (Nat.le_of_ble_eq_true rfl) (by decide) (fun C h => by cases h) wA_209 dJ5_init_d00df_12 (fun q => ?_)
  refine n_ws (ws' := ws.set p (b, .inr (5, dJ4)) ++ [(q, .inl (gC g 6, 16, .inl fun _ => 0))]) (by first | exact List.append_assoc _ _ _ | rfl) ?_
  refine n_putR (pc := 14) (ci := 5) (f := 0) (q0 := p) (fs := dJ4) (ty := .array .byte) rfl in_J4 tyJ4_ok nmJ4 (wsg hl) (by decide) wF_J5_15 rfl rfl (by decide +kernel) rfl rfl (Nat.le_of_ble_eq_true rfl) dJ5_init_d00df_14 ?_
  refine n_ws (ws' := ws.set p (b, .inr (5, [.ref q, .int 0, .int 0, .int 0])) ++ [(q, .inl (gC g 6, 16, .inl fun _ => 0))]) (wss hl) ?_
  refine n_aload_n (pc := 17) rfl dJ5_init_d00df_17 ?_
  refine n_iconst (pc := 18) (z := 0) dJ5_init_d00df_18 ?_
  refine n_putR (pc := 19) (ci := 5) (f := 1) (q0 := p) (fs := [.ref q, .int 0, .int 0, .int 0]) (ty := .byte) rfl in_J4 tyJ4_ok nmJ4 (wsg hl) (by decide) wF_J5_22 rfl rfl (by decide +kernel) rfl rfl (Nat.le_of_ble_eq_true rfl) dJ5_init_d00df_19 ?_
  refine n_ws (ws' := ws.set p (b, .inr (5, [.ref q, .int 0, .int 0, .int 0])) ++ [(q, .inl (gC g 6, 16, .inl fun _ => 0))]) (wss hl) ?_
  refine n_goto (pc := 22) (tgt := 38) dJ5_init_d00df_22 (by decide) ?_
  exact n_vret (pc := 38) E ⟨rfl, q, rfl⟩ (Nat.le_of_ble_eq_true rfl) (Nat.le_of_ble_eq_true rfl) dJ5_init_d00df_38
theorem mok_J5_init : MOk yJ5_init_d00df cJ5_init_d00df 2 none 1 := ⟨wC_J5_init_d00df, wN_J5, by decide, by decide, by decide +kernel⟩
set_option maxHeartbeats 4000000 in
theorem n_J4_init {g : GT} {A : Nat → Prop} {ws : va_W} {p b : Nat} (hp : ws[p]? = some (b, .inr (5, dJ4))) : CtrN g A yJ4_init_da8c8 cJ4_init_da8c8 1 none (rmL 2 1 16) [.ref b] ws (fun v w => v = none ∧ ∃ q : Nat, w = ws.set p (b, .inr (5, [.ref q, .int 0, .int 0, .int 0])) ++ [(q, .inl (gC g 6, 16, .inl fun _ => 0))]) := by
  refine ctrN_of [some (.ref b)] (by decide) (Nat.le_of_ble_eq_true rfl) rfl (fun γ E hi => ?_)
  show NV γ g A cJ4_init_da8c8 1 RJ4 (rmL 2 1 16) ws 0 0 0 [some (.ref b)] []
  refine n_aload_n (pc := 0) rfl dJ4_init_da8c8_0 ?_
  refine n_bipush (pc := 1) (z := 16) rfl dJ4_init_da8c8_1 ?_
  refine n_callI (pc := 3) (rest := []) (n_J5_init hp) mok_J5_init wI_J5_init_d00df rfl wM_J4_1 (rmOk (by decide) (by decide)) ⟨Nat.le_of_ble_eq_true rfl, Nat.le_of_ble_eq_true rfl⟩ (Nat.le_of_ble_eq_true rfl) rfl dJ4_init_da8c8_3 (fun v w hq => ?_)
  obtain ⟨rfl, q, rfl⟩ := hq
  refine n_stk (st' := []) rfl ?_
  exact n_vret (pc := 6) E ⟨rfl, q, rfl⟩ (Nat.le_of_ble_eq_true rfl) (Nat.le_of_ble_eq_true rfl) dJ4_init_da8c8_6
