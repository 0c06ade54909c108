-- the model's constructor
theorem wlg {W : va_W} {x : Nat × va_E} : (W ++ [x])[W.length]? = some x := by
  rw [List.getElem?_append_right (Nat.le_refl _), Nat.sub_self]
  rfl
theorem wls {W : va_W} {x y : Nat × va_E} : (W ++ [x]).set W.length y = W ++ [y] := by
  rw [List.set_append_right _ _ (Nat.le_refl _), Nat.sub_self]
  rfl
section NVS
variable {γ : gT} {g : GT} {A : Nat → Prop} {cc : ByteArray} {nL : Nat} {own : String} {rm : Room} {W : va_W} {k n : Nat} {pc : Nat} {L : List (Option Value)} {st : List Value}
theorem n_cast {a N : Nat} {f : Nat → Int32} {z x : Int} (hz : 0 ≤ z ∧ z < (N : Int)) (hN : N < 2147483648) (hx : vp_nar .char (Int32.ofInt x) = Int32.ofInt x) (d : decode cc pc = .ok (.castore, 1)) (kk : NV γ g A cc nL own rm (W ++ [(a, .inl (gC g 2, N, .inl (upd f z.toNat (Int32.ofInt x))))]) k n (pc + 1) L st) : NV γ g A cc nL own rm (W ++ [(a, .inl (gC g 2, N, .inl f))]) k n pc L (vI x :: vI z :: .ref a :: st) := by
  obtain ⟨p, l, e, R, s, m, args, below, meth, c, Q⟩ := γ
  intro C H locs ls hP hS hL
  have hG : Gc g s s.heap := C.2.2.2.2.2.2.1
  refine va_cast C.1 C.2.1 hG.1 hP.1 hP.2 hS W.length 2 (n := N) (f := f) wlg rfl (i32_in hz.1 hz.2 hN) d (fun H1 locs1 hP1 hD1 hS1 => ?_)
  rw [wls, i32_nat hz.1 (by omega), hx] at hP1 hD1
  exact kk C H1 locs1 ls ⟨hP1, hD1⟩ hS1 hL
theorem n_iast {a N : Nat} {f : Nat → Int32} {z x : Int} (hz : 0 ≤ z ∧ z < (N : Int)) (hN : N < 2147483648) (d : decode cc pc = .ok (.iastore, 1)) (kk : NV γ g A cc nL own rm (W ++ [(a, .inl (gC g 0, N, .inl (upd f z.toNat (Int32.ofInt x))))]) k n (pc + 1) L st) : NV γ g A cc nL own rm (W ++ [(a, .inl (gC g 0, N, .inl f))]) k n pc L (vI x :: vI z :: .ref a :: st) := by
  obtain ⟨p, l, e, R, s, m, args, below, meth, c, Q⟩ := γ
  intro C H locs ls hP hS hL
  have hG : Gc g s s.heap := C.2.2.2.2.2.2.1
  refine va_iast C.1 C.2.1 hG.1 hP.1 hP.2 hS W.length 0 (n := N) (f := f) wlg rfl (i32_in hz.1 hz.2 hN) d (fun H1 locs1 hP1 hD1 hS1 => ?_)
  rw [wls, i32_nat hz.1 (by omega)] at hP1 hD1
  exact kk C H1 locs1 ls ⟨hP1, hD1⟩ hS1 hL
end NVS
/-- a row filled from its beginning on -/
def fillF (c : List Int) : Nat → Nat → Int32
  | 0 => fun _ => 0
  | k + 1 => upd (fillF c k) k (Int32.ofInt (c.getD k 0))
def lq10 : List Int := [100, 105, 101, 32, 115, 104, 97, 114, 112, 101, 110, 32, 108, 101, 97, 102, 32, 115, 116, 114, 105, 107, 101, 32, 121, 101, 97, 114, 114, 101, 99, 97, 108, 108, 32, 112, 97, 121, 32]
def lq11 : List Int := [0, 4, 12, 17, 24, 28, 35, 39]
def dX4 : List Value := [.null, .null, .null, .int 0, .null, .int 0, .int 0, .int 0, .int 0, .null, .int 0, .null, .null, .null, .null, .int 0, .null, .null, .null, .int 0, .int 0, .int 0, .int 0]
def fX4 (q1 q2 q3 q4 q5 q6 q7 q8 q9 q10 q11 q12 : Nat) : List Value := [.ref q1, .ref q2, .ref q3, .int 0, .ref q4, .int 0, vI (-1), vI (-1), .int 0, .ref q5, .int 0, .ref q6, .ref q7, .ref q8, .ref q9, .int 0, .ref q10, .ref q11, .ref q12, .int 0, .int 0, .int 0, .int 0]
def aX4 (g : GT) (q1 q2 q3 q4 q5 q6 q7 q8 q9 q10 q11 q12 : Nat) : va_W := [(q1, .inl (gC g 0, 144, .inl fun _ => 0)), (q2, .inl (gC g 0, 144, .inl fun _ => 0)), (q3, .inl (gC g 0, 144, .inl fun _ => 0)), (q4, .inl (gC g 0, 1152, .inl fun _ => 0)), (q5, .inl (gC g 0, 60, .inl fun _ => 0)), (q6, .inl (gC g 0, 5, .inl fun _ => 0)), (q7, .inl (gC g 0, 600, .inl fun _ => 0)), (q8, .inl (gC g 0, 5, .inl fun _ => 0)), (q9, .inl (gC g 0, 80, .inl fun _ => 0)), (q10, .inl (gC g 2, 39, .inl (fillF lq10 39))), (q11, .inl (gC g 0, 8, .inl (fillF lq11 8))), (q12, .inl (gC g 0, 183, .inl fun _ => 0))]
set_option maxHeartbeats 8000000 in
set_option maxRecDepth 100000 in
theorem n_X4_init {g : GT} {A : Nat → Prop} {ws : va_W} {p b : Nat} (hp : ws[p]? = some (b, .inr (4, dX4))) : CtrN g A yX4_init cX4_init 1 none (rmL 1 12 2564) [.ref b] ws (fun v w => v = none ∧ ∃ q1 q2 q3 q4 q5 q6 q7 q8 q9 q10 q11 q12 : Nat, w = ws.set p (b, .inr (4, fX4 q1 q2 q3 q4 q5 q6 q7 q8 q9 q10 q11 q12)) ++ aX4 g q1 q2 q3 q4 q5 q6 q7 q8 q9 q10 q11 q12) := by
  have hl : p < ws.length := (List.getElem?_eq_some_iff.mp hp).1
  refine ctrN_of [some (.ref b)] (by decide) (Nat.le_of_ble_eq_true rfl) rfl (fun γ E hi => ?_)
  show NV γ g A cX4_init 1 RX4 (rmL 1 12 2564) ws 0 0 0 [some (.ref b)] []
  refine n_ws (wsi hp) ?_
  refine n_aload_n (pc := 0) rfl dX4_init_0 ?_
  refine n_obj (pc := 1) wM_X4_1 (Nat.le_of_ble_eq_true rfl) (Nat.le_of_ble_eq_true rfl) dX4_init_1 ?_
  refine n_aload_n (pc := 4) rfl dX4_init_4 ?_
  refine n_sipush (pc := 5) (z := 144) rfl dX4_init_5 ?_
  refine n_newa (pc := 8) (m := 144) (at9 := .int) (ty := .int) (t0 := 0) (a0 := (144, .inl fun _ => 0)) rfl rfl (fun cA => rfl) (by decide) (Nat.le_of_ble_eq_true rfl) (Nat.le_of_ble_eq_true rfl) (by decide) (fun C h => by cases h) wA_111 dX4_init_8 (fun q1 => ?_)
  refine n_ws (ws' := ws.set p (b, .inr (4, dX4)) ++ [(q1, .inl (gC g 0, 144, .inl fun _ => 0))]) (by first | exact List.append_assoc _ _ _ | rfl) ?_
  refine n_putF (pc := 10) (ci := 4) (f := 0) (q0 := p) (fs := dX4) (ty := .array .int) hi rfl in_X4 tyX4_ok nmX4 (wsg hl) (by decide) wF_X4_9 rfl rfl (by decide +kernel) rfl rfl (Nat.le_of_ble_eq_true rfl) dX4_init_10 ?_
  refine n_ws (ws' := ws.set p (b, .inr (4, [.ref q1, .null, .null, .int 0, .null, .int 0, .int 0, .int 0, .int 0, .null, .int 0, .null, .null, .null, .null, .int 0, .null, .null, .null, .int 0, .int 0, .int 0, .int 0])) ++ [(q1, .inl (gC g 0, 144, .inl fun _ => 0))]) (wss hl) ?_
  refine n_aload_n (pc := 13) rfl dX4_init_13 ?_
  refine n_sipush (pc := 14) (z := 144) rfl dX4_init_14 ?_
  refine n_newa (pc := 17) (m := 144) (at9 := .int) (ty := .int) (t0 := 0) (a0 := (144, .inl fun _ => 0)) rfl rfl (fun cA => rfl) (by decide) (Nat.le_of_ble_eq_true rfl) (Nat.le_of_ble_eq_true rfl) (by decide) (fun C h => by cases h) wA_111 dX4_init_17 (fun q2 => ?_)
  refine n_ws (ws' := ws.set p (b, .inr (4, [.ref q1, .null, .null, .int 0, .null, .int 0, .int 0, .int 0, .int 0, .null, .int 0, .null, .null, .null, .null, .int 0, .null, .null, .null, .int 0, .int 0, .int 0, .int 0])) ++ [(q1, .inl (gC g 0, 144, .inl fun _ => 0)), (q2, .inl (gC g 0, 144, .inl fun _ => 0))]) (by first | exact List.append_assoc _ _ _ | rfl) ?_
  refine n_putF (pc := 19) (ci := 4) (f := 1) (q0 := p) (fs := [.ref q1, .null, .null, .int 0, .null, .int 0, .int 0, .int 0, .int 0, .null, .int 0, .null, .null, .null, .null, .int 0, .null, .null, .null, .int 0, .int 0, .int 0, .int 0]) (ty := .array .int) hi rfl in_X4 tyX4_ok nmX4 (wsg hl) (by decide) wF_X4_13 rfl rfl (by decide +kernel) rfl rfl (Nat.le_of_ble_eq_true rfl) dX4_init_19 ?_
  refine n_ws (ws' := ws.set p (b, .inr (4, [.ref q1, .ref q2, .null, .int 0, .null, .int 0, .int 0, .int 0, .int 0, .null, .int 0, .null, .null, .null, .null, .int 0, .null, .null, .null, .int 0, .int 0, .int 0, .int 0])) ++ [(q1, .inl (gC g 0, 144, .inl fun _ => 0)), (q2, .inl (gC g 0, 144, .inl fun _ => 0))]) (wss hl) ?_
  refine n_aload_n (pc := 22) rfl dX4_init_22 ?_
  refine n_sipush (pc := 23) (z := 144) rfl dX4_init_23 ?_
  refine n_newa (pc := 26) (m := 144) (at9 := .int) (ty := .int) (t0 := 0) (a0 := (144, .inl fun _ => 0)) rfl rfl (fun cA => rfl) (by decide) (Nat.le_of_ble_eq_true rfl) (Nat.le_of_ble_eq_true rfl) (by decide) (fun C h => by cases h) wA_111 dX4_init_26 (fun q3 => ?_)
  refine n_ws (ws' := ws.set p (b, .inr (4, [.ref q1, .ref q2, .null, .int 0, .null, .int 0, .int 0, .int 0, .int 0, .null, .int 0, .null, .null, .null, .null, .int 0, .null, .null, .null, .int 0, .int 0, .int 0, .int 0])) ++ [(q1, .inl (gC g 0, 144, .inl fun _ => 0)), (q2, .inl (gC g 0, 144, .inl fun _ => 0)), (q3, .inl (gC g 0, 144, .inl fun _ => 0))]) (by first | exact List.append_assoc _ _ _ | rfl) ?_
  refine n_putF (pc := 28) (ci := 4) (f := 2) (q0 := p) (fs := [.ref q1, .ref q2, .null, .int 0, .null, .int 0, .int 0, .int 0, .int 0, .null, .int 0, .null, .null, .null, .null, .int 0, .null, .null, .null, .int 0, .int 0, .int 0, .int 0]) (ty := .array .int) hi rfl in_X4 tyX4_ok nmX4 (wsg hl) (by decide) wF_X4_16 rfl rfl (by decide +kernel) rfl rfl (Nat.le_of_ble_eq_true rfl) dX4_init_28 ?_
  refine n_ws (ws' := ws.set p (b, .inr (4, [.ref q1, .ref q2, .ref q3, .int 0, .null, .int 0, .int 0, .int 0, .int 0, .null, .int 0, .null, .null, .null, .null, .int 0, .null, .null, .null, .int 0, .int 0, .int 0, .int 0])) ++ [(q1, .inl (gC g 0, 144, .inl fun _ => 0)), (q2, .inl (gC g 0, 144, .inl fun _ => 0)), (q3, .inl (gC g 0, 144, .inl fun _ => 0))]) (wss hl) ?_
  refine n_aload_n (pc := 31) rfl dX4_init_31 ?_
  refine n_sipush (pc := 32) (z := 1152) rfl dX4_init_32 ?_
  refine n_newa (pc := 35) (m := 1152) (at9 := .int) (ty := .int) (t0 := 0) (a0 := (1152, .inl fun _ => 0)) rfl rfl (fun cA => rfl) (by decide) (Nat.le_of_ble_eq_true rfl) (Nat.le_of_ble_eq_true rfl) (by decide) (fun C h => by cases h) wA_111 dX4_init_35 (fun q4 => ?_)
  refine n_ws (ws' := ws.set p (b, .inr (4, [.ref q1, .ref q2, .ref q3, .int 0, .null, .int 0, .int 0, .int 0, .int 0, .null, .int 0, .null, .null, .null, .null, .int 0, .null, .null, .null, .int 0, .int 0, .int 0, .int 0])) ++ [(q1, .inl (gC g 0, 144, .inl fun _ => 0)), (q2, .inl (gC g 0, 144, .inl fun _ => 0)), (q3, .inl (gC g 0, 144, .inl fun _ => 0)), (q4, .inl (gC g 0, 1152, .inl fun _ => 0))]) (by first | exact List.append_assoc _ _ _ | rfl) ?_
  refine n_putF (pc := 37) (ci := 4) (f := 4) (q0 := p) (fs := [.ref q1, .ref q2, .ref q3, .int 0, .null, .int 0, .int 0, .int 0, .int 0, .null, .int 0, .null, .null, .null, .null, .int 0, .null, .null, .null, .int 0, .int 0, .int 0, .int 0]) (ty := .array .int) hi rfl in_X4 tyX4_ok nmX4 (wsg hl) (by decide) wF_X4_19 rfl rfl (by decide +kernel) rfl rfl (Nat.le_of_ble_eq_true rfl) dX4_init_37 ?_
  refine n_ws (ws' := ws.set p (b, .inr (4, [.ref q1, .ref q2, .ref q3, .int 0, .ref q4, .int 0, .int 0, .int 0, .int 0, .null, .int 0, .null, .null, .null, .null, .int 0, .null, .null, .null, .int 0, .int 0, .int 0, .int 0])) ++ [(q1, .inl (gC g 0, 144, .inl fun _ => 0)), (q2, .inl (gC g 0, 144, .inl fun _ => 0)), (q3, .inl (gC g 0, 144, .inl fun _ => 0)), (q4, .inl (gC g 0, 1152, .inl fun _ => 0))]) (wss hl) ?_
  refine n_aload_n (pc := 40) rfl dX4_init_40 ?_
  refine n_iconst (pc := 41) (z := (-1)) dX4_init_41 ?_
  refine n_put (pc := 42) (ref := RX4) (ci := 4) (f := 6) (q0 := p) (fs := [.ref q1, .ref q2, .ref q3, .int 0, .ref q4, .int 0, .int 0, .int 0, .int 0, .null, .int 0, .null, .null, .null, .null, .int 0, .null, .null, .null, .int 0, .int 0, .int 0, .int 0]) (ty := .int) rfl in_X4 tyX4_ok nmX4 (wsg hl) (by decide) wF_X4_22 rfl rfl (by decide +kernel) rfl rfl (Nat.le_of_ble_eq_true rfl) dX4_init_42 ?_
  refine n_ws (ws' := ws.set p (b, .inr (4, [.ref q1, .ref q2, .ref q3, .int 0, .ref q4, .int 0, vI (-1), .int 0, .int 0, .null, .int 0, .null, .null, .null, .null, .int 0, .null, .null, .null, .int 0, .int 0, .int 0, .int 0])) ++ [(q1, .inl (gC g 0, 144, .inl fun _ => 0)), (q2, .inl (gC g 0, 144, .inl fun _ => 0)), (q3, .inl (gC g 0, 144, .inl fun _ => 0)), (q4, .inl (gC g 0, 1152, .inl fun _ => 0))]) (wss hl) ?_
  refine n_aload_n (pc := 45) rfl dX4_init_45 ?_
  refine n_iconst (pc := 46) (z := (-1)) dX4_init_46 ?_
  refine n_put (pc := 47) (ref := RX4) (ci := 4) (f := 7) (q0 := p) (fs := [.ref q1, .ref q2, .ref q3, .int 0, .ref q4, .int 0, vI (-1), .int 0, .int 0, .null, .int 0, .null, .null, .null, .null, .int 0, .null, .null, .null, .int 0, .int 0, .int 0, .int 0]) (ty := .int) rfl in_X4 tyX4_ok nmX4 (wsg hl) (by decide) wF_X4_26 rfl rfl (by decide +kernel) rfl rfl (Nat.le_of_ble_eq_true rfl) dX4_init_47 ?_
  refine n_ws (ws' := ws.set p (b, .inr (4, [.ref q1, .ref q2, .ref q3, .int 0, .ref q4, .int 0, vI (-1), vI (-1), .int 0, .null, .int 0, .null, .null, .null, .null, .int 0, .null, .null, .null, .int 0, .int 0, .int 0, .int 0])) ++ [(q1, .inl (gC g 0, 144, .inl fun _ => 0)), (q2, .inl (gC g 0, 144, .inl fun _ => 0)), (q3, .inl (gC g 0, 144, .inl fun _ => 0)), (q4, .inl (gC g 0, 1152, .inl fun _ => 0))]) (wss hl) ?_
  refine n_aload_n (pc := 50) rfl dX4_init_50 ?_
  refine n_bipush (pc := 51) (z := 60) rfl dX4_init_51 ?_
  refine n_newa (pc := 53) (m := 60) (at9 := .int) (ty := .int) (t0 := 0) (a0 := (60, .inl fun _ => 0)) rfl rfl (fun cA => rfl) (by decide) (Nat.le_of_ble_eq_true rfl) (Nat.le_of_ble_eq_true rfl) (by decide) (fun C h => by cases h) wA_111 dX4_init_53 (fun q5 => ?_)
  refine n_ws (ws' := ws.set p (b, .inr (4, [.ref q1, .ref q2, .ref q3, .int 0, .ref q4, .int 0, vI (-1), vI (-1), .int 0, .null, .int 0, .null, .null, .null, .null, .int 0, .null, .null, .null, .int 0, .int 0, .int 0, .int 0])) ++ [(q1, .inl (gC g 0, 144, .inl fun _ => 0)), (q2, .inl (gC g 0, 144, .inl fun _ => 0)), (q3, .inl (gC g 0, 144, .inl fun _ => 0)), (q4, .inl (gC g 0, 1152, .inl fun _ => 0)), (q5, .inl (gC g 0, 60, .inl fun _ => 0))]) (by first | exact List.append_assoc _ _ _ | rfl) ?_
  refine n_putF (pc := 55) (ci := 4) (f := 9) (q0 := p) (fs := [.ref q1, .ref q2, .ref q3, .int 0, .ref q4, .int 0, vI (-1), vI (-1), .int 0, .null, .int 0, .null, .null, .null, .null, .int 0, .null, .null, .null, .int 0, .int 0, .int 0, .int 0]) (ty := .array .int) hi rfl in_X4 tyX4_ok nmX4 (wsg hl) (by decide) wF_X4_29 rfl rfl (by decide +kernel) rfl rfl (Nat.le_of_ble_eq_true rfl) dX4_init_55 ?_
  refine n_ws (ws' := ws.set p (b, .inr (4, [.ref q1, .ref q2, .ref q3, .int 0, .ref q4, .int 0, vI (-1), vI (-1), .int 0, .ref q5, .int 0, .null, .null, .null, .null, .int 0, .null, .null, .null, .int 0, .int 0, .int 0, .int 0])) ++ [(q1, .inl (gC g 0, 144, .inl fun _ => 0)), (q2, .inl (gC g 0, 144, .inl fun _ => 0)), (q3, .inl (gC g 0, 144, .inl fun _ => 0)), (q4, .inl (gC g 0, 1152, .inl fun _ => 0)), (q5, .inl (gC g 0, 60, .inl fun _ => 0))]) (wss hl) ?_
  refine n_aload_n (pc := 58) rfl dX4_init_58 ?_
  refine n_iconst (pc := 59) (z := 5) dX4_init_59 ?_
  refine n_newa (pc := 60) (m := 5) (at9 := .int) (ty := .int) (t0 := 0) (a0 := (5, .inl fun _ => 0)) rfl rfl (fun cA => rfl) (by decide) (Nat.le_of_ble_eq_true rfl) (Nat.le_of_ble_eq_true rfl) (by decide) (fun C h => by cases h) wA_111 dX4_init_60 (fun q6 => ?_)
  refine n_ws (ws' := ws.set p (b, .inr (4, [.ref q1, .ref q2, .ref q3, .int 0, .ref q4, .int 0, vI (-1), vI (-1), .int 0, .ref q5, .int 0, .null, .null, .null, .null, .int 0, .null, .null, .null, .int 0, .int 0, .int 0, .int 0])) ++ [(q1, .inl (gC g 0, 144, .inl fun _ => 0)), (q2, .inl (gC g 0, 144, .inl fun _ => 0)), (q3, .inl (gC g 0, 144, .inl fun _ => 0)), (q4, .inl (gC g 0, 1152, .inl fun _ => 0)), (q5, .inl (gC g 0, 60, .inl fun _ => 0)), (q6, .inl (gC g 0, 5, .inl fun _ => 0))]) (by first | exact List.append_assoc _ _ _ | rfl) ?_
  refine n_putF (pc := 62) (ci := 4) (f := 11) (q0 := p) (fs := [.ref q1, .ref q2, .ref q3, .int 0, .ref q4, .int 0, vI (-1), vI (-1), .int 0, .ref q5, .int 0, .null, .null, .null, .null, .int 0, .null, .null, .null, .int 0, .int 0, .int 0, .int 0]) (ty := .array .int) hi rfl in_X4 tyX4_ok nmX4 (wsg hl) (by decide) wF_X4_32 rfl rfl (by decide +kernel) rfl rfl (Nat.le_of_ble_eq_true rfl) dX4_init_62 ?_
  refine n_ws (ws' := ws.set p (b, .inr (4, [.ref q1, .ref q2, .ref q3, .int 0, .ref q4, .int 0, vI (-1), vI (-1), .int 0, .ref q5, .int 0, .ref q6, .null, .null, .null, .int 0, .null, .null, .null, .int 0, .int 0, .int 0, .int 0])) ++ [(q1, .inl (gC g 0, 144, .inl fun _ => 0)), (q2, .inl (gC g 0, 144, .inl fun _ => 0)), (q3, .inl (gC g 0, 144, .inl fun _ => 0)), (q4, .inl (gC g 0, 1152, .inl fun _ => 0)), (q5, .inl (gC g 0, 60, .inl fun _ => 0)), (q6, .inl (gC g 0, 5, .inl fun _ => 0))]) (wss hl) ?_
  refine n_aload_n (pc := 65) rfl dX4_init_65 ?_
  refine n_sipush (pc := 66) (z := 600) rfl dX4_init_66 ?_
  refine n_newa (pc := 69) (m := 600) (at9 := .int) (ty := .int) (t0 := 0) (a0 := (600, .inl fun _ => 0)) rfl rfl (fun cA => rfl) (by decide) (Nat.le_of_ble_eq_true rfl) (Nat.le_of_ble_eq_true rfl) (by decide) (fun C h => by cases h) wA_111 dX4_init_69 (fun q7 => ?_)
  refine n_ws (ws' := ws.set p (b, .inr (4, [.ref q1, .ref q2, .ref q3, .int 0, .ref q4, .int 0, vI (-1), vI (-1), .int 0, .ref q5, .int 0, .ref q6, .null, .null, .null, .int 0, .null, .null, .null, .int 0, .int 0, .int 0, .int 0])) ++ [(q1, .inl (gC g 0, 144, .inl fun _ => 0)), (q2, .inl (gC g 0, 144, .inl fun _ => 0)), (q3, .inl (gC g 0, 144, .inl fun _ => 0)), (q4, .inl (gC g 0, 1152, .inl fun _ => 0)), (q5, .inl (gC g 0, 60, .inl fun _ => 0)), (q6, .inl (gC g 0, 5, .inl fun _ => 0)), (q7, .inl (gC g 0, 600, .inl fun _ => 0))]) (by first | exact List.append_assoc _ _ _ | rfl) ?_
  refine n_putF (pc := 71) (ci := 4) (f := 12) (q0 := p) (fs := [.ref q1, .ref q2, .ref q3, .int 0, .ref q4, .int 0, vI (-1), vI (-1), .int 0, .ref q5, .int 0, .ref q6, .null, .null, .null, .int 0, .null, .null, .null, .int 0, .int 0, .int 0, .int 0]) (ty := .array .int) hi rfl in_X4 tyX4_ok nmX4 (wsg hl) (by decide) wF_X4_35 rfl rfl (by decide +kernel) rfl rfl (Nat.le_of_ble_eq_true rfl) dX4_init_71 ?_
  refine n_ws (ws' := ws.set p (b, .inr (4, [.ref q1, .ref q2, .ref q3, .int 0, .ref q4, .int 0, vI (-1), vI (-1), .int 0, .ref q5, .int 0, .ref q6, .ref q7, .null, .null, .int 0, .null, .null, .null, .int 0, .int 0, .int 0, .int 0])) ++ [(q1, .inl (gC g 0, 144, .inl fun _ => 0)), (q2, .inl (gC g 0, 144, .inl fun _ => 0)), (q3, .inl (gC g 0, 144, .inl fun _ => 0)), (q4, .inl (gC g 0, 1152, .inl fun _ => 0)), (q5, .inl (gC g 0, 60, .inl fun _ => 0)), (q6, .inl (gC g 0, 5, .inl fun _ => 0)), (q7, .inl (gC g 0, 600, .inl fun _ => 0))]) (wss hl) ?_
  refine n_aload_n (pc := 74) rfl dX4_init_74 ?_
  refine n_iconst (pc := 75) (z := 5) dX4_init_75 ?_
  refine n_newa (pc := 76) (m := 5) (at9 := .int) (ty := .int) (t0 := 0) (a0 := (5, .inl fun _ => 0)) rfl rfl (fun cA => rfl) (by decide) (Nat.le_of_ble_eq_true rfl) (Nat.le_of_ble_eq_true rfl) (by decide) (fun C h => by cases h) wA_111 dX4_init_76 (fun q8 => ?_)
  refine n_ws (ws' := ws.set p (b, .inr (4, [.ref q1, .ref q2, .ref q3, .int 0, .ref q4, .int 0, vI (-1), vI (-1), .int 0, .ref q5, .int 0, .ref q6, .ref q7, .null, .null, .int 0, .null, .null, .null, .int 0, .int 0, .int 0, .int 0])) ++ [(q1, .inl (gC g 0, 144, .inl fun _ => 0)), (q2, .inl (gC g 0, 144, .inl fun _ => 0)), (q3, .inl (gC g 0, 144, .inl fun _ => 0)), (q4, .inl (gC g 0, 1152, .inl fun _ => 0)), (q5, .inl (gC g 0, 60, .inl fun _ => 0)), (q6, .inl (gC g 0, 5, .inl fun _ => 0)), (q7, .inl (gC g 0, 600, .inl fun _ => 0)), (q8, .inl (gC g 0, 5, .inl fun _ => 0))]) (by first | exact List.append_assoc _ _ _ | rfl) ?_
  refine n_putF (pc := 78) (ci := 4) (f := 13) (q0 := p) (fs := [.ref q1, .ref q2, .ref q3, .int 0, .ref q4, .int 0, vI (-1), vI (-1), .int 0, .ref q5, .int 0, .ref q6, .ref q7, .null, .null, .int 0, .null, .null, .null, .int 0, .int 0, .int 0, .int 0]) (ty := .array .int) hi rfl in_X4 tyX4_ok nmX4 (wsg hl) (by decide) wF_X4_38 rfl rfl (by decide +kernel) rfl rfl (Nat.le_of_ble_eq_true rfl) dX4_init_78 ?_
  refine n_ws (ws' := ws.set p (b, .inr (4, [.ref q1, .ref q2, .ref q3, .int 0, .ref q4, .int 0, vI (-1), vI (-1), .int 0, .ref q5, .int 0, .ref q6, .ref q7, .ref q8, .null, .int 0, .null, .null, .null, .int 0, .int 0, .int 0, .int 0])) ++ [(q1, .inl (gC g 0, 144, .inl fun _ => 0)), (q2, .inl (gC g 0, 144, .inl fun _ => 0)), (q3, .inl (gC g 0, 144, .inl fun _ => 0)), (q4, .inl (gC g 0, 1152, .inl fun _ => 0)), (q5, .inl (gC g 0, 60, .inl fun _ => 0)), (q6, .inl (gC g 0, 5, .inl fun _ => 0)), (q7, .inl (gC g 0, 600, .inl fun _ => 0)), (q8, .inl (gC g 0, 5, .inl fun _ => 0))]) (wss hl) ?_
  refine n_aload_n (pc := 81) rfl dX4_init_81 ?_
  refine n_bipush (pc := 82) (z := 80) rfl dX4_init_82 ?_
  refine n_newa (pc := 84) (m := 80) (at9 := .int) (ty := .int) (t0 := 0) (a0 := (80, .inl fun _ => 0)) rfl rfl (fun cA => rfl) (by decide) (Nat.le_of_ble_eq_true rfl) (Nat.le_of_ble_eq_true rfl) (by decide) (fun C h => by cases h) wA_111 dX4_init_84 (fun q9 => ?_)
  refine n_ws (ws' := ws.set p (b, .inr (4, [.ref q1, .ref q2, .ref q3, .int 0, .ref q4, .int 0, vI (-1), vI (-1), .int 0, .ref q5, .int 0, .ref q6, .ref q7, .ref q8, .null, .int 0, .null, .null, .null, .int 0, .int 0, .int 0, .int 0])) ++ [(q1, .inl (gC g 0, 144, .inl fun _ => 0)), (q2, .inl (gC g 0, 144, .inl fun _ => 0)), (q3, .inl (gC g 0, 144, .inl fun _ => 0)), (q4, .inl (gC g 0, 1152, .inl fun _ => 0)), (q5, .inl (gC g 0, 60, .inl fun _ => 0)), (q6, .inl (gC g 0, 5, .inl fun _ => 0)), (q7, .inl (gC g 0, 600, .inl fun _ => 0)), (q8, .inl (gC g 0, 5, .inl fun _ => 0)), (q9, .inl (gC g 0, 80, .inl fun _ => 0))]) (by first | exact List.append_assoc _ _ _ | rfl) ?_
  refine n_putF (pc := 86) (ci := 4) (f := 14) (q0 := p) (fs := [.ref q1, .ref q2, .ref q3, .int 0, .ref q4, .int 0, vI (-1), vI (-1), .int 0, .ref q5, .int 0, .ref q6, .ref q7, .ref q8, .null, .int 0, .null, .null, .null, .int 0, .int 0, .int 0, .int 0]) (ty := .array .int) hi rfl in_X4 tyX4_ok nmX4 (wsg hl) (by decide) wF_X4_41 rfl rfl (by decide +kernel) rfl rfl (Nat.le_of_ble_eq_true rfl) dX4_init_86 ?_
  refine n_ws (ws' := ws.set p (b, .inr (4, [.ref q1, .ref q2, .ref q3, .int 0, .ref q4, .int 0, vI (-1), vI (-1), .int 0, .ref q5, .int 0, .ref q6, .ref q7, .ref q8, .ref q9, .int 0, .null, .null, .null, .int 0, .int 0, .int 0, .int 0])) ++ [(q1, .inl (gC g 0, 144, .inl fun _ => 0)), (q2, .inl (gC g 0, 144, .inl fun _ => 0)), (q3, .inl (gC g 0, 144, .inl fun _ => 0)), (q4, .inl (gC g 0, 1152, .inl fun _ => 0)), (q5, .inl (gC g 0, 60, .inl fun _ => 0)), (q6, .inl (gC g 0, 5, .inl fun _ => 0)), (q7, .inl (gC g 0, 600, .inl fun _ => 0)), (q8, .inl (gC g 0, 5, .inl fun _ => 0)), (q9, .inl (gC g 0, 80, .inl fun _ => 0))]) (wss hl) ?_
  refine n_aload_n (pc := 89) rfl dX4_init_89 ?_
  refine n_bipush (pc := 90) (z := 39) rfl dX4_init_90 ?_
  refine n_newa (pc := 92) (m := 39) (at9 := .char) (ty := .char) (t0 := 2) (a0 := (39, .inl fun _ => 0)) rfl rfl (fun cA => rfl) (by decide) (Nat.le_of_ble_eq_true rfl) (Nat.le_of_ble_eq_true rfl) (by decide) (fun C h => by cases h) wA_176 dX4_init_92 (fun q10 => ?_)
  obtain ⟨Wq10, hWq10⟩ : ∃ y : va_W, y = ws.set p (b, .inr (4, [.ref q1, .ref q2, .ref q3, .int 0, .ref q4, .int 0, vI (-1), vI (-1), .int 0, .ref q5, .int 0, .ref q6, .ref q7, .ref q8, .ref q9, .int 0, .null, .null, .null, .int 0, .int 0, .int 0, .int 0])) ++ [(q1, .inl (gC g 0, 144, .inl fun _ => 0)), (q2, .inl (gC g 0, 144, .inl fun _ => 0)), (q3, .inl (gC g 0, 144, .inl fun _ => 0)), (q4, .inl (gC g 0, 1152, .inl fun _ => 0)), (q5, .inl (gC g 0, 60, .inl fun _ => 0)), (q6, .inl (gC g 0, 5, .inl fun _ => 0)), (q7, .inl (gC g 0, 600, .inl fun _ => 0)), (q8, .inl (gC g 0, 5, .inl fun _ => 0)), (q9, .inl (gC g 0, 80, .inl fun _ => 0))] := ⟨_, rfl⟩
  rw [← hWq10]
  refine n_ws (ws' := Wq10 ++ [(q10, .inl (gC g 2, 39, .inl (fillF lq10 0)))]) rfl ?_
  refine n_dup (pc := 94) rfl dX4_init_94 ?_
  refine n_iconst (pc := 95) (z := 0) dX4_init_95 ?_
  refine n_bipush (pc := 96) (z := 100) rfl dX4_init_96 ?_
  refine n_cast (pc := 98) (by decide) (by decide) rfl dX4_init_98 ?_
  refine n_ws (ws' := Wq10 ++ [(q10, .inl (gC g 2, 39, .inl (fillF lq10 1)))]) rfl ?_
  refine n_dup (pc := 99) rfl dX4_init_99 ?_
  refine n_iconst (pc := 100) (z := 1) dX4_init_100 ?_
  refine n_bipush (pc := 101) (z := 105) rfl dX4_init_101 ?_
  refine n_cast (pc := 103) (by decide) (by decide) rfl dX4_init_103 ?_
  refine n_ws (ws' := Wq10 ++ [(q10, .inl (gC g 2, 39, .inl (fillF lq10 2)))]) rfl ?_
  refine n_dup (pc := 104) rfl dX4_init_104 ?_
  refine n_iconst (pc := 105) (z := 2) dX4_init_105 ?_
  refine n_bipush (pc := 106) (z := 101) rfl dX4_init_106 ?_
  refine n_cast (pc := 108) (by decide) (by decide) rfl dX4_init_108 ?_
  refine n_ws (ws' := Wq10 ++ [(q10, .inl (gC g 2, 39, .inl (fillF lq10 3)))]) rfl ?_
  refine n_dup (pc := 109) rfl dX4_init_109 ?_
  refine n_iconst (pc := 110) (z := 3) dX4_init_110 ?_
  refine n_bipush (pc := 111) (z := 32) rfl dX4_init_111 ?_
  refine n_cast (pc := 113) (by decide) (by decide) rfl dX4_init_113 ?_
  refine n_ws (ws' := Wq10 ++ [(q10, .inl (gC g 2, 39, .inl (fillF lq10 4)))]) rfl ?_
  refine n_dup (pc := 114) rfl dX4_init_114 ?_
  refine n_iconst (pc := 115) (z := 4) dX4_init_115 ?_
  refine n_bipush (pc := 116) (z := 115) rfl dX4_init_116 ?_
  refine n_cast (pc := 118) (by decide) (by decide) rfl dX4_init_118 ?_
  refine n_ws (ws' := Wq10 ++ [(q10, .inl (gC g 2, 39, .inl (fillF lq10 5)))]) rfl ?_
  refine n_dup (pc := 119) rfl dX4_init_119 ?_
  refine n_iconst (pc := 120) (z := 5) dX4_init_120 ?_
  refine n_bipush (pc := 121) (z := 104) rfl dX4_init_121 ?_
  refine n_cast (pc := 123) (by decide) (by decide) rfl dX4_init_123 ?_
  refine n_ws (ws' := Wq10 ++ [(q10, .inl (gC g 2, 39, .inl (fillF lq10 6)))]) rfl ?_
  refine n_dup (pc := 124) rfl dX4_init_124 ?_
  refine n_bipush (pc := 125) (z := 6) rfl dX4_init_125 ?_
  refine n_bipush (pc := 127) (z := 97) rfl dX4_init_127 ?_
  refine n_cast (pc := 129) (by decide) (by decide) rfl dX4_init_129 ?_
  refine n_ws (ws' := Wq10 ++ [(q10, .inl (gC g 2, 39, .inl (fillF lq10 7)))]) rfl ?_
  refine n_dup (pc := 130) rfl dX4_init_130 ?_
  refine n_bipush (pc := 131) (z := 7) rfl dX4_init_131 ?_
  refine n_bipush (pc := 133) (z := 114) rfl dX4_init_133 ?_
  refine n_cast (pc := 135) (by decide) (by decide) rfl dX4_init_135 ?_
  refine n_ws (ws' := Wq10 ++ [(q10, .inl (gC g 2, 39, .inl (fillF lq10 8)))]) rfl ?_
  refine n_dup (pc := 136) rfl dX4_init_136 ?_
  refine n_bipush (pc := 137) (z := 8) rfl dX4_init_137 ?_
  refine n_bipush (pc := 139) (z := 112) rfl dX4_init_139 ?_
  refine n_cast (pc := 141) (by decide) (by decide) rfl dX4_init_141 ?_
  refine n_ws (ws' := Wq10 ++ [(q10, .inl (gC g 2, 39, .inl (fillF lq10 9)))]) rfl ?_
  refine n_dup (pc := 142) rfl dX4_init_142 ?_
  refine n_bipush (pc := 143) (z := 9) rfl dX4_init_143 ?_
  refine n_bipush (pc := 145) (z := 101) rfl dX4_init_145 ?_
  refine n_cast (pc := 147) (by decide) (by decide) rfl dX4_init_147 ?_
  refine n_ws (ws' := Wq10 ++ [(q10, .inl (gC g 2, 39, .inl (fillF lq10 10)))]) rfl ?_
  refine n_dup (pc := 148) rfl dX4_init_148 ?_
  refine n_bipush (pc := 149) (z := 10) rfl dX4_init_149 ?_
  refine n_bipush (pc := 151) (z := 110) rfl dX4_init_151 ?_
  refine n_cast (pc := 153) (by decide) (by decide) rfl dX4_init_153 ?_
  refine n_ws (ws' := Wq10 ++ [(q10, .inl (gC g 2, 39, .inl (fillF lq10 11)))]) rfl ?_
  refine n_dup (pc := 154) rfl dX4_init_154 ?_
  refine n_bipush (pc := 155) (z := 11) rfl dX4_init_155 ?_
  refine n_bipush (pc := 157) (z := 32) rfl dX4_init_157 ?_
  refine n_cast (pc := 159) (by decide) (by decide) rfl dX4_init_159 ?_
  refine n_ws (ws' := Wq10 ++ [(q10, .inl (gC g 2, 39, .inl (fillF lq10 12)))]) rfl ?_
  refine n_dup (pc := 160) rfl dX4_init_160 ?_
  refine n_bipush (pc := 161) (z := 12) rfl dX4_init_161 ?_
  refine n_bipush (pc := 163) (z := 108) rfl dX4_init_163 ?_
  refine n_cast (pc := 165) (by decide) (by decide) rfl dX4_init_165 ?_
  refine n_ws (ws' := Wq10 ++ [(q10, .inl (gC g 2, 39, .inl (fillF lq10 13)))]) rfl ?_
  refine n_dup (pc := 166) rfl dX4_init_166 ?_
  refine n_bipush (pc := 167) (z := 13) rfl dX4_init_167 ?_
  refine n_bipush (pc := 169) (z := 101) rfl dX4_init_169 ?_
  refine n_cast (pc := 171) (by decide) (by decide) rfl dX4_init_171 ?_
  refine n_ws (ws' := Wq10 ++ [(q10, .inl (gC g 2, 39, .inl (fillF lq10 14)))]) rfl ?_
  refine n_dup (pc := 172) rfl dX4_init_172 ?_
  refine n_bipush (pc := 173) (z := 14) rfl dX4_init_173 ?_
  refine n_bipush (pc := 175) (z := 97) rfl dX4_init_175 ?_
  refine n_cast (pc := 177) (by decide) (by decide) rfl dX4_init_177 ?_
  refine n_ws (ws' := Wq10 ++ [(q10, .inl (gC g 2, 39, .inl (fillF lq10 15)))]) rfl ?_
  refine n_dup (pc := 178) rfl dX4_init_178 ?_
  refine n_bipush (pc := 179) (z := 15) rfl dX4_init_179 ?_
  refine n_bipush (pc := 181) (z := 102) rfl dX4_init_181 ?_
  refine n_cast (pc := 183) (by decide) (by decide) rfl dX4_init_183 ?_
  refine n_ws (ws' := Wq10 ++ [(q10, .inl (gC g 2, 39, .inl (fillF lq10 16)))]) rfl ?_
  refine n_dup (pc := 184) rfl dX4_init_184 ?_
  refine n_bipush (pc := 185) (z := 16) rfl dX4_init_185 ?_
  refine n_bipush (pc := 187) (z := 32) rfl dX4_init_187 ?_
  refine n_cast (pc := 189) (by decide) (by decide) rfl dX4_init_189 ?_
  refine n_ws (ws' := Wq10 ++ [(q10, .inl (gC g 2, 39, .inl (fillF lq10 17)))]) rfl ?_
  refine n_dup (pc := 190) rfl dX4_init_190 ?_
  refine n_bipush (pc := 191) (z := 17) rfl dX4_init_191 ?_
  refine n_bipush (pc := 193) (z := 115) rfl dX4_init_193 ?_
  refine n_cast (pc := 195) (by decide) (by decide) rfl dX4_init_195 ?_
  refine n_ws (ws' := Wq10 ++ [(q10, .inl (gC g 2, 39, .inl (fillF lq10 18)))]) rfl ?_
  refine n_dup (pc := 196) rfl dX4_init_196 ?_
  refine n_bipush (pc := 197) (z := 18) rfl dX4_init_197 ?_
  refine n_bipush (pc := 199) (z := 116) rfl dX4_init_199 ?_
  refine n_cast (pc := 201) (by decide) (by decide) rfl dX4_init_201 ?_
  refine n_ws (ws' := Wq10 ++ [(q10, .inl (gC g 2, 39, .inl (fillF lq10 19)))]) rfl ?_
  refine n_dup (pc := 202) rfl dX4_init_202 ?_
  refine n_bipush (pc := 203) (z := 19) rfl dX4_init_203 ?_
  refine n_bipush (pc := 205) (z := 114) rfl dX4_init_205 ?_
  refine n_cast (pc := 207) (by decide) (by decide) rfl dX4_init_207 ?_
  refine n_ws (ws' := Wq10 ++ [(q10, .inl (gC g 2, 39, .inl (fillF lq10 20)))]) rfl ?_
  refine n_dup (pc := 208) rfl dX4_init_208 ?_
  refine n_bipush (pc := 209) (z := 20) rfl dX4_init_209 ?_
  refine n_bipush (pc := 211) (z := 105) rfl dX4_init_211 ?_
  refine n_cast (pc := 213) (by decide) (by decide) rfl dX4_init_213 ?_
  refine n_ws (ws' := Wq10 ++ [(q10, .inl (gC g 2, 39, .inl (fillF lq10 21)))]) rfl ?_
  refine n_dup (pc := 214) rfl dX4_init_214 ?_
  refine n_bipush (pc := 215) (z := 21) rfl dX4_init_215 ?_
  refine n_bipush (pc := 217) (z := 107) rfl dX4_init_217 ?_
  refine n_cast (pc := 219) (by decide) (by decide) rfl dX4_init_219 ?_
  refine n_ws (ws' := Wq10 ++ [(q10, .inl (gC g 2, 39, .inl (fillF lq10 22)))]) rfl ?_
  refine n_dup (pc := 220) rfl dX4_init_220 ?_
  refine n_bipush (pc := 221) (z := 22) rfl dX4_init_221 ?_
  refine n_bipush (pc := 223) (z := 101) rfl dX4_init_223 ?_
  refine n_cast (pc := 225) (by decide) (by decide) rfl dX4_init_225 ?_
  refine n_ws (ws' := Wq10 ++ [(q10, .inl (gC g 2, 39, .inl (fillF lq10 23)))]) rfl ?_
  refine n_dup (pc := 226) rfl dX4_init_226 ?_
  refine n_bipush (pc := 227) (z := 23) rfl dX4_init_227 ?_
  refine n_bipush (pc := 229) (z := 32) rfl dX4_init_229 ?_
  refine n_cast (pc := 231) (by decide) (by decide) rfl dX4_init_231 ?_
  refine n_ws (ws' := Wq10 ++ [(q10, .inl (gC g 2, 39, .inl (fillF lq10 24)))]) rfl ?_
  refine n_dup (pc := 232) rfl dX4_init_232 ?_
  refine n_bipush (pc := 233) (z := 24) rfl dX4_init_233 ?_
  refine n_bipush (pc := 235) (z := 121) rfl dX4_init_235 ?_
  refine n_cast (pc := 237) (by decide) (by decide) rfl dX4_init_237 ?_
  refine n_ws (ws' := Wq10 ++ [(q10, .inl (gC g 2, 39, .inl (fillF lq10 25)))]) rfl ?_
  refine n_dup (pc := 238) rfl dX4_init_238 ?_
  refine n_bipush (pc := 239) (z := 25) rfl dX4_init_239 ?_
  refine n_bipush (pc := 241) (z := 101) rfl dX4_init_241 ?_
  refine n_cast (pc := 243) (by decide) (by decide) rfl dX4_init_243 ?_
  refine n_ws (ws' := Wq10 ++ [(q10, .inl (gC g 2, 39, .inl (fillF lq10 26)))]) rfl ?_
  refine n_dup (pc := 244) rfl dX4_init_244 ?_
  refine n_bipush (pc := 245) (z := 26) rfl dX4_init_245 ?_
  refine n_bipush (pc := 247) (z := 97) rfl dX4_init_247 ?_
  refine n_cast (pc := 249) (by decide) (by decide) rfl dX4_init_249 ?_
  refine n_ws (ws' := Wq10 ++ [(q10, .inl (gC g 2, 39, .inl (fillF lq10 27)))]) rfl ?_
  refine n_dup (pc := 250) rfl dX4_init_250 ?_
  refine n_bipush (pc := 251) (z := 27) rfl dX4_init_251 ?_
  refine n_bipush (pc := 253) (z := 114) rfl dX4_init_253 ?_
  refine n_cast (pc := 255) (by decide) (by decide) rfl dX4_init_255 ?_
  refine n_ws (ws' := Wq10 ++ [(q10, .inl (gC g 2, 39, .inl (fillF lq10 28)))]) rfl ?_
  refine n_dup (pc := 256) rfl dX4_init_256 ?_
  refine n_bipush (pc := 257) (z := 28) rfl dX4_init_257 ?_
  refine n_bipush (pc := 259) (z := 114) rfl dX4_init_259 ?_
  refine n_cast (pc := 261) (by decide) (by decide) rfl dX4_init_261 ?_
  refine n_ws (ws' := Wq10 ++ [(q10, .inl (gC g 2, 39, .inl (fillF lq10 29)))]) rfl ?_
  refine n_dup (pc := 262) rfl dX4_init_262 ?_
  refine n_bipush (pc := 263) (z := 29) rfl dX4_init_263 ?_
  refine n_bipush (pc := 265) (z := 101) rfl dX4_init_265 ?_
  refine n_cast (pc := 267) (by decide) (by decide) rfl dX4_init_267 ?_
  refine n_ws (ws' := Wq10 ++ [(q10, .inl (gC g 2, 39, .inl (fillF lq10 30)))]) rfl ?_
  refine n_dup (pc := 268) rfl dX4_init_268 ?_
  refine n_bipush (pc := 269) (z := 30) rfl dX4_init_269 ?_
  refine n_bipush (pc := 271) (z := 99) rfl dX4_init_271 ?_
  refine n_cast (pc := 273) (by decide) (by decide) rfl dX4_init_273 ?_
  refine n_ws (ws' := Wq10 ++ [(q10, .inl (gC g 2, 39, .inl (fillF lq10 31)))]) rfl ?_
  refine n_dup (pc := 274) rfl dX4_init_274 ?_
  refine n_bipush (pc := 275) (z := 31) rfl dX4_init_275 ?_
  refine n_bipush (pc := 277) (z := 97) rfl dX4_init_277 ?_
  refine n_cast (pc := 279) (by decide) (by decide) rfl dX4_init_279 ?_
  refine n_ws (ws' := Wq10 ++ [(q10, .inl (gC g 2, 39, .inl (fillF lq10 32)))]) rfl ?_
  refine n_dup (pc := 280) rfl dX4_init_280 ?_
  refine n_bipush (pc := 281) (z := 32) rfl dX4_init_281 ?_
  refine n_bipush (pc := 283) (z := 108) rfl dX4_init_283 ?_
  refine n_cast (pc := 285) (by decide) (by decide) rfl dX4_init_285 ?_
  refine n_ws (ws' := Wq10 ++ [(q10, .inl (gC g 2, 39, .inl (fillF lq10 33)))]) rfl ?_
  refine n_dup (pc := 286) rfl dX4_init_286 ?_
  refine n_bipush (pc := 287) (z := 33) rfl dX4_init_287 ?_
  refine n_bipush (pc := 289) (z := 108) rfl dX4_init_289 ?_
  refine n_cast (pc := 291) (by decide) (by decide) rfl dX4_init_291 ?_
  refine n_ws (ws' := Wq10 ++ [(q10, .inl (gC g 2, 39, .inl (fillF lq10 34)))]) rfl ?_
  refine n_dup (pc := 292) rfl dX4_init_292 ?_
  refine n_bipush (pc := 293) (z := 34) rfl dX4_init_293 ?_
  refine n_bipush (pc := 295) (z := 32) rfl dX4_init_295 ?_
  refine n_cast (pc := 297) (by decide) (by decide) rfl dX4_init_297 ?_
  refine n_ws (ws' := Wq10 ++ [(q10, .inl (gC g 2, 39, .inl (fillF lq10 35)))]) rfl ?_
  refine n_dup (pc := 298) rfl dX4_init_298 ?_
  refine n_bipush (pc := 299) (z := 35) rfl dX4_init_299 ?_
  refine n_bipush (pc := 301) (z := 112) rfl dX4_init_301 ?_
  refine n_cast (pc := 303) (by decide) (by decide) rfl dX4_init_303 ?_
  refine n_ws (ws' := Wq10 ++ [(q10, .inl (gC g 2, 39, .inl (fillF lq10 36)))]) rfl ?_
  refine n_dup (pc := 304) rfl dX4_init_304 ?_
  refine n_bipush (pc := 305) (z := 36) rfl dX4_init_305 ?_
  refine n_bipush (pc := 307) (z := 97) rfl dX4_init_307 ?_
  refine n_cast (pc := 309) (by decide) (by decide) rfl dX4_init_309 ?_
  refine n_ws (ws' := Wq10 ++ [(q10, .inl (gC g 2, 39, .inl (fillF lq10 37)))]) rfl ?_
  refine n_dup (pc := 310) rfl dX4_init_310 ?_
  refine n_bipush (pc := 311) (z := 37) rfl dX4_init_311 ?_
  refine n_bipush (pc := 313) (z := 121) rfl dX4_init_313 ?_
  refine n_cast (pc := 315) (by decide) (by decide) rfl dX4_init_315 ?_
  refine n_ws (ws' := Wq10 ++ [(q10, .inl (gC g 2, 39, .inl (fillF lq10 38)))]) rfl ?_
  refine n_dup (pc := 316) rfl dX4_init_316 ?_
  refine n_bipush (pc := 317) (z := 38) rfl dX4_init_317 ?_
  refine n_bipush (pc := 319) (z := 32) rfl dX4_init_319 ?_
  refine n_cast (pc := 321) (by decide) (by decide) rfl dX4_init_321 ?_
  refine n_ws (ws' := Wq10 ++ [(q10, .inl (gC g 2, 39, .inl (fillF lq10 39)))]) rfl ?_
  refine n_ws (ws' := ws.set p (b, .inr (4, [.ref q1, .ref q2, .ref q3, .int 0, .ref q4, .int 0, vI (-1), vI (-1), .int 0, .ref q5, .int 0, .ref q6, .ref q7, .ref q8, .ref q9, .int 0, .null, .null, .null, .int 0, .int 0, .int 0, .int 0])) ++ [(q1, .inl (gC g 0, 144, .inl fun _ => 0)), (q2, .inl (gC g 0, 144, .inl fun _ => 0)), (q3, .inl (gC g 0, 144, .inl fun _ => 0)), (q4, .inl (gC g 0, 1152, .inl fun _ => 0)), (q5, .inl (gC g 0, 60, .inl fun _ => 0)), (q6, .inl (gC g 0, 5, .inl fun _ => 0)), (q7, .inl (gC g 0, 600, .inl fun _ => 0)), (q8, .inl (gC g 0, 5, .inl fun _ => 0)), (q9, .inl (gC g 0, 80, .inl fun _ => 0)), (q10, .inl (gC g 2, 39, .inl (fillF lq10 39)))]) (by rw [hWq10]; first | exact List.append_assoc _ _ _ | rfl) ?_
  refine n_putF (pc := 322) (ci := 4) (f := 16) (q0 := p) (fs := [.ref q1, .ref q2, .ref q3, .int 0, .ref q4, .int 0, vI (-1), vI (-1), .int 0, .ref q5, .int 0, .ref q6, .ref q7, .ref q8, .ref q9, .int 0, .null, .null, .null, .int 0, .int 0, .int 0, .int 0]) (ty := .array .char) hi rfl in_X4 tyX4_ok nmX4 (wsg hl) (by decide) wF_X4_44 rfl rfl (by decide +kernel) rfl rfl (Nat.le_of_ble_eq_true rfl) dX4_init_322 ?_
  refine n_ws (ws' := ws.set p (b, .inr (4, [.ref q1, .ref q2, .ref q3, .int 0, .ref q4, .int 0, vI (-1), vI (-1), .int 0, .ref q5, .int 0, .ref q6, .ref q7, .ref q8, .ref q9, .int 0, .ref q10, .null, .null, .int 0, .int 0, .int 0, .int 0])) ++ [(q1, .inl (gC g 0, 144, .inl fun _ => 0)), (q2, .inl (gC g 0, 144, .inl fun _ => 0)), (q3, .inl (gC g 0, 144, .inl fun _ => 0)), (q4, .inl (gC g 0, 1152, .inl fun _ => 0)), (q5, .inl (gC g 0, 60, .inl fun _ => 0)), (q6, .inl (gC g 0, 5, .inl fun _ => 0)), (q7, .inl (gC g 0, 600, .inl fun _ => 0)), (q8, .inl (gC g 0, 5, .inl fun _ => 0)), (q9, .inl (gC g 0, 80, .inl fun _ => 0)), (q10, .inl (gC g 2, 39, .inl (fillF lq10 39)))]) (wss hl) ?_
  refine n_aload_n (pc := 325) rfl dX4_init_325 ?_
  refine n_bipush (pc := 326) (z := 8) rfl dX4_init_326 ?_
  refine n_newa (pc := 328) (m := 8) (at9 := .int) (ty := .int) (t0 := 0) (a0 := (8, .inl fun _ => 0)) rfl rfl (fun cA => rfl) (by decide) (Nat.le_of_ble_eq_true rfl) (Nat.le_of_ble_eq_true rfl) (by decide) (fun C h => by cases h) wA_111 dX4_init_328 (fun q11 => ?_)
  obtain ⟨Wq11, hWq11⟩ : ∃ y : va_W, y = ws.set p (b, .inr (4, [.ref q1, .ref q2, .ref q3, .int 0, .ref q4, .int 0, vI (-1), vI (-1), .int 0, .ref q5, .int 0, .ref q6, .ref q7, .ref q8, .ref q9, .int 0, .ref q10, .null, .null, .int 0, .int 0, .int 0, .int 0])) ++ [(q1, .inl (gC g 0, 144, .inl fun _ => 0)), (q2, .inl (gC g 0, 144, .inl fun _ => 0)), (q3, .inl (gC g 0, 144, .inl fun _ => 0)), (q4, .inl (gC g 0, 1152, .inl fun _ => 0)), (q5, .inl (gC g 0, 60, .inl fun _ => 0)), (q6, .inl (gC g 0, 5, .inl fun _ => 0)), (q7, .inl (gC g 0, 600, .inl fun _ => 0)), (q8, .inl (gC g 0, 5, .inl fun _ => 0)), (q9, .inl (gC g 0, 80, .inl fun _ => 0)), (q10, .inl (gC g 2, 39, .inl (fillF lq10 39)))] := ⟨_, rfl⟩
  rw [← hWq11]
  refine n_ws (ws' := Wq11 ++ [(q11, .inl (gC g 0, 8, .inl (fillF lq11 0)))]) rfl ?_
  refine n_dup (pc := 330) rfl dX4_init_330 ?_
  refine n_iconst (pc := 331) (z := 0) dX4_init_331 ?_
  refine n_iconst (pc := 332) (z := 0) dX4_init_332 ?_
  refine n_iast (pc := 333) (by decide) (by decide) dX4_init_333 ?_
  refine n_ws (ws' := Wq11 ++ [(q11, .inl (gC g 0, 8, .inl (fillF lq11 1)))]) rfl ?_
  refine n_dup (pc := 334) rfl dX4_init_334 ?_
  refine n_iconst (pc := 335) (z := 1) dX4_init_335 ?_
  refine n_iconst (pc := 336) (z := 4) dX4_init_336 ?_
  refine n_iast (pc := 337) (by decide) (by decide) dX4_init_337 ?_
  refine n_ws (ws' := Wq11 ++ [(q11, .inl (gC g 0, 8, .inl (fillF lq11 2)))]) rfl ?_
  refine n_dup (pc := 338) rfl dX4_init_338 ?_
  refine n_iconst (pc := 339) (z := 2) dX4_init_339 ?_
  refine n_bipush (pc := 340) (z := 12) rfl dX4_init_340 ?_
  refine n_iast (pc := 342) (by decide) (by decide) dX4_init_342 ?_
  refine n_ws (ws' := Wq11 ++ [(q11, .inl (gC g 0, 8, .inl (fillF lq11 3)))]) rfl ?_
  refine n_dup (pc := 343) rfl dX4_init_343 ?_
  refine n_iconst (pc := 344) (z := 3) dX4_init_344 ?_
  refine n_bipush (pc := 345) (z := 17) rfl dX4_init_345 ?_
  refine n_iast (pc := 347) (by decide) (by decide) dX4_init_347 ?_
  refine n_ws (ws' := Wq11 ++ [(q11, .inl (gC g 0, 8, .inl (fillF lq11 4)))]) rfl ?_
  refine n_dup (pc := 348) rfl dX4_init_348 ?_
  refine n_iconst (pc := 349) (z := 4) dX4_init_349 ?_
  refine n_bipush (pc := 350) (z := 24) rfl dX4_init_350 ?_
  refine n_iast (pc := 352) (by decide) (by decide) dX4_init_352 ?_
  refine n_ws (ws' := Wq11 ++ [(q11, .inl (gC g 0, 8, .inl (fillF lq11 5)))]) rfl ?_
  refine n_dup (pc := 353) rfl dX4_init_353 ?_
  refine n_iconst (pc := 354) (z := 5) dX4_init_354 ?_
  refine n_bipush (pc := 355) (z := 28) rfl dX4_init_355 ?_
  refine n_iast (pc := 357) (by decide) (by decide) dX4_init_357 ?_
  refine n_ws (ws' := Wq11 ++ [(q11, .inl (gC g 0, 8, .inl (fillF lq11 6)))]) rfl ?_
  refine n_dup (pc := 358) rfl dX4_init_358 ?_
  refine n_bipush (pc := 359) (z := 6) rfl dX4_init_359 ?_
  refine n_bipush (pc := 361) (z := 35) rfl dX4_init_361 ?_
  refine n_iast (pc := 363) (by decide) (by decide) dX4_init_363 ?_
  refine n_ws (ws' := Wq11 ++ [(q11, .inl (gC g 0, 8, .inl (fillF lq11 7)))]) rfl ?_
  refine n_dup (pc := 364) rfl dX4_init_364 ?_
  refine n_bipush (pc := 365) (z := 7) rfl dX4_init_365 ?_
  refine n_bipush (pc := 367) (z := 39) rfl dX4_init_367 ?_
  refine n_iast (pc := 369) (by decide) (by decide) dX4_init_369 ?_
  refine n_ws (ws' := Wq11 ++ [(q11, .inl (gC g 0, 8, .inl (fillF lq11 8)))]) rfl ?_
  refine n_ws (ws' := ws.set p (b, .inr (4, [.ref q1, .ref q2, .ref q3, .int 0, .ref q4, .int 0, vI (-1), vI (-1), .int 0, .ref q5, .int 0, .ref q6, .ref q7, .ref q8, .ref q9, .int 0, .ref q10, .null, .null, .int 0, .int 0, .int 0, .int 0])) ++ [(q1, .inl (gC g 0, 144, .inl fun _ => 0)), (q2, .inl (gC g 0, 144, .inl fun _ => 0)), (q3, .inl (gC g 0, 144, .inl fun _ => 0)), (q4, .inl (gC g 0, 1152, .inl fun _ => 0)), (q5, .inl (gC g 0, 60, .inl fun _ => 0)), (q6, .inl (gC g 0, 5, .inl fun _ => 0)), (q7, .inl (gC g 0, 600, .inl fun _ => 0)), (q8, .inl (gC g 0, 5, .inl fun _ => 0)), (q9, .inl (gC g 0, 80, .inl fun _ => 0)), (q10, .inl (gC g 2, 39, .inl (fillF lq10 39))), (q11, .inl (gC g 0, 8, .inl (fillF lq11 8)))]) (by rw [hWq11]; first | exact List.append_assoc _ _ _ | rfl) ?_
  refine n_putF (pc := 370) (ci := 4) (f := 17) (q0 := p) (fs := [.ref q1, .ref q2, .ref q3, .int 0, .ref q4, .int 0, vI (-1), vI (-1), .int 0, .ref q5, .int 0, .ref q6, .ref q7, .ref q8, .ref q9, .int 0, .ref q10, .null, .null, .int 0, .int 0, .int 0, .int 0]) (ty := .array .int) hi rfl in_X4 tyX4_ok nmX4 (wsg hl) (by decide) wF_X4_48 rfl rfl (by decide +kernel) rfl rfl (Nat.le_of_ble_eq_true rfl) dX4_init_370 ?_
  refine n_ws (ws' := ws.set p (b, .inr (4, [.ref q1, .ref q2, .ref q3, .int 0, .ref q4, .int 0, vI (-1), vI (-1), .int 0, .ref q5, .int 0, .ref q6, .ref q7, .ref q8, .ref q9, .int 0, .ref q10, .ref q11, .null, .int 0, .int 0, .int 0, .int 0])) ++ [(q1, .inl (gC g 0, 144, .inl fun _ => 0)), (q2, .inl (gC g 0, 144, .inl fun _ => 0)), (q3, .inl (gC g 0, 144, .inl fun _ => 0)), (q4, .inl (gC g 0, 1152, .inl fun _ => 0)), (q5, .inl (gC g 0, 60, .inl fun _ => 0)), (q6, .inl (gC g 0, 5, .inl fun _ => 0)), (q7, .inl (gC g 0, 600, .inl fun _ => 0)), (q8, .inl (gC g 0, 5, .inl fun _ => 0)), (q9, .inl (gC g 0, 80, .inl fun _ => 0)), (q10, .inl (gC g 2, 39, .inl (fillF lq10 39))), (q11, .inl (gC g 0, 8, .inl (fillF lq11 8)))]) (wss hl) ?_
  refine n_aload_n (pc := 373) rfl dX4_init_373 ?_
  refine n_sipush (pc := 374) (z := 183) rfl dX4_init_374 ?_
  refine n_newa (pc := 377) (m := 183) (at9 := .int) (ty := .int) (t0 := 0) (a0 := (183, .inl fun _ => 0)) rfl rfl (fun cA => rfl) (by decide) (Nat.le_of_ble_eq_true rfl) (Nat.le_of_ble_eq_true rfl) (by decide) (fun C h => by cases h) wA_111 dX4_init_377 (fun q12 => ?_)
  refine n_ws (ws' := ws.set p (b, .inr (4, [.ref q1, .ref q2, .ref q3, .int 0, .ref q4, .int 0, vI (-1), vI (-1), .int 0, .ref q5, .int 0, .ref q6, .ref q7, .ref q8, .ref q9, .int 0, .ref q10, .ref q11, .null, .int 0, .int 0, .int 0, .int 0])) ++ [(q1, .inl (gC g 0, 144, .inl fun _ => 0)), (q2, .inl (gC g 0, 144, .inl fun _ => 0)), (q3, .inl (gC g 0, 144, .inl fun _ => 0)), (q4, .inl (gC g 0, 1152, .inl fun _ => 0)), (q5, .inl (gC g 0, 60, .inl fun _ => 0)), (q6, .inl (gC g 0, 5, .inl fun _ => 0)), (q7, .inl (gC g 0, 600, .inl fun _ => 0)), (q8, .inl (gC g 0, 5, .inl fun _ => 0)), (q9, .inl (gC g 0, 80, .inl fun _ => 0)), (q10, .inl (gC g 2, 39, .inl (fillF lq10 39))), (q11, .inl (gC g 0, 8, .inl (fillF lq11 8))), (q12, .inl (gC g 0, 183, .inl fun _ => 0))]) (by first | exact List.append_assoc _ _ _ | rfl) ?_
  refine n_putF (pc := 379) (ci := 4) (f := 18) (q0 := p) (fs := [.ref q1, .ref q2, .ref q3, .int 0, .ref q4, .int 0, vI (-1), vI (-1), .int 0, .ref q5, .int 0, .ref q6, .ref q7, .ref q8, .ref q9, .int 0, .ref q10, .ref q11, .null, .int 0, .int 0, .int 0, .int 0]) (ty := .array .int) hi rfl in_X4 tyX4_ok nmX4 (wsg hl) (by decide) wF_X4_51 rfl rfl (by decide +kernel) rfl rfl (Nat.le_of_ble_eq_true rfl) dX4_init_379 ?_
  refine n_ws (ws' := ws.set p (b, .inr (4, [.ref q1, .ref q2, .ref q3, .int 0, .ref q4, .int 0, vI (-1), vI (-1), .int 0, .ref q5, .int 0, .ref q6, .ref q7, .ref q8, .ref q9, .int 0, .ref q10, .ref q11, .ref q12, .int 0, .int 0, .int 0, .int 0])) ++ [(q1, .inl (gC g 0, 144, .inl fun _ => 0)), (q2, .inl (gC g 0, 144, .inl fun _ => 0)), (q3, .inl (gC g 0, 144, .inl fun _ => 0)), (q4, .inl (gC g 0, 1152, .inl fun _ => 0)), (q5, .inl (gC g 0, 60, .inl fun _ => 0)), (q6, .inl (gC g 0, 5, .inl fun _ => 0)), (q7, .inl (gC g 0, 600, .inl fun _ => 0)), (q8, .inl (gC g 0, 5, .inl fun _ => 0)), (q9, .inl (gC g 0, 80, .inl fun _ => 0)), (q10, .inl (gC g 2, 39, .inl (fillF lq10 39))), (q11, .inl (gC g 0, 8, .inl (fillF lq11 8))), (q12, .inl (gC g 0, 183, .inl fun _ => 0))]) (wss hl) ?_
  exact n_vret (pc := 382) E ⟨rfl, q1, q2, q3, q4, q5, q6, q7, q8, q9, q10, q11, q12, rfl⟩ (Nat.le_of_ble_eq_true rfl) (Nat.le_of_ble_eq_true rfl) dX4_init_382
