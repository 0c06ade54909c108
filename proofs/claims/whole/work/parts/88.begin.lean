-- the law's beginning
/-- the first memory -/
def G0 : Mem := fun p z =>
  if p = 3 then 28 + 8 * z
  else if p = 0 then (if z = 9 ∨ z = 10 then -1 else 0)
  else if p = 106 then (if z = 6 ∨ z = 7 then -1 else 0)
  else if p = 116 then lq10.getD z.toNat 0
  else if p = 117 then lq11.getD z.toNat 0
  else 0
theorem G0_z {p : Nat} {z : Int} (h : p ≠ 3 ∧ p ≠ 0 ∧ p ≠ 106 ∧ p ≠ 116 ∧ p ≠ 117) : G0 p z = 0 := by
  unfold G0
  rw [if_neg h.1, if_neg h.2.1, if_neg h.2.2.1, if_neg h.2.2.2.1, if_neg h.2.2.2.2]
theorem G0_3 (z : Int) : G0 3 z = 28 + 8 * z := rfl
theorem fillF_at (c : List Int) : ∀ (k j : Nat), fillF c k j = if j < k then Int32.ofInt (c.getD j 0) else 0
  | 0, j => by rw [if_neg (by omega)]; rfl
  | k + 1, j => by
    show (if j = k then Int32.ofInt (c.getD k 0) else fillF c k j) = _
    rw [fillF_at c k j]
    by_cases h1 : j = k
    · subst h1; rw [if_pos rfl, if_pos (by omega)]
    · rw [if_neg h1]
      by_cases h2 : j < k
      · rw [if_pos h2, if_pos (by omega)]
      · rw [if_neg h2, if_neg (by omega)]
theorem fillF_all (c : List Int) {k : Nat} (hk : k = c.length) : fillF c k = fun j => Int32.ofInt (c.getD j 0) := by
  funext j
  rw [fillF_at]
  by_cases h : j < k
  · rw [if_pos h]
  · rw [if_neg h, List.getD_eq_getElem?_getD, List.getElem?_eq_none (by omega)]
    rfl
theorem St0 {b : Nat} (h : 4 ≤ b ∧ b + 7 < 92) : StI G0 b := by
  have z : ∀ j : Nat, j ≤ 7 → ∀ w, G0 (b + j) w = 0 := fun j hj w => G0_z (by omega)
  have z0 : ∀ w, G0 b w = 0 := fun w => z 0 (by omega) w
  refine ⟨?_, ?_, ?_, ?_, ?_, ?_, ?_, ?_⟩
  · rw [z0]; omega
  · rw [z0]; omega
  · rw [z0]; omega
  · intro k k0 k1; rw [z0] at k1; omega
  · intro k k0 k1; rw [z0] at k1; omega
  · intro k k0 k1; rw [z0] at k1; omega
  · intro k l k0 k1 k2; rw [z0] at k2; omega
  · intro k k0 k1; rw [z0] at k1; omega
theorem SSk0 {b : Nat} (h : 4 ≤ b ∧ b + 7 < 92) : SSk (G0 107) G0 b 0 0 := by
  have z0 : ∀ w, G0 b w = 0 := fun w => G0_z (by omega)
  have zm : ∀ w, G0 107 w = 0 := fun w => G0_z (by omega)
  have hcs : ∀ φ : Int → Int → Int → Int, cs G0 b φ = 0 := fun φ => by unfold cs; rw [z0]; rfl
  refine ⟨St0 h, ⟨?_, ?_, ?_, ?_, ?_, ?_, ?_⟩, ⟨⟨?_, ?_, ?_, ?_, ?_, ?_, ?_, ?_, ?_⟩, ?_, ?_⟩, ?_, ⟨?_, ?_⟩, ?_, ?_, ?_⟩
  · rw [zm]; omega
  · rw [zm]; omega
  · rw [zm]; omega
  · intro k k0 k1; rw [zm] at k1; omega
  · intro k k0 k1; rw [zm] at k1; omega
  · intro k k0 k1; exact zm _
  · intro k l k0 k1 k2; rw [zm] at k2; omega
  · rw [zm, z0]
  · rw [zm, z0]
  · rw [zm, z0]
  · rw [zm, z0]
  · rw [zm, z0]
  · rw [zm, z0]
  · rw [zm, z0]
  · rw [zm, z0]
  · rw [zm, z0]
  · intro i i0 i1; rw [z0] at i1; omega
  · intro φ
    rw [hcs]
    unfold csM
    rw [zm]
    rfl
  · unfold WGT
    rw [hcs, z0, z0, z0, z0]
    rfl
  · rw [z0]; omega
  · unfold LWt cwt
    rw [hcs, z0]
    omega
  · rw [z0]; omega
  · rw [z0]; omega
  · rw [z0]; omega
theorem Mc0a : ∀ k : Nat, k < 7 → G0 117 ((k : Int) + 1) - G0 117 k = wlK k ∧ 0 ≤ G0 117 k ∧ G0 117 k + wlK k ≤ 39 := by decide +kernel
theorem Mc0b : ∀ k : Nat, k < 7 → ∀ m : Nat, m < 8 → (m : Int) < wlK k → G0 116 (G0 117 k + (m : Int)) = wcK k (m : Int) := by decide +kernel
theorem Mc0 : McL G0 := by
  refine ⟨Mc0a, fun k hk m m0 m1 => ?_⟩
  obtain ⟨j, rfl⟩ := Int.eq_ofNat_of_zero_le m0
  exact Mc0b k hk j (by have := (wlK_r k hk).2; omega) m1
theorem Law0 : LawI G0 0 0 := by
  have h08 : G0 0 8 = 0 := rfl
  have h07 : G0 0 7 = 0 := rfl
  refine ⟨SSk0 (by omega), ⟨⟨?_, ?_, ?_⟩, rfl, ?_⟩, ⟨Or.inl rfl, rfl, ?_⟩, ⟨?_, rfl, fun j => ?_, ?_⟩, ⟨?_, rfl, ?_, rfl⟩, ⟨?_, rfl, ?_⟩, Mc0⟩
  · rw [h08]; omega
  · intro i i0 i1
    rw [G0_3]
    refine ⟨by omega, 3 + i.toNat, by omega, by omega⟩
  · intro i j i0 i1 j1
    rw [G0_3, G0_3]
    omega
  · intro j j0 j1; rw [h08] at j1; omega
  · intro h1; rw [h07] at h1; omega
  · rw [G0_z (by omega)]; omega
  · rw [G0_z (by omega), G0_z (by omega)]
  · intro j j0 j1; rw [G0_z (by omega)] at j1; omega
  · rw [show G0 0 9 = -1 from rfl]; omega
  · rw [show G0 0 10 = -1 from rfl]; omega
  · rw [G0_z (by omega)]; omega
  · intro z z0 z1; rw [G0_z (by omega)] at z1; omega
/-- all cells, in the order of their making -/
def wAll (g : GT) (b0 : Nat) (F0 F1 F2 F3 F4 F5 F6 F7 F8 F9 F10 : Nat → Nat) (q qP p1 p2 p3 p4 qS u1 u2 u3 u4 qB b1 mo m1 m2 m3 m4 m5 m6 m7 m8 m9 m10 m11 m12 t1 t2 : Nat) : va_W :=
  [(b0, .inr (3, fX3 (F0 0) (F1 0) (F2 0) q qP qS qB))] ++ aX3 g F0 F1 F2 F3 F4 F5 F6 F7 F8 F9 F10 q qP p1 p2 p3 p4 qS u1 u2 u3 u4 qB b1 ++ [(mo, .inr (4, fX4 m1 m2 m3 m4 m5 m6 m7 m8 m9 m10 m11 m12))] ++ aX4 g m1 m2 m3 m4 m5 m6 m7 m8 m9 m10 m11 m12 ++ [(t1, .inl (gC g 1, 1, .inr (.inl fun _ => 0)))] ++ [(t2, .inl (gC g 3, 1, .inr (.inr (.inr (.inl fun _ => 0)))))]
theorem tz_X3 : ∀ j, j < 11 → defaultValue (tyX3 j) = vp_V dX3 j := by decide +kernel
theorem tz_X4 : ∀ j, j < 23 → defaultValue (tyX4 j) = vp_V dX4 j := by decide +kernel
theorem mok_X3_init : MOk yX3_init cX3_init 2 none 0 := ⟨wC_X3_init, wN_X3, by decide, by decide, by decide +kernel⟩
theorem mok_X4_init : MOk yX4_init cX4_init 1 none 0 := ⟨wC_X4_init, wN_X4, by decide, by decide, by decide +kernel⟩
set_option maxHeartbeats 4000000 in
set_option maxRecDepth 100000 in
theorem law_new {γ : gT} {g : GT} {A : Nat → Prop} {ar : Nat}
    (kk : ∀ (b0 : Nat) (F0 F1 F2 F3 F4 F5 F6 F7 F8 F9 F10 : Nat → Nat) (q qP p1 p2 p3 p4 qS u1 u2 u3 u4 qB b1 mo m1 m2 m3 m4 m5 m6 m7 m8 m9 m10 m11 m12 t1 t2 : Nat), NV γ g A cL_law 9 RL room_1 (wAll g b0 F0 F1 F2 F3 F4 F5 F6 F7 F8 F9 F10 q qP p1 p2 p3 p4 qS u1 u2 u3 u4 qB b1 mo m1 m2 m3 m4 m5 m6 m7 m8 m9 m10 m11 m12 t1 t2) 1000 20000 28 [some (.ref ar), some (.ref b0), some (.ref mo), some (.ref t1), some (.ref t2), some (vI 0), none, none, none] []) :
    NV γ g A cL_law 9 RL room_1 [] 0 0 0 [some (.ref ar), none, none, none, none, none, none, none, none] [] := by
  refine n_new (pc := 0) (ci := 3) (fs := dX3) rfl in_X3 tyX3_ok wK_L_8 wB_X3 wN_X3 tz_X3 (Nat.le_of_ble_eq_true rfl) (Nat.le_of_ble_eq_true rfl) dL_law_0 (fun b0 => ?_)
  refine n_dup (pc := 3) rfl dL_law_3 ?_
  refine n_callI (pc := 4) (as := []) (rest := [.ref b0]) (n_X3_init (p := 0) rfl) mok_X3_init wI_X3_init rfl wM_L_116 ⟨Nat.le_of_ble_eq_true rfl, Nat.le_of_ble_eq_true rfl⟩ ⟨Nat.le_of_ble_eq_true rfl, Nat.le_of_ble_eq_true rfl⟩ (Nat.le_of_ble_eq_true rfl) rfl dL_law_4 (fun v w hq => ?_)
  obtain ⟨rfl, F0, F1, F2, F3, F4, F5, F6, F7, F8, F9, F10, q, qP, p1, p2, p3, p4, qS, u1, u2, u3, u4, qB, b1, rfl⟩ := hq
  refine n_stk (st' := [.ref b0]) rfl ?_
  refine n_ws (ws' := [(b0, .inr (3, fX3 (F0 0) (F1 0) (F2 0) q qP qS qB))] ++ aX3 g F0 F1 F2 F3 F4 F5 F6 F7 F8 F9 F10 q qP p1 p2 p3 p4 qS u1 u2 u3 u4 qB b1) rfl ?_
  refine n_astore_n (pc := 7) (by decide) rfl dL_law_7 ?_
  refine n_new (pc := 8) (ci := 4) (fs := dX4) rfl in_X4 tyX4_ok wK_L_117 wB_X4 wN_X4 tz_X4 (Nat.le_of_ble_eq_true rfl) (Nat.le_of_ble_eq_true rfl) dL_law_8 (fun mo => ?_)
  refine n_dup (pc := 11) rfl dL_law_11 ?_
  refine n_callI (pc := 12) (as := []) (rest := [.ref mo]) (n_X4_init (p := ([(b0, .inr (3, fX3 (F0 0) (F1 0) (F2 0) q qP qS qB))] ++ aX3 g F0 F1 F2 F3 F4 F5 F6 F7 F8 F9 F10 q qP p1 p2 p3 p4 qS u1 u2 u3 u4 qB b1 : va_W).length) wlg) mok_X4_init wI_X4_init rfl wM_L_119 ⟨Nat.le_of_ble_eq_true rfl, Nat.le_of_ble_eq_true rfl⟩ ⟨Nat.le_of_ble_eq_true rfl, Nat.le_of_ble_eq_true rfl⟩ (Nat.le_of_ble_eq_true rfl) rfl dL_law_12 (fun v w hq => ?_)
  obtain ⟨rfl, m1, m2, m3, m4, m5, m6, m7, m8, m9, m10, m11, m12, rfl⟩ := hq
  rw [wls]
  refine n_stk (st' := [.ref mo]) rfl ?_
  refine n_astore_n (pc := 15) (by decide) rfl dL_law_15 ?_
  refine n_iconst (pc := 16) (z := 1) dL_law_16 ?_
  refine n_newa (pc := 17) (m := 1) (at9 := .long) (ty := .long) (t0 := 1) (a0 := (1, .inr (.inl fun _ => 0))) rfl rfl (fun cA => rfl) (by decide) (Nat.le_of_ble_eq_true rfl) (Nat.le_of_ble_eq_true rfl) (by decide) (fun C h => by cases h) wA_141 dL_law_17 (fun t1 => ?_)
  refine n_astore_n (pc := 19) (by decide) rfl dL_law_19 ?_
  refine n_iconst (pc := 20) (z := 1) dL_law_20 ?_
  refine n_newa (pc := 21) (m := 1) (at9 := .double) (ty := .double) (t0 := 3) (a0 := (1, .inr (.inr (.inr (.inl fun _ => 0))))) rfl rfl (fun cA => rfl) (by decide) (Nat.le_of_ble_eq_true rfl) (Nat.le_of_ble_eq_true rfl) (by decide) (fun C h => by cases h) wA_1756 dL_law_21 (fun t2 => ?_)
  refine n_astore (pc := 23) (by decide) rfl dL_law_23 ?_
  refine n_iconst (pc := 25) (z := 0) dL_law_25 ?_
  refine n_istore (pc := 26) (by decide) rfl dL_law_26 ?_
  refine n_wid (k' := 1000) (n' := 20000) (Nat.le_of_ble_eq_true rfl) (Nat.le_of_ble_eq_true rfl) ?_
  exact kk b0 F0 F1 F2 F3 F4 F5 F6 F7 F8 F9 F10 q qP p1 p2 p3 p4 qS u1 u2 u3 u4 qB b1 mo m1 m2 m3 m4 m5 m6 m7 m8 m9 m10 m11 m12 t1 t2
