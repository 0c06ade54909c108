-- from the builder's world to the memory
def tG (G : Mem) : Tx := (G 122 0, G 121)
def sbG (G : Mem) (t : Tx) : Mem := fun i z => if i = 121 then t.2 z else if i = 122 ∧ z = 0 then t.1 else G i z
theorem sbG_id (G : Mem) : sbG G (tG G) = G := by
  funext i z
  show (if i = 121 then G 121 z else if i = 122 ∧ z = 0 then G 122 0 else G i z) = G i z
  by_cases h : i = 121
  · rw [if_pos h, h]
  · rw [if_neg h]
    by_cases h2 : i = 122 ∧ z = 0
    · rw [if_pos h2, h2.1, h2.2]
    · rw [if_neg h2]
theorem sbG_i {G : Mem} {t : Tx} {i : Nat} (h : i < 121) : sbG G t i = G i := by
  funext z
  show (if i = 121 then t.2 z else if i = 122 ∧ z = 0 then t.1 else G i z) = G i z
  rw [if_neg (by omega), if_neg (by omega)]
theorem sbG_t (G : Mem) (t : Tx) : tG (sbG G t) = t := rfl
theorem sbG_u (G : Mem) (t u : Tx) : sbG (sbG G t) u = sbG G u := by
  funext i z
  show (if i = 121 then u.2 z else if i = 122 ∧ z = 0 then u.1 else (if i = 121 then t.2 z else if i = 122 ∧ z = 0 then t.1 else G i z)) = (if i = 121 then u.2 z else if i = 122 ∧ z = 0 then u.1 else G i z)
  by_cases h : i = 121
  · rw [if_pos h, if_pos h]
  · rw [if_neg h, if_neg h, if_neg h]
    by_cases h2 : i = 122 ∧ z = 0
    · rw [if_pos h2, if_pos h2]
    · rw [if_neg h2, if_neg h2, if_neg h2]
theorem wl_cg {g : GT} {G G' : Mem} (h : ∀ i, i < 121 → G' i = G i) : wl g G' = wl g G := by
  unfold wl
  apply List.map_congr_left
  intro i hi
  rw [h i (List.mem_range.mp hi)]
theorem bridge {g : GT} {G : Mem} {y : MethodName} {cc : ByteArray} {mL : Nat} {rt : Option FieldType} {rm : Room} {as : List Value} {Qp : Option Value → Mem → Prop} {Xp : String → Mem → Prop}
    (hU : ∀ (A : Nat → Prop) (q cap : Nat) (ml : Int32) (bf : Nat → Int32), BTs (tG G) cap (G 122 0) bf → ∃ Qu : Option Value → Bw → Prop, CtrU g A y cc mL rt rm as (q, cap, ml, G 122 0, bf, []) Qu ∧ ∀ v B9, Qu v B9 → ∃ t, BT t B9 ∧ Qp v (sbG G t)) : Ctr g y cc mL rt rm as G Qp Xp := by
  intro p e ha hc hk s m args below hf hfit hP hK
  obtain ⟨rfl, hG, q, cap, ml, bf, hS, hP0, hD0⟩ := hP
  have hb : BTs (tG G) cap (G 122 0) bf := ⟨rfl, ⟨hS.1, hS.2.1, hS.2.2.1⟩, hS.2.2.2.1, hS.2.2.2.2⟩
  have hlen := wl_len g G
  have hl1 : ∀ (k : Nat) (x : Nat × va_E), (wl g G)[k]? = some x → (WL g G q cap ml bf)[k]? = some x := fun k x hx => by
    have hk1 : k < (wl g G).length := (List.getElem?_eq_some_iff.mp hx).1
    unfold WL
    rw [List.getElem?_append_left hk1]
    exact hx
  have hl2 : ∀ (k : Nat) (x : Nat × va_E), (sbw g G q cap ml bf)[k]? = some x → (WL g G q cap ml bf)[NP + k]? = some x := fun k x hx => by
    unfold WL
    rw [List.getElem?_append_right (by rw [hlen]; omega), hlen, Nat.add_sub_cancel_left]
    exact hx
  have hP1 : va_P (gD g) cls (wl g G) s.heap := fun k x hx => hP0 k x (hl1 k x hx)
  have hP2 : va_P (gD g) cls (sbw g G q cap ml bf) s.heap := fun k x hx => hP0 _ x (hl2 k x hx)
  have hD1 : va_D (AL g) (wl g G) := ⟨fun i j a b hi hj => hD0.1 i j a b (hl1 i a hi) (hl1 j b hj), fun k x hx => hD0.2 k x (hl1 k x hx)⟩
  have hD2 : va_D (AL g) (sbw g G q cap ml bf) := ⟨fun i j a b hi hj hab => by
    have := hD0.1 _ _ a b (hl2 i a hi) (hl2 j b hj) hab
    omega, fun k x hx => hD0.2 _ x (hl2 k x hx)⟩
  have hAL : ∀ a : Nat, va_A (sbw g G q cap ml bf) s.heap.size a → AL g a := by
    rintro a (⟨k, e9, hx⟩ | hx)
    · exact hD2.2 k _ hx
    · exact Nat.le_trans hG.2.2.2.2.2.1 hx
  have hnA : ∀ (k : Nat) (x : Nat × va_E), (wl g G)[k]? = some x → x.1 < s.heap.size ∧ ¬ va_A (sbw g G q cap ml bf) s.heap.size x.1 := by
    intro k x hx
    have hlt := (hP1 k x hx).lt
    refine ⟨hlt, ?_⟩
    rintro (⟨k2, e9, hx2⟩ | hx2)
    · have h1 := hD0.1 _ _ _ _ (hl1 k x hx) (hl2 k2 _ hx2) rfl
      have hk1 : k < (wl g G).length := (List.getElem?_eq_some_iff.mp hx).1
      rw [hlen] at hk1
      omega
    · omega
  obtain ⟨Qu, hC, hq⟩ := hU (va_A (sbw g G q cap ml bf) s.heap.size) q cap ml bf hb
  obtain ⟨t, o, h1, h2, h3, ⟨⟨v, B9, ho, hqu, hW9⟩, hF⟩, L, hfe, hL⟩ := hC p e ha hc hk s m as.toArray below hf hfit ⟨rfl, hG, ⟨hP2, hD2.self⟩, fun a h => Or.inr h, hAL⟩ hK
  obtain ⟨tx, hBT, hQp⟩ := hq v B9 hqu
  refine ⟨t, o, h1, h2, h3, Or.inl ⟨⟨⟨v, sbG G tx, ho, hQp, ?_⟩, ?_⟩, L, hfe, fun x hx => hAL _ (hL x hx)⟩⟩
  · obtain ⟨q9, c9, m9, n9, f9, ex9⟩ := B9
    obtain ⟨hex, hb9⟩ := hBT
    dsimp only at hex hb9
    subst hex
    obtain ⟨b1, b2, b3, b4⟩ := hb9
    have hwl : wl g (sbG G tx) = wl g G := wl_cg fun i hi => sbG_i hi
    have hP9 : va_P (gD g) cls (wl g G) (stepsAlone p.tables e t s).heap := hP1.kept fun k x hx => hF.2 x.1 (hnA k x hx).1 (hnA k x hx).2
    have hsw : sbw g (sbG G tx) q9 c9 m9 f9 = bwl g (q9, c9, m9, n9, f9, []) := by
      show [_, _] = [_, _]
      rw [b1]
      rfl
    refine ⟨q9, c9, m9, f9, ⟨b2.1, b2.2.1, b2.2.2, b3, b4⟩, ?_, ?_⟩
    · unfold WL
      rw [hwl, hsw]
      exact hP9.app hW9.1
    · unfold WL
      rw [hwl, hsw]
      refine hD1.app (hW9.2.weaken fun k x _ hx => hAL _ hx) fun i j x z hx hz hxz => ?_
      have := hW9.2.2 j z hz
      rw [← hxz] at this
      exact (hnA i x hx).2 this
  · exact ⟨hF.1, fun a ha1 ha2 => hF.2 a ha1 fun z => ha2 (hAL a z)⟩

set_option maxHeartbeats 4000000 in
set_option maxRecDepth 100000 in
theorem b_J4_append_cf468 {g : GT} {A : Nat → Prop} {q cap : Nat} {ml : Int32} {cnt : Int} {bf : Nat → Int32} {t : Tx} (h : BTs t cap cnt bf) (h_l : t.1 ≤ 90) {c : Int} (h_c : 0 ≤ c ∧ c < 128) : CtrU g A yJ4_append_cf468 cJ4_append_cf468 2 (some (FieldType.object "java/lang/StringBuilder")) (rmL 4 1 202) [vR g 121, vI c] (q, cap, ml, cnt, bf, []) (fun v B9 => v = some (vR g 121) ∧ BT (tc t c) B9) := by
  refine ctrU_of [some (vR g 121), some (vI c)] (by decide) (Nat.le_of_ble_eq_true rfl) rfl (fun γ E => ?_)
  show UV γ g A cJ4_append_cf468 2 RJ4 (rmL 4 1 202) (q, cap, ml, cnt, bf, []) 0 0 0 [some (vR g 121), some (vI c)] []
  refine u_aload_n (pc := 0) rfl dJ4_append_cf468_0 ?_
  refine u_iload_n (pc := 1) rfl dJ4_append_cf468_1 ?_
  refine u_callP (pc := 2) (rest := []) (b_J5_append_3fe6f h h_l h_c) pok_J5_append_3fe6f wM_J4_50 (rmOk (by decide) (by decide)) ⟨Nat.le_of_ble_eq_true rfl, Nat.le_of_ble_eq_true rfl⟩ (Nat.le_of_ble_eq_true rfl) rfl dJ4_append_cf468_2 (fun v B9 hq => ?_)
  obtain ⟨rfl, hb9⟩ := hq
  refine u_stk (st' := [vR g 121]) rfl ?_
  obtain ⟨q9, c9, m9, n9, f9, e9⟩ := B9
  refine u_pop (pc := 5) rfl dJ4_append_cf468_5 ?_
  refine u_aload_n (pc := 6) rfl dJ4_append_cf468_6 ?_
  exact u_aret (pc := 7) E (⟨rfl, hb9⟩) (Nat.le_of_ble_eq_true rfl) (Nat.le_of_ble_eq_true rfl) dJ4_append_cf468_7
theorem c_J4_append_cf468 {g : GT} {G : Mem} (h_l : G 122 0 ≤ 90) {c : Int} (h_c : 0 ≤ c ∧ c < 128) : Ctr g yJ4_append_cf468 cJ4_append_cf468 2 (some (FieldType.object "java/lang/StringBuilder")) (rmL 4 1 202) [vR g 121, vI c] G (fun v G' => v = some (vR g 121) ∧ G' = sbG G (tc (tG G) c)) NoX :=
  bridge fun A q cap ml bf hb => ⟨_, b_J4_append_cf468 hb h_l h_c, fun v9 B9 h9 => ⟨_, h9.2, h9.1, rfl⟩⟩
set_option maxHeartbeats 4000000 in
set_option maxRecDepth 100000 in
theorem b_J4_append_bf812 {g : GT} {A : Nat → Prop} {q cap : Nat} {ml : Int32} {cnt : Int} {bf : Nat → Int32} {t : Tx} (h : BTs t cap cnt bf) (h_l : t.1 ≤ 90) {v : Int} (h_v : 0 ≤ v ∧ v < 100) : CtrU g A yJ4_append_bf812 cJ4_append_bf812 2 (some (FieldType.object "java/lang/StringBuilder")) (rmL 4 1 202) [vR g 121, vI v] (q, cap, ml, cnt, bf, []) (fun v9 B9 => v9 = some (vR g 121) ∧ BT (tnum t v) B9) := by
  refine ctrU_of [some (vR g 121), some (vI v)] (by decide) (Nat.le_of_ble_eq_true rfl) rfl (fun γ E => ?_)
  show UV γ g A cJ4_append_bf812 2 RJ4 (rmL 4 1 202) (q, cap, ml, cnt, bf, []) 0 0 0 [some (vR g 121), some (vI v)] []
  refine u_aload_n (pc := 0) rfl dJ4_append_bf812_0 ?_
  refine u_iload_n (pc := 1) rfl dJ4_append_bf812_1 ?_
  refine u_callP (pc := 2) (rest := []) (b_J5_append_c97b9 h h_l h_v) pok_J5_append_c97b9 wM_J4_53 (rmOk (by decide) (by decide)) ⟨Nat.le_of_ble_eq_true rfl, Nat.le_of_ble_eq_true rfl⟩ (Nat.le_of_ble_eq_true rfl) rfl dJ4_append_bf812_2 (fun v B9 hq => ?_)
  obtain ⟨rfl, hb9⟩ := hq
  refine u_stk (st' := [vR g 121]) rfl ?_
  obtain ⟨q9, c9, m9, n9, f9, e9⟩ := B9
  refine u_pop (pc := 5) rfl dJ4_append_bf812_5 ?_
  refine u_aload_n (pc := 6) rfl dJ4_append_bf812_6 ?_
  exact u_aret (pc := 7) E (⟨rfl, hb9⟩) (Nat.le_of_ble_eq_true rfl) (Nat.le_of_ble_eq_true rfl) dJ4_append_bf812_7
theorem c_J4_append_bf812 {g : GT} {G : Mem} (h_l : G 122 0 ≤ 90) {v : Int} (h_v : 0 ≤ v ∧ v < 100) : Ctr g yJ4_append_bf812 cJ4_append_bf812 2 (some (FieldType.object "java/lang/StringBuilder")) (rmL 4 1 202) [vR g 121, vI v] G (fun v9 G' => v9 = some (vR g 121) ∧ G' = sbG G (tnum (tG G) v)) NoX :=
  bridge fun A q cap ml bf hb => ⟨_, b_J4_append_bf812 hb h_l h_v, fun v9 B9 h9 => ⟨_, h9.2, h9.1, rfl⟩⟩
set_option maxHeartbeats 4000000 in
set_option maxRecDepth 100000 in
theorem b_J4_setLength_d00df {g : GT} {A : Nat → Prop} {q cap : Nat} {ml : Int32} {cnt : Int} {bf : Nat → Int32} {t : Tx} (h : BTs t cap cnt bf) : CtrU g A yJ4_setLength_d00df cJ4_setLength_d00df 2 (none : Option FieldType) (rmL 4 1 202) [vR g 121, vI 0] (q, cap, ml, cnt, bf, []) (fun v B9 => v = none ∧ BT t0 B9) := by
  refine ctrU_of [some (vR g 121), some (vI 0)] (by decide) (Nat.le_of_ble_eq_true rfl) rfl (fun γ E => ?_)
  show UV γ g A cJ4_setLength_d00df 2 RJ4 (rmL 4 1 202) (q, cap, ml, cnt, bf, []) 0 0 0 [some (vR g 121), some (vI 0)] []
  refine u_aload_n (pc := 0) rfl dJ4_setLength_d00df_0 ?_
  refine u_iload_n (pc := 1) rfl dJ4_setLength_d00df_1 ?_
  refine u_callP (pc := 2) (rest := []) (b_J5_setLength_d00df h) pok_J5_setLength_d00df wM_J4_333 (rmOk (by decide) (by decide)) ⟨Nat.le_of_ble_eq_true rfl, Nat.le_of_ble_eq_true rfl⟩ (Nat.le_of_ble_eq_true rfl) rfl dJ4_setLength_d00df_2 (fun v B9 hq => ?_)
  obtain ⟨rfl, hb9⟩ := hq
  refine u_stk (st' := []) rfl ?_
  obtain ⟨q9, c9, m9, n9, f9, e9⟩ := B9
  exact u_vret (pc := 5) E (⟨rfl, hb9⟩) (Nat.le_of_ble_eq_true rfl) (Nat.le_of_ble_eq_true rfl) dJ4_setLength_d00df_5
theorem c_J4_setLength_d00df {g : GT} {G : Mem} : Ctr g yJ4_setLength_d00df cJ4_setLength_d00df 2 (none : Option FieldType) (rmL 4 1 202) [vR g 121, vI 0] G (fun v G' => v = none ∧ G' = sbG G t0) NoX :=
  bridge fun A q cap ml bf hb => ⟨_, b_J4_setLength_d00df hb, fun v9 B9 h9 => ⟨_, h9.2, h9.1, rfl⟩⟩
set_option maxHeartbeats 4000000 in
set_option maxRecDepth 100000 in
theorem b_J4_length_8abf5 {g : GT} {A : Nat → Prop} {q cap : Nat} {ml : Int32} {cnt : Int} {bf : Nat → Int32} {t : Tx} (h : BTs t cap cnt bf) : CtrU g A yJ4_length_8abf5 cJ4_length_8abf5 1 (some FieldType.int) (rmL 1 0 0) [vR g 121] (q, cap, ml, cnt, bf, []) (RU t.1 (q, cap, ml, cnt, bf, [])) := by
  refine ctrU_of [some (vR g 121)] (by decide) (Nat.le_of_ble_eq_true rfl) rfl (fun γ E => ?_)
  show UV γ g A cJ4_length_8abf5 1 RJ4 (rmL 1 0 0) (q, cap, ml, cnt, bf, []) 0 0 0 [some (vR g 121)] []
  refine u_aload_n (pc := 0) rfl dJ4_length_8abf5_0 ?_
  refine u_callP (pc := 1) (rest := []) (b_J5_length_8abf5 h) pok_J5_length_8abf5 wM_J4_343 (rmOk (by decide) (by decide)) ⟨Nat.le_of_ble_eq_true rfl, Nat.le_of_ble_eq_true rfl⟩ (Nat.le_of_ble_eq_true rfl) rfl dJ4_length_8abf5_1 (fun v B9 hq => ?_)
  obtain ⟨rfl, rfl⟩ := hq
  refine u_stk (st' := [vI t.1]) rfl ?_
  exact u_iret (pc := 4) E (⟨rfl, rfl⟩) (Nat.le_of_ble_eq_true rfl) (Nat.le_of_ble_eq_true rfl) dJ4_length_8abf5_4
theorem c_J4_length_8abf5 {g : GT} {G : Mem} : Ctr g yJ4_length_8abf5 cJ4_length_8abf5 1 (some FieldType.int) (rmL 1 0 0) [vR g 121] G (RM (G 122 0) G) NoX :=
  bridge fun A q cap ml bf hb => ⟨_, b_J4_length_8abf5 hb, fun v9 B9 h9 => ⟨_, by rw [h9.2]; exact ⟨rfl, hb⟩, h9.1, sbG_id G⟩⟩
set_option maxHeartbeats 4000000 in
set_option maxRecDepth 100000 in
theorem b_J4_charAt_5068e {g : GT} {A : Nat → Prop} {q cap : Nat} {ml : Int32} {cnt : Int} {bf : Nat → Int32} {t : Tx} (h : BTs t cap cnt bf) {z : Int} (h_z : 0 ≤ z ∧ z < t.1) : CtrU g A yJ4_charAt_5068e cJ4_charAt_5068e 2 (some FieldType.char) (rmL 3 0 0) [vR g 121, vI z] (q, cap, ml, cnt, bf, []) (RU (t.2 z) (q, cap, ml, cnt, bf, [])) := by
  refine ctrU_of [some (vR g 121), some (vI z)] (by decide) (Nat.le_of_ble_eq_true rfl) rfl (fun γ E => ?_)
  show UV γ g A cJ4_charAt_5068e 2 RJ4 (rmL 3 0 0) (q, cap, ml, cnt, bf, []) 0 0 0 [some (vR g 121), some (vI z)] []
  have hz4 := h.2.2.2 z.toNat (by omega)
  rw [Int.toNat_of_nonneg h_z.1] at hz4
  obtain ⟨hz41, hz42, -⟩ := hz4
  refine u_aload_n (pc := 0) rfl dJ4_charAt_5068e_0 ?_
  refine u_iload_n (pc := 1) rfl dJ4_charAt_5068e_1 ?_
  refine u_callP (pc := 2) (rest := []) (b_J5_charAt_5068e h h_z) pok_J5_charAt_5068e wM_J4_329 (rmOk (by decide) (by decide)) ⟨Nat.le_of_ble_eq_true rfl, Nat.le_of_ble_eq_true rfl⟩ (Nat.le_of_ble_eq_true rfl) rfl dJ4_charAt_5068e_2 (fun v B9 hq => ?_)
  obtain ⟨rfl, rfl⟩ := hq
  refine u_stk (st' := [vI (t.2 z)]) rfl ?_
  exact u_cret (pc := 5) E (by omega) (⟨rfl, rfl⟩) (Nat.le_of_ble_eq_true rfl) (Nat.le_of_ble_eq_true rfl) dJ4_charAt_5068e_5
theorem c_J4_charAt_5068e {g : GT} {G : Mem} {z : Int} (h_z : 0 ≤ z ∧ z < G 122 0) : Ctr g yJ4_charAt_5068e cJ4_charAt_5068e 2 (some FieldType.char) (rmL 3 0 0) [vR g 121, vI z] G (RM (G 121 z) G) NoX :=
  bridge fun A q cap ml bf hb => ⟨_, b_J4_charAt_5068e hb h_z, fun v9 B9 h9 => ⟨_, by rw [h9.2]; exact ⟨rfl, hb⟩, h9.1, sbG_id G⟩⟩
