-- the model's payments
/-- at which place the die i stands, from the greatest value down -/
def rkM (M : Int → Int) (i : Int) : Int := sz (M 0) (fun o => if M (9 + 3 * i) < M (9 + 3 * o) then 1 else 0)
def SrtM (M β : Int → Int) : Prop := (∀ i, 0 ≤ i → i < M 0 → β (rkM M i) = i) ∧ ∀ f, 0 ≤ f → f < M 0 → (0 ≤ β f ∧ β f < M 0) ∧ rkM M (β f) = f
theorem rkM_r {M : Int → Int} (h : MoI M) {i : Int} (hi : 0 ≤ i ∧ i < M 0) : 0 ≤ rkM M i ∧ rkM M i < M 0 := by
  have h1 := sz_cnt (n := M 0) (p := fun o => M (9 + 3 * i) < M (9 + 3 * o)) (fun k => Int.decLt _ _) h.1.1
  have h2 := sz_sub (n := M 0) (f := fun _ => 1) (g := fun o => if M (9 + 3 * i) < M (9 + 3 * o) then 1 else 0) h.1.1
  have h3 := sz_ge (n := M 0) (i := i) (f := fun o => 1 - (if M (9 + 3 * i) < M (9 + 3 * o) then 1 else 0)) h.1.1 (fun k _ _ => by split <;> omega) hi
  have h4 := sz_one (n := M 0) h.1.1
  simp only [Int.lt_irrefl, if_false] at h3
  unfold rkM
  omega
theorem rkM_lt {M : Int → Int} (h : MoI M) {i j : Int} (hj : 0 ≤ j ∧ j < M 0) (hlt : M (9 + 3 * i) < M (9 + 3 * j)) : rkM M j < rkM M i := by
  have h2 := sz_sub (n := M 0) (f := fun o => if M (9 + 3 * i) < M (9 + 3 * o) then 1 else 0) (g := fun o => if M (9 + 3 * j) < M (9 + 3 * o) then 1 else 0) h.1.1
  have h3 := sz_ge (n := M 0) (i := j) (f := fun o => (if M (9 + 3 * i) < M (9 + 3 * o) then 1 else 0) - (if M (9 + 3 * j) < M (9 + 3 * o) then 1 else 0)) h.1.1 (fun k _ _ => by
    by_cases q : M (9 + 3 * j) < M (9 + 3 * k)
    · rw [if_pos q, if_pos (by omega)]; omega
    · rw [if_neg q]; split <;> omega) hj
  simp only [Int.lt_irrefl, if_false, if_pos hlt] at h3
  unfold rkM
  omega
theorem rkM_inj {M : Int → Int} (h : MoI M) {i j : Int} (hi : 0 ≤ i ∧ i < M 0) (hj : 0 ≤ j ∧ j < M 0) (hne : i ≠ j) : rkM M i ≠ rkM M j := by
  have hv : M (9 + 3 * i) ≠ M (9 + 3 * j) := by
    rcases Int.lt_or_gt_of_ne hne with q | q
    · exact h.2.2.2.2.2.2 i j hi.1 q hj.2
    · exact fun e => h.2.2.2.2.2.2 j i hj.1 q hi.2 e.symm
  rcases Int.lt_or_gt_of_ne hv with q | q
  · have := rkM_lt h hj q; omega
  · have := rkM_lt h hi q; omega
theorem cnt_inj {d : Int → Int} {x : Int} : ∀ n : Nat, (∀ j k : Int, 0 ≤ j → j < k → k < n → d j ≠ d k) → sm n (fun k => if d k = x then 1 else 0) ≤ 1
  | 0, _ => by show (0 : Int) ≤ 1; omega
  | n + 1, h => by
    have ih := cnt_inj (d := d) (x := x) n (fun j k a b c => h j k a b (by omega))
    show sm n _ + (if d n = x then 1 else 0) ≤ 1
    by_cases q : d n = x
    · rw [if_pos q]
      have : sm n (fun k => if d k = x then 1 else 0) = 0 := by
        have := sz_zero (n := (n : Int)) (f := fun k => if d k = x then 1 else 0) (by omega) (fun k k0 k1 => if_neg (fun e => h k n k0 k1 (by omega) (e.trans q.symm)))
        unfold sz at this
        simpa using this
      omega
    · rw [if_neg q]; omega
/-- an injective map of the first n numbers into themselves reaches each -/
theorem inj_surj {n : Nat} {d : Int → Int} (hr : ∀ k : Int, 0 ≤ k → k < n → 0 ≤ d k ∧ d k < n) (hi : ∀ j k : Int, 0 ≤ j → j < k → k < n → d j ≠ d k) {f : Int} (f0 : 0 ≤ f) (f1 : f < n) : ∃ k, 0 ≤ k ∧ k < (n : Int) ∧ d k = f := by
  refine Classical.byContradiction fun hno => ?_
  have h1 := sm_cnt (f := fun _ => 1) (d := d) (N := n) n hr
  have h2 : sm n (fun _ => (1 : Int)) = n := by
    have := sz_one (n := (n : Int)) (by omega)
    unfold sz at this
    simpa using this
  have h3 := sz_sub (n := (n : Int)) (f := fun _ => 1) (g := fun i => 1 * sm n (fun k => if d k = i then 1 else 0)) (by omega)
  have h4 := sz_ge (n := (n : Int)) (i := f) (f := fun i => 1 - 1 * sm n (fun k => if d k = i then 1 else 0)) (by omega) (fun i _ _ => by have := cnt_inj (x := i) n hi; omega) ⟨f0, f1⟩
  have h5 : sm n (fun k => if d k = f then 1 else 0) = 0 := by
    have := sz_zero (n := (n : Int)) (f := fun k => if d k = f then 1 else 0) (by omega) (fun k k0 k1 => if_neg (fun e => hno ⟨k, k0, k1, e⟩))
    unfold sz at this
    simpa using this
  rw [h5] at h4
  unfold sz at h3 h4
  simp only [Int.toNat_natCast] at h3 h4
  rw [h2] at h1 h3
  omega
theorem perm_sum {n : Nat} {d F : Int → Int} (hr : ∀ k : Int, 0 ≤ k → k < n → 0 ≤ d k ∧ d k < n) (hi : ∀ j k : Int, 0 ≤ j → j < k → k < n → d j ≠ d k) : sm n (fun k => F (d k)) = sm n F := by
  rw [sm_cnt n hr]
  refine sm_congr fun i i0 i1 => ?_
  obtain ⟨k, k0, k1, k2⟩ := inj_surj hr hi i0 i1
  have h1 := cnt_inj (x := i) n hi
  have h2 := sz_ge (n := (n : Int)) (i := k) (f := fun k => if d k = i then 1 else 0) (by omega) (fun k _ _ => by split <;> omega) ⟨k0, k1⟩
  unfold sz at h2
  simp only [Int.toNat_natCast, if_pos k2] at h2
  rw [show sm n (fun k => if d k = i then 1 else 0) = 1 by omega, Int.mul_one]
theorem rkM_surj {M : Int → Int} (h : MoI M) {f : Int} (f0 : 0 ≤ f) (f1 : f < M 0) : ∃ i, 0 ≤ i ∧ i < M 0 ∧ rkM M i = f := by
  have hn := MoI_n h
  have e : ((M 0).toNat : Int) = M 0 := by omega
  obtain ⟨k, a, b, c⟩ := inj_surj (n := (M 0).toNat) (d := rkM M) (fun k k0 k1 => by rw [e] at k1 ⊢; exact rkM_r h ⟨k0, k1⟩) (fun j k j0 jk k1 => by rw [e] at k1; exact rkM_inj h ⟨j0, by omega⟩ ⟨by omega, k1⟩ (by omega)) f0 (by omega)
  exact ⟨k, a, by omega, c⟩
abbrev vsB (M β : Int → Int) (r : Int) : Int := M (9 + 3 * β (M 0 - 1 - r))
abbrev cnB (M β : Int → Int) (r : Int) : Int := cntE (M 3) (fun k => M (24 + 3 * k)) (β (M 0 - 1 - r))
theorem vsB_r {M β : Int → Int} (h : MoI M) (hβ : SrtM M β) {r : Int} (h0 : 0 ≤ r) (h1 : r < M 0) : 1 ≤ vsB M β r ∧ vsB M β r ≤ 50 := by
  have := (hβ.2 (M 0 - 1 - r) (by omega) (by omega)).1
  exact (MoI_d h this.1 this.2).1
theorem cnB_r {M : Int → Int} (β : Int → Int) (h : MoI M) (r : Int) : 0 ≤ cnB M β r ∧ cnB M β r ≤ 40 := by
  have h1 : 0 ≤ cnB M β r ∧ cnB M β r ≤ M 3 := sz_cnt (fun k => Int.instDecidableEq _ _) (MoI_c h).1
  have := MoI_c h
  omega
theorem TabB {M β : Int → Int} (h : MoI M) (hβ : SrtM M β) {r : Nat} (hr : (r : Int) ≤ M 0) (a : Int) : 0 ≤ Tab (vsB M β) (cnB M β) r a ∧ Tab (vsB M β) (cnB M β) r a ≤ 1000 :=
  Tab_r (fun _ => Or.inr trivial) r (fun s hs => by have := vsB_r h hβ (r := (s : Int)) (by omega) (by omega); omega) r (Nat.le_refl _) a
/-- byValue and the table stand -/
def WkI (G G' : Mem) : Prop := SrtM (G 107) (G' 112) ∧ (∀ h, 0 ≤ h → h ≤ G 107 0 → ∀ a, 0 ≤ a → a < 100 → G' 113 (100 * h + a) = Tab (vsB (G 107) (G' 112)) (cnB (G 107) (G' 112)) (G 107 0 - h).toNat a) ∧ ∀ j z, j ≠ 112 → j ≠ 113 → G' j z = G j z
theorem mnT_s {f : Int → Int} {v a t : Int} (h : 0 ≤ t) (hle : t * v ≤ a) : mnT f v a (t + 1).toNat = mnI (mnT f v a t.toNat) (t + f (a - t * v)) := by
  obtain ⟨s, rfl⟩ := Int.eq_ofNat_of_zero_le h
  rw [show ((s : Int) + 1).toNat = s + 1 by omega, Int.toNat_natCast]
  show (if (s : Int) * v ≤ a ∧ f (a - (s : Int) * v) + s < mnT f v a s then f (a - (s : Int) * v) + s else mnT f v a s) = if (s : Int) + f (a - (s : Int) * v) < mnT f v a s then (s : Int) + f (a - (s : Int) * v) else mnT f v a s
  by_cases q : f (a - (s : Int) * v) + s < mnT f v a s
  · rw [if_pos ⟨hle, q⟩, if_pos (by omega)]; omega
  · rw [if_neg (fun z => q z.2), if_neg (by omega)]
theorem mnI_1000 {x : Int} (h : x ≤ 1000) : mnI 1000 x = x := by
  unfold mnI
  split <;> omega
theorem mst_up {f : Int → Int} {fe v x t : Int} (h : 0 ≤ t) (hle : t * v ≤ x) (ht0 : t = 0 → True) : (if t + f (x - t * v) = fe then t else mst f fe v x (t - 1).toNat) = mst f fe v x t.toNat := by
  by_cases q : t = 0
  · subst q
    show (if _ then _ else (0 : Int)) = (0 : Int)
    split <;> rfl
  · rw [mst_u (t := t) (by omega)]
    refine if_congr ⟨fun z => ⟨hle, ?_⟩, fun z => ?_⟩ rfl rfl
    · rw [← z, Int.add_comm]
    · rw [← z.2, Int.add_comm]
theorem mst_stop {f : Int → Int} {fe v x : Int} (hv : 0 ≤ v) {t : Nat} (h : x < ((t : Int) + 1) * v) : ∀ s : Nat, mst f fe v x (t + s) = mst f fe v x t
  | 0 => rfl
  | s + 1 => by
    show (if (((t + s : Nat) : Int) + 1) * v ≤ x ∧ _ then _ else mst f fe v x (t + s)) = _
    rw [if_neg (fun z => ?_), mst_stop hv h s]
    have := Int.mul_le_mul_of_nonneg_right (show (t : Int) + 1 ≤ ((t + s : Nat) : Int) + 1 by omega) hv
    omega

set_option maxHeartbeats 4000000 in
set_option maxRecDepth 100000 in
theorem c_X4_sortsDies {g : GT} {G : Mem} (hM : MoI (G 107)) : Ctr g yX4_sortsDies cX4_sortsDies 4 (none : Option FieldType) (rmL 1 0 0) [vR g 106] G (VP (fun G' => SrtM (G 107) (G' 112) ∧ ∀ j z, j ≠ 112 → G' j z = G j z)) NoX := by
  refine ctr_of [some (vR g 106), none, none, none] (by decide) (Nat.le_of_ble_eq_true rfl) rfl (fun γ E => ?_)
  show V γ g cX4_sortsDies 4 RX4 (rmL 1 0 0) G 0 0 0 [some (vR g 106), none, none, none] []
  have hn := MoI_n hM
  have hc := MoI_c hM
  have hy := MoI_y hM
  refine v_iconst (pc := 0) (z := 0) dX4_sortsDies_0 ?_
  refine v_istore_n (pc := 1) (by decide) rfl dX4_sortsDies_1 ?_
  have lp2 : ∀ (m2 : Nat) (i : Int) (G1 : Mem), (0 ≤ i ∧ i ≤ G 107 0) → (∀ j, 0 ≤ j → j < i → G1 112 (rkM (G 107) j) = j) → (∀ j z, j ≠ 112 → G1 j z = G j z) → ((G 107 0 - i).toNat) < m2 → V γ g cX4_sortsDies 4 RX4 (rmL 1 0 0) G1 0 0 2 [some (vR g 106), some (vI i), none, none] [] := by
    intro m2
    induction m2 with
    | zero => intro i G1; intros; omega
    | succ m2 ih2 =>
      intro i G1 h0 hβ hF hm2
      have m0 : G1 107 0 = G 107 0 := hF 107 0 (by decide)
      have m7 : ∀ z, G1 107 z = G 107 z := fun z => hF 107 z (by decide)
      refine v_iload_n (pc := 2) rfl dX4_sortsDies_2 ?_
      refine v_aload_n (pc := 3) rfl dX4_sortsDies_3 ?_
      refine v_getR (pc := 4) (j := 107) fd_X4_9 (rfl) (by decide) rfl dX4_sortsDies_4 ?_
      refine v_iconst (pc := 7) (z := 0) dX4_sortsDies_7 ?_
      refine v_iald (pc := 8) (N := 144) rfl rfl (by decide) (by omega) (by decide) dX4_sortsDies_8 ?_
      refine v_icmp_ge (pc := 9) (tgt := 74) (by omega) dX4_sortsDies_9 (by decide) (fun bq1 => ?_) (fun bq1 => ?_)
      · skip
        exact v_vret (pc := 74) E (⟨rfl, ⟨fun j a c => hβ j a (by omega), fun f f0 f1 => by
          obtain ⟨j, j0, j1, j2⟩ := rkM_surj hM f0 f1
          have e := hβ j j0 (by omega)
          rw [j2] at e
          rw [e]
          exact ⟨⟨j0, j1⟩, j2⟩⟩, hF⟩) (Nat.le_of_ble_eq_true rfl) (Nat.le_of_ble_eq_true rfl) dX4_sortsDies_74
      · skip
        refine v_iconst (pc := 12) (z := 0) dX4_sortsDies_12 ?_
        refine v_istore_n (pc := 13) (by decide) rfl dX4_sortsDies_13 ?_
        refine v_iconst (pc := 14) (z := 0) dX4_sortsDies_14 ?_
        refine v_istore_n (pc := 15) (by decide) rfl dX4_sortsDies_15 ?_
        have lp16 : ∀ (m16 : Nat) (o : Int) (c : Int), (0 ≤ o ∧ o ≤ G 107 0) → (c = sz o (fun o => if G 107 (9 + 3 * i) < G 107 (9 + 3 * o) then 1 else 0)) → ((G 107 0 - o).toNat) < m16 → V γ g cX4_sortsDies 4 RX4 (rmL 1 0 0) G1 0 0 16 [some (vR g 106), some (vI i), some (vI c), some (vI o)] [] := by
          intro m16
          induction m16 with
          | zero => intro o c; intros; omega
          | succ m16 ih16 =>
            intro o c g0 hs hm16
            refine v_iload_n (pc := 16) rfl dX4_sortsDies_16 ?_
            refine v_aload_n (pc := 17) rfl dX4_sortsDies_17 ?_
            refine v_getR (pc := 18) (j := 107) fd_X4_9 (rfl) (by decide) rfl dX4_sortsDies_18 ?_
            refine v_iconst (pc := 21) (z := 0) dX4_sortsDies_21 ?_
            refine v_iald (pc := 22) (N := 144) rfl rfl (by decide) (by omega) (by decide) dX4_sortsDies_22 ?_
            refine v_icmp_ge (pc := 23) (tgt := 61) (by omega) dX4_sortsDies_23 (by decide) (fun bq2 => ?_) (fun bq2 => ?_)
            · skip
              have hrk : c = rkM (G 107) i := by rw [hs, show o = G 107 0 by omega]; rfl
              have hrr := rkM_r hM (i := i) (by omega)
              rw [← hrk] at hrr
              refine v_aload_n (pc := 61) rfl dX4_sortsDies_61 ?_
              refine v_getR (pc := 62) (j := 112) fd_X4_32 (rfl) (by decide) rfl dX4_sortsDies_62 ?_
              refine v_iload_n (pc := 65) rfl dX4_sortsDies_65 ?_
              refine v_iload_n (pc := 66) rfl dX4_sortsDies_66 ?_
              refine v_iast (pc := 67) (N := 5) rfl rfl (by decide) (by omega) (by decide) dX4_sortsDies_67 ?_
              refine v_iinc (pc := 68) (y := 1) rfl (by decide) rfl dX4_sortsDies_68 ?_
              refine v_goto (pc := 71) (tgt := 2) dX4_sortsDies_71 (by decide) ?_
              refine v_loc (L' := [some (vR g 106), some (vI (i + 1)), none, none]) (⟨rfl, rfl, trivial⟩) ?_
              exact ih2 (i + 1) (upd2 G1 112 c i) (by omega) (fun j a c => (Classical.em (j = i)).elim (fun e => by rw [e, ← hrk, upd2_s]) (fun e => by rw [upd2_z (by rw [hrk]; exact rkM_inj hM ⟨a, by omega⟩ ⟨h0.1, by omega⟩ e)]; exact hβ j a (by omega))) (fun j z a => (upd2_i a).trans (hF j z a)) (by omega)
            · skip
              have ro := MoI_d hM (i := o) (by omega) (by omega)
              have ri := MoI_d hM (i := i) (by omega) (by omega)
              have mo := m7 (9 + 3 * o)
              have mi := m7 (9 + 3 * i)
              refine v_iload_n (pc := 26) rfl dX4_sortsDies_26 ?_
              refine v_aload_n (pc := 27) rfl dX4_sortsDies_27 ?_
              refine v_getR (pc := 28) (j := 107) fd_X4_9 (rfl) (by decide) rfl dX4_sortsDies_28 ?_
              refine v_iload_n (pc := 31) rfl dX4_sortsDies_31 ?_
              refine v_callS (pc := 32) (rest := [vR g 107, vI c]) (c_X4_dieAt) sok_X4_dieAt wM_X4_64 (rmOk (by decide) (by decide)) ⟨Nat.le_of_ble_eq_true rfl, Nat.le_of_ble_eq_true rfl⟩ (Nat.le_of_ble_eq_true rfl) rfl dX4_sortsDies_32 (fun v G' hq => ?_) (fun _ _ h => h.elim)
              obtain ⟨rfl, hG9⟩ := hq
              rw [hG9]
              refine v_stk (st' := [vI (9 + 3 * o), vR g 107, vI c]) rfl ?_
              refine v_iald (pc := 35) (N := 144) rfl rfl (by decide) (by omega) (by decide) dX4_sortsDies_35 ?_
              refine v_aload_n (pc := 36) rfl dX4_sortsDies_36 ?_
              refine v_getR (pc := 37) (j := 107) fd_X4_9 (rfl) (by decide) rfl dX4_sortsDies_37 ?_
              refine v_iload_n (pc := 40) rfl dX4_sortsDies_40 ?_
              refine v_callS (pc := 41) (rest := [vR g 107, vI (G1 107 (9 + 3 * o)), vI c]) (c_X4_dieAt) sok_X4_dieAt wM_X4_64 (rmOk (by decide) (by decide)) ⟨Nat.le_of_ble_eq_true rfl, Nat.le_of_ble_eq_true rfl⟩ (Nat.le_of_ble_eq_true rfl) rfl dX4_sortsDies_41 (fun v G' hq => ?_) (fun _ _ h => h.elim)
              obtain ⟨rfl, hG9⟩ := hq
              rw [hG9]
              refine v_stk (st' := [vI (9 + 3 * i), vR g 107, vI (G1 107 (9 + 3 * o)), vI c]) rfl ?_
              refine v_iald (pc := 44) (N := 144) rfl rfl (by decide) (by omega) (by decide) dX4_sortsDies_44 ?_
              refine v_icmp_le (pc := 45) (tgt := 52) (by omega) dX4_sortsDies_45 (by decide) (fun bq3 => ?_) (fun bq3 => ?_)
              · skip
                refine v_iconst (pc := 52) (z := 0) dX4_sortsDies_52 ?_
                refine v_iadd (pc := 53) dX4_sortsDies_53 ?_
                refine v_istore_n (pc := 54) (by decide) rfl dX4_sortsDies_54 ?_
                refine v_iinc (pc := 55) (y := 1) rfl (by decide) rfl dX4_sortsDies_55 ?_
                refine v_goto (pc := 58) (tgt := 16) dX4_sortsDies_58 (by decide) ?_
                exact ih16 (o + 1) (c + 0) (by omega) (by rw [sz_s (by omega)]; first | (rw [if_pos (by omega)]; omega) | (rw [if_neg (by omega)]; omega) | omega) (by omega)
              · skip
                refine v_iconst (pc := 48) (z := 1) dX4_sortsDies_48 ?_
                refine v_goto (pc := 49) (tgt := 53) dX4_sortsDies_49 (by decide) ?_
                refine v_iadd (pc := 53) dX4_sortsDies_53 ?_
                refine v_istore_n (pc := 54) (by decide) rfl dX4_sortsDies_54 ?_
                refine v_iinc (pc := 55) (y := 1) rfl (by decide) rfl dX4_sortsDies_55 ?_
                refine v_goto (pc := 58) (tgt := 16) dX4_sortsDies_58 (by decide) ?_
                exact ih16 (o + 1) (c + 1) (by omega) (by rw [sz_s (by omega)]; first | (rw [if_pos (by omega)]; omega) | (rw [if_neg (by omega)]; omega) | omega) (by omega)
        refine v_loc (L' := [some (vR g 106), some (vI i), some (vI 0), some (vI 0)]) (⟨rfl, rfl, rfl, rfl, trivial⟩) ?_
        exact lp16 _ 0 0 (by omega) rfl (Nat.lt_succ_self _)
  refine v_loc (L' := [some (vR g 106), some (vI 0), none, none]) (⟨rfl, rfl, trivial⟩) ?_
  exact lp2 _ 0 G (by omega) (fun j a c => absurd c (by omega)) (fun _ _ _ => rfl) (Nat.lt_succ_self _)
set_option maxHeartbeats 4000000 in
set_option maxRecDepth 100000 in
theorem c_X4_works {g : GT} {G : Mem} (hM : MoI (G 107)) : Ctr g yX4_works cX4_works 8 (none : Option FieldType) (rmL 2 0 0) [vR g 106] G (VP (fun G' => WkI G G')) NoX := by
  refine ctr_of [some (vR g 106), none, none, none, none, none, none, none] (by decide) (Nat.le_of_ble_eq_true rfl) rfl (fun γ E => ?_)
  show V γ g cX4_works 8 RX4 (rmL 2 0 0) G 0 0 0 [some (vR g 106), none, none, none, none, none, none, none] []
  have hn := MoI_n hM
  have hc := MoI_c hM
  have hy := MoI_y hM
  refine v_aload_n (pc := 0) rfl dX4_works_0 ?_
  refine v_callV (pc := 1) (rest := []) (c_X4_sortsDies hM) iok_X4_sortsDies wM_X4_138 (rfl) (by decide) (by decide) rfl (rmOk (by decide) (by decide)) ⟨Nat.le_of_ble_eq_true rfl, Nat.le_of_ble_eq_true rfl⟩ (Nat.le_of_ble_eq_true rfl) rfl dX4_works_1 (fun v G1 hq => ?_) (fun _ _ h => h.elim)
  obtain ⟨rfl, hq⟩ := hq
  refine v_stk (st' := []) rfl ?_
  obtain ⟨hS, hF1⟩ := hq
  have m7 : ∀ z, G1 107 z = G 107 z := fun z => hF1 107 z (by decide)
  have m0 := m7 0
  refine v_aload_n (pc := 4) rfl dX4_works_4 ?_
  refine v_getR (pc := 5) (j := 107) fd_X4_9 (rfl) (by decide) rfl dX4_works_5 ?_
  refine v_iconst (pc := 8) (z := 0) dX4_works_8 ?_
  refine v_iald (pc := 9) (N := 144) rfl rfl (by decide) (by omega) (by decide) dX4_works_9 ?_
  obtain ⟨n, h_n⟩ : ∃ w9, w9 = (G1 107 0) := ⟨_, rfl⟩
  refine v_stk (st' := [vI n]) (by rw [h_n]) ?_
  have hnn : n = G 107 0 := by rw [h_n]; exact m0
  refine v_istore_n (pc := 10) (by decide) rfl dX4_works_10 ?_
  refine v_iconst (pc := 11) (z := 0) dX4_works_11 ?_
  refine v_istore_n (pc := 12) (by decide) rfl dX4_works_12 ?_
  have lp13 : ∀ (m13 : Nat) (a : Int) (G2 : Mem), (0 ≤ a ∧ a ≤ 100) → (∀ x, 0 ≤ x → x < a → G2 113 (100 * n + x) = Tab (vsB (G 107) (G1 112)) (cnB (G 107) (G1 112)) 0 x) → (∀ j z, j ≠ 113 → G2 j z = G1 j z) → ((100 - a).toNat) < m13 → V γ g cX4_works 8 RX4 (rmL 2 0 0) G2 0 0 13 [some (vR g 106), some (vI n), some (vI a), none, none, none, none, none] [] := by
    intro m13
    induction m13 with
    | zero => intro a G2; intros; omega
    | succ m13 ih13 =>
      intro a G2 h0 hT hF2 hm13
      refine v_iload_n (pc := 13) rfl dX4_works_13 ?_
      refine v_bipush (pc := 14) (z := 99) rfl dX4_works_14 ?_
      refine v_icmp_gt (pc := 16) (tgt := 46) (by omega) dX4_works_16 (by decide) (fun bq1 => ?_) (fun bq1 => ?_)
      · skip
        refine v_iload_n (pc := 46) rfl dX4_works_46 ?_
        refine v_iconst (pc := 47) (z := 1) dX4_works_47 ?_
        refine v_isub (pc := 48) dX4_works_48 ?_
        refine v_istore_n (pc := 49) (by decide) rfl dX4_works_49 ?_
        have lp50 : ∀ (m50 : Nat) (f : Int) (G3 : Mem), (-1 ≤ f ∧ f < n) → (∀ h, f < h → h ≤ n → ∀ x, 0 ≤ x → x < 100 → G3 113 (100 * h + x) = Tab (vsB (G 107) (G1 112)) (cnB (G 107) (G1 112)) (n - h).toNat x) → (∀ j z, j ≠ 113 → G3 j z = G1 j z) → ((f + 1).toNat) < m50 → V γ g cX4_works 8 RX4 (rmL 2 0 0) G3 0 0 50 [some (vR g 106), some (vI n), some (vI f), none, none, none, none, none] [] := by
          intro m50
          induction m50 with
          | zero => intro f G3; intros; omega
          | succ m50 ih50 =>
            intro f G3 f0 hT3 hF3 hm50
            have k7 : ∀ z, G3 107 z = G 107 z := fun z => (hF3 107 z (by decide)).trans (m7 z)
            have k12 : ∀ z, G3 112 z = G1 112 z := fun z => hF3 112 z (by decide)
            refine v_iload_n (pc := 50) rfl dX4_works_50 ?_
            refine v_if_lt (pc := 51) (tgt := 180) (by omega) dX4_works_51 (by decide) (fun bq2 => ?_) (fun bq2 => ?_)
            · skip
              exact v_vret (pc := 180) E (⟨rfl, by
                have e12 : G3 112 = G1 112 := funext fun z => hF3 112 z (by decide)
                refine ⟨by rw [e12]; exact hS, fun h h0 h1 x x0 x1 => ?_, fun j z a b => (hF3 j z b).trans (hF1 j z a)⟩
                rw [e12, ← hnn]
                exact hT3 h (by omega) (by omega) x x0 x1⟩) (Nat.le_of_ble_eq_true rfl) (Nat.le_of_ble_eq_true rfl) dX4_works_180
            · skip
              have hβf := hS.2 f (by omega) (by omega)
              have vr := vsB_r hM hS (r := n - 1 - f) (by omega) (by omega)
              have cr := cnB_r (G1 112) hM (n - 1 - f)
              have eM : (fun z => G3 107 z) = G 107 := funext k7
              refine v_aload_n (pc := 54) rfl dX4_works_54 ?_
              refine v_getR (pc := 55) (j := 107) fd_X4_9 (rfl) (by decide) rfl dX4_works_55 ?_
              refine v_aload_n (pc := 58) rfl dX4_works_58 ?_
              refine v_getR (pc := 59) (j := 112) fd_X4_32 (rfl) (by decide) rfl dX4_works_59 ?_
              refine v_iload_n (pc := 62) rfl dX4_works_62 ?_
              have hb12 := k12 f
              refine v_iald (pc := 63) (N := 5) rfl rfl (by decide) (by omega) (by decide) dX4_works_63 ?_
              refine v_callS (pc := 64) (rest := [vR g 107]) (c_X4_dieAt) sok_X4_dieAt wM_X4_64 (rmOk (by decide) (by decide)) ⟨Nat.le_of_ble_eq_true rfl, Nat.le_of_ble_eq_true rfl⟩ (Nat.le_of_ble_eq_true rfl) rfl dX4_works_64 (fun v G' hq => ?_) (fun _ _ h => h.elim)
              obtain ⟨rfl, hG9⟩ := hq
              rw [hG9]
              refine v_stk (st' := [vI (9 + 3 * (G3 112 f)), vR g 107]) rfl ?_
              refine v_iald (pc := 67) (N := 144) rfl rfl (by decide) (by omega) (by decide) dX4_works_67 ?_
              obtain ⟨v, h_v⟩ : ∃ w9, w9 = (G3 107 (9 + 3 * (G3 112 f))) := ⟨_, rfl⟩
              refine v_stk (st' := [vI v]) (by rw [h_v]) ?_
              have hvv : v = vsB (G 107) (G1 112) (n - 1 - f) := by
                rw [h_v, k7, k12]
                show _ = G 107 (9 + 3 * G1 112 (G 107 0 - 1 - (n - 1 - f)))
                rw [show G 107 0 - 1 - (n - 1 - f) = f by omega]
              have hvr : 1 ≤ v ∧ v ≤ 50 := by rw [hvv]; exact vr
              refine v_istore_n (pc := 68) (by decide) rfl dX4_works_68 ?_
              refine v_aload_n (pc := 69) rfl dX4_works_69 ?_
              refine v_aload_n (pc := 70) rfl dX4_works_70 ?_
              refine v_getR (pc := 71) (j := 112) fd_X4_32 (rfl) (by decide) rfl dX4_works_71 ?_
              refine v_iload_n (pc := 74) rfl dX4_works_74 ?_
              refine v_iald (pc := 75) (N := 5) rfl rfl (by decide) (by omega) (by decide) dX4_works_75 ?_
              refine v_callV (pc := 76) (rest := []) (c_X4_many (G := G3) (by rw [show G3 107 = G 107 from funext k7]; exact hM) (d := G3 112 f) (by omega)) iok_X4_many wM_X4_144 (rfl) (by decide) (by decide) rfl (rmOk (by decide) (by decide)) ⟨Nat.le_of_ble_eq_true rfl, Nat.le_of_ble_eq_true rfl⟩ (Nat.le_of_ble_eq_true rfl) rfl dX4_works_76 (fun v G' hq => ?_) (fun _ _ h => h.elim)
              obtain ⟨rfl, hG9⟩ := hq
              rw [hG9]
              obtain ⟨c, h_c⟩ : ∃ w9, w9 = (cntE (G3 107 3) (fun k => G3 107 (24 + 3 * k)) (G3 112 f)) := ⟨_, rfl⟩
              refine v_stk (st' := [vI c]) (by rw [h_c]; rfl) ?_
              have hcc : c = cnB (G 107) (G1 112) (n - 1 - f) := by
                rw [h_c, show G3 107 = G 107 from funext k7, k12]
                show _ = cntE _ _ (G1 112 (G 107 0 - 1 - (n - 1 - f)))
                rw [show G 107 0 - 1 - (n - 1 - f) = f by omega]
              have hcr : 0 ≤ c ∧ c ≤ 40 := by rw [hcc]; exact cr
              refine v_istore (pc := 79) (by decide) rfl dX4_works_79 ?_
              refine v_iconst (pc := 81) (z := 0) dX4_works_81 ?_
              refine v_istore (pc := 82) (by decide) rfl dX4_works_82 ?_
              have lp84 : ∀ (m84 : Nat) (a : Int) (G4 : Mem), (0 ≤ a ∧ a ≤ 100) → (∀ x, 0 ≤ x → x < a → G4 113 (100 * f + x) = rowF (Tab (vsB (G 107) (G1 112)) (cnB (G 107) (G1 112)) (n - 1 - f).toNat) v c x) → (∀ z, ¬ (100 * f ≤ z ∧ z < 100 * f + 100) → G4 113 z = G3 113 z) → (∀ j z, j ≠ 113 → G4 j z = G1 j z) → ((100 - a).toNat) < m84 → V γ g cX4_works 8 RX4 (rmL 2 0 0) G4 0 0 84 [some (vR g 106), some (vI n), some (vI f), some (vI v), some (vI c), some (vI a), none, none] [] := by
                intro m84
                induction m84 with
                | zero => intro a G4; intros; omega
                | succ m84 ih84 =>
                  intro a G4 a0 hT4 hK4 hF4 hm84
                  skip
                  refine v_iload (pc := 84) rfl dX4_works_84 ?_
                  refine v_bipush (pc := 86) (z := 99) rfl dX4_works_86 ?_
                  refine v_icmp_gt (pc := 88) (tgt := 174) (by omega) dX4_works_88 (by decide) (fun bq3 => ?_) (fun bq3 => ?_)
                  · skip
                    refine v_iinc (pc := 174) (y := (-1)) rfl (by decide) rfl dX4_works_174 ?_
                    refine v_goto (pc := 177) (tgt := 50) dX4_works_177 (by decide) ?_
                    refine v_loc (L' := [some (vR g 106), some (vI n), some (vI (f + (-1))), none, none, none, none, none]) (⟨rfl, rfl, rfl, trivial⟩) ?_
                    exact ih50 (f + (-1)) G4 (by omega) (fun h h1 h2 x x0 x1 => by
                            by_cases q : h = f
                            · rw [q, hT4 x x0 (by omega), show (n - f).toNat = (n - 1 - f).toNat + 1 by omega]
                              show _ = rowF (Tab (vsB (G 107) (G1 112)) (cnB (G 107) (G1 112)) (n - 1 - f).toNat) (vsB (G 107) (G1 112) (((n - 1 - f).toNat : Nat) : Int)) (cnB (G 107) (G1 112) (((n - 1 - f).toNat : Nat) : Int)) x
                              rw [show (((n - 1 - f).toNat : Nat) : Int) = n - 1 - f by omega, ← hvv, ← hcc]
                            · rw [hK4 _ (by omega)]; exact hT3 h (by omega) h2 x x0 x1) hF4 (by omega)
                  · skip
                    refine v_sipush (pc := 91) (z := 1000) rfl dX4_works_91 ?_
                    refine v_istore (pc := 94) (by decide) rfl dX4_works_94 ?_
                    refine v_iconst (pc := 96) (z := 0) dX4_works_96 ?_
                    refine v_istore (pc := 97) (by decide) rfl dX4_works_97 ?_
                    have lp99 : ∀ (m99 : Nat) (t : Int) (l : Int), (0 ≤ t ∧ t ≤ c + 1) → (l = mnT (Tab (vsB (G 107) (G1 112)) (cnB (G 107) (G1 112)) (n - 1 - f).toNat) v a t.toNat) → ((c + 1 - t).toNat) < m99 → V γ g cX4_works 8 RX4 (rmL 2 0 0) G4 0 0 99 [some (vR g 106), some (vI n), some (vI f), some (vI v), some (vI c), some (vI a), some (vI l), some (vI t)] [] := by
                      intro m99
                      induction m99 with
                      | zero => intro t l; intros; omega
                      | succ m99 ih99 =>
                        intro t l t0 hl hm99
                        have hmu := mul_rng (a := t) (b := v) (A := 41) (B := 50) (by omega) (by omega)
                        have hlr : 0 ≤ l ∧ l ≤ 1000 := by rw [hl]; exact ⟨mnT_ge (fun x _ _ => (TabB hM hS (by omega) x).1) (by omega) _, mnT_le _ _ _ _⟩
                        refine v_iload (pc := 99) rfl dX4_works_99 ?_
                        refine v_iload (pc := 101) rfl dX4_works_101 ?_
                        refine v_icmp_gt (pc := 103) (tgt := 149) (by omega) dX4_works_103 (by decide) (fun bq4 => ?_) (fun bq4 => ?_)
                        · skip
                          have hrow : mnI 1000 l = rowF (Tab (vsB (G 107) (G1 112)) (cnB (G 107) (G1 112)) (n - 1 - f).toNat) v c a := by
                            rw [mnI_1000 hlr.2, hl]
                            unfold rowF
                            by_cases q : t = c + 1
                            · rw [q]
                            · have hst := mnT_stop (f := Tab (vsB (G 107) (G1 112)) (cnB (G 107) (G1 112)) (n - 1 - f).toNat) (v := v) (a := a) (by omega) (t := t.toNat) (by rw [show ((t.toNat : Nat) : Int) = t by omega]; omega) (c + 1 - t).toNat
                              rw [show t.toNat + (c + 1 - t).toNat = (c + 1).toNat by omega] at hst
                              exact hst.symm
                          refine v_aload_n (pc := 149) rfl dX4_works_149 ?_
                          refine v_getR (pc := 150) (j := 113) fd_X4_35 (rfl) (by decide) rfl dX4_works_150 ?_
                          refine v_iload_n (pc := 153) rfl dX4_works_153 ?_
                          refine v_iload (pc := 154) rfl dX4_works_154 ?_
                          refine v_callS (pc := 156) (rest := [vR g 113]) (c_X4_cell) sok_X4_cell wM_X4_141 (rmOk (by decide) (by decide)) ⟨Nat.le_of_ble_eq_true rfl, Nat.le_of_ble_eq_true rfl⟩ (Nat.le_of_ble_eq_true rfl) rfl dX4_works_156 (fun v G' hq => ?_) (fun _ _ h => h.elim)
                          obtain ⟨rfl, hG9⟩ := hq
                          rw [hG9]
                          refine v_stk (st' := [vI (100 * f + a), vR g 113]) rfl ?_
                          refine v_sipush (pc := 159) (z := 1000) rfl dX4_works_159 ?_
                          refine v_iload (pc := 162) rfl dX4_works_162 ?_
                          refine v_mmin (pc := 164) (by omega) wM_X4_71 (Nat.le_of_ble_eq_true rfl) (Nat.le_of_ble_eq_true rfl) (Nat.le_of_ble_eq_true rfl) (Nat.le_of_ble_eq_true rfl) (Nat.le_of_ble_eq_true rfl) dX4_works_164 ?_
                          refine v_iast (pc := 167) (N := 600) rfl rfl (by decide) (by omega) (by decide) dX4_works_167 ?_
                          refine v_iinc (pc := 168) (y := 1) rfl (by decide) rfl dX4_works_168 ?_
                          refine v_goto (pc := 171) (tgt := 84) dX4_works_171 (by decide) ?_
                          refine v_loc (L' := [some (vR g 106), some (vI n), some (vI f), some (vI v), some (vI c), some (vI (a + 1)), none, none]) (⟨rfl, rfl, rfl, rfl, rfl, rfl, trivial⟩) ?_
                          exact ih84 (a + 1) (upd2 G4 113 (100 * f + a) (mnI 1000 l)) (by omega) (fun x x0 x1 => (Classical.em (x = a)).elim (fun e => by rw [e, upd2_s]; exact hrow) (fun e => by rw [upd2_z (by omega)]; exact hT4 x x0 (by omega))) (fun z q => by rw [upd2_z (by omega)]; exact hK4 z q) (fun j z q => (upd2_i q).trans (hF4 j z q)) (by omega)
                        · skip
                          refine v_iload (pc := 106) rfl dX4_works_106 ?_
                          refine v_iload_n (pc := 108) rfl dX4_works_108 ?_
                          refine v_imul (pc := 109) dX4_works_109 ?_
                          refine v_iload (pc := 110) rfl dX4_works_110 ?_
                          refine v_icmp_gt (pc := 112) (tgt := 149) (by omega) dX4_works_112 (by decide) (fun bq5 => ?_) (fun bq5 => ?_)
                          · skip
                            have hrow : mnI 1000 l = rowF (Tab (vsB (G 107) (G1 112)) (cnB (G 107) (G1 112)) (n - 1 - f).toNat) v c a := by
                              rw [mnI_1000 hlr.2, hl]
                              unfold rowF
                              by_cases q : t = c + 1
                              · rw [q]
                              · have hst := mnT_stop (f := Tab (vsB (G 107) (G1 112)) (cnB (G 107) (G1 112)) (n - 1 - f).toNat) (v := v) (a := a) (by omega) (t := t.toNat) (by rw [show ((t.toNat : Nat) : Int) = t by omega]; omega) (c + 1 - t).toNat
                                rw [show t.toNat + (c + 1 - t).toNat = (c + 1).toNat by omega] at hst
                                exact hst.symm
                            refine v_aload_n (pc := 149) rfl dX4_works_149 ?_
                            refine v_getR (pc := 150) (j := 113) fd_X4_35 (rfl) (by decide) rfl dX4_works_150 ?_
                            refine v_iload_n (pc := 153) rfl dX4_works_153 ?_
                            refine v_iload (pc := 154) rfl dX4_works_154 ?_
                            refine v_callS (pc := 156) (rest := [vR g 113]) (c_X4_cell) sok_X4_cell wM_X4_141 (rmOk (by decide) (by decide)) ⟨Nat.le_of_ble_eq_true rfl, Nat.le_of_ble_eq_true rfl⟩ (Nat.le_of_ble_eq_true rfl) rfl dX4_works_156 (fun v G' hq => ?_) (fun _ _ h => h.elim)
                            obtain ⟨rfl, hG9⟩ := hq
                            rw [hG9]
                            refine v_stk (st' := [vI (100 * f + a), vR g 113]) rfl ?_
                            refine v_sipush (pc := 159) (z := 1000) rfl dX4_works_159 ?_
                            refine v_iload (pc := 162) rfl dX4_works_162 ?_
                            refine v_mmin (pc := 164) (by omega) wM_X4_71 (Nat.le_of_ble_eq_true rfl) (Nat.le_of_ble_eq_true rfl) (Nat.le_of_ble_eq_true rfl) (Nat.le_of_ble_eq_true rfl) (Nat.le_of_ble_eq_true rfl) dX4_works_164 ?_
                            refine v_iast (pc := 167) (N := 600) rfl rfl (by decide) (by omega) (by decide) dX4_works_167 ?_
                            refine v_iinc (pc := 168) (y := 1) rfl (by decide) rfl dX4_works_168 ?_
                            refine v_goto (pc := 171) (tgt := 84) dX4_works_171 (by decide) ?_
                            refine v_loc (L' := [some (vR g 106), some (vI n), some (vI f), some (vI v), some (vI c), some (vI (a + 1)), none, none]) (⟨rfl, rfl, rfl, rfl, rfl, rfl, trivial⟩) ?_
                            exact ih84 (a + 1) (upd2 G4 113 (100 * f + a) (mnI 1000 l)) (by omega) (fun x x0 x1 => (Classical.em (x = a)).elim (fun e => by rw [e, upd2_s]; exact hrow) (fun e => by rw [upd2_z (by omega)]; exact hT4 x x0 (by omega))) (fun z q => by rw [upd2_z (by omega)]; exact hK4 z q) (fun j z q => (upd2_i q).trans (hF4 j z q)) (by omega)
                          · skip
                            have htx : G4 113 (100 * (f + 1) + (a - t * v)) = Tab (vsB (G 107) (G1 112)) (cnB (G 107) (G1 112)) (n - 1 - f).toNat (a - t * v) := by
                              rw [hK4 _ (by omega), hT3 (f + 1) (by omega) (by omega) (a - t * v) (by omega) (by omega), show n - (f + 1) = n - 1 - f by omega]
                            have htr := TabB hM hS (r := (n - 1 - f).toNat) (by omega) (a - t * v)
                            refine v_iload (pc := 115) rfl dX4_works_115 ?_
                            refine v_iload (pc := 117) rfl dX4_works_117 ?_
                            refine v_aload_n (pc := 119) rfl dX4_works_119 ?_
                            refine v_getR (pc := 120) (j := 113) fd_X4_35 (rfl) (by decide) rfl dX4_works_120 ?_
                            refine v_iload_n (pc := 123) rfl dX4_works_123 ?_
                            refine v_iconst (pc := 124) (z := 1) dX4_works_124 ?_
                            refine v_iadd (pc := 125) dX4_works_125 ?_
                            refine v_iload (pc := 126) rfl dX4_works_126 ?_
                            refine v_iload (pc := 128) rfl dX4_works_128 ?_
                            refine v_iload_n (pc := 130) rfl dX4_works_130 ?_
                            refine v_imul (pc := 131) dX4_works_131 ?_
                            refine v_isub (pc := 132) dX4_works_132 ?_
                            refine v_callS (pc := 133) (rest := [vR g 113, vI t, vI l]) (c_X4_cell) sok_X4_cell wM_X4_141 (rmOk (by decide) (by decide)) ⟨Nat.le_of_ble_eq_true rfl, Nat.le_of_ble_eq_true rfl⟩ (Nat.le_of_ble_eq_true rfl) rfl dX4_works_133 (fun v G' hq => ?_) (fun _ _ h => h.elim)
                            obtain ⟨rfl, hG9⟩ := hq
                            rw [hG9]
                            refine v_stk (st' := [vI (100 * (f + 1) + (a - (t * v))), vR g 113, vI t, vI l]) rfl ?_
                            refine v_iald (pc := 136) (N := 600) rfl rfl (by decide) (by omega) (by decide) dX4_works_136 ?_
                            refine v_iadd (pc := 137) dX4_works_137 ?_
                            refine v_mmin (pc := 138) (by omega) wM_X4_71 (Nat.le_of_ble_eq_true rfl) (Nat.le_of_ble_eq_true rfl) (Nat.le_of_ble_eq_true rfl) (Nat.le_of_ble_eq_true rfl) (Nat.le_of_ble_eq_true rfl) dX4_works_138 ?_
                            refine v_istore (pc := 141) (by decide) rfl dX4_works_141 ?_
                            refine v_iinc (pc := 143) (y := 1) rfl (by decide) rfl dX4_works_143 ?_
                            refine v_goto (pc := 146) (tgt := 99) dX4_works_146 (by decide) ?_
                            exact ih99 (t + 1) (mnI l (t + (G4 113 (100 * (f + 1) + (a - (t * v)))))) (by omega) (by rw [mnT_s t0.1 (by omega), ← hl, htx]) (by omega)
                    refine v_loc (L' := [some (vR g 106), some (vI n), some (vI f), some (vI v), some (vI c), some (vI a), some (vI 1000), some (vI 0)]) (⟨rfl, rfl, rfl, rfl, rfl, rfl, rfl, rfl, trivial⟩) ?_
                    exact lp99 _ 0 1000 (by omega) rfl (Nat.lt_succ_self _)
              refine v_loc (L' := [some (vR g 106), some (vI n), some (vI f), some (vI v), some (vI c), some (vI 0), none, none]) (⟨rfl, rfl, rfl, rfl, rfl, rfl, trivial⟩) ?_
              exact lp84 _ 0 G3 (by omega) (fun j a c => absurd c (by omega)) (fun _ _ => rfl) hF3 (Nat.lt_succ_self _)
        refine v_loc (L' := [some (vR g 106), some (vI n), some (vI (n - 1)), none, none, none, none, none]) (⟨rfl, rfl, rfl, trivial⟩) ?_
        exact lp50 _ (n - 1) G2 (by omega) (fun h h1 h2 x x0 x1 => by rw [show h = n by omega, show (n - n).toNat = 0 by omega]; exact hT x x0 (by omega)) hF2 (Nat.lt_succ_self _)
      · skip
        refine v_aload_n (pc := 19) rfl dX4_works_19 ?_
        refine v_getR (pc := 20) (j := 113) fd_X4_35 (rfl) (by decide) rfl dX4_works_20 ?_
        refine v_iload_n (pc := 23) rfl dX4_works_23 ?_
        refine v_iload_n (pc := 24) rfl dX4_works_24 ?_
        refine v_callS (pc := 25) (rest := [vR g 113]) (c_X4_cell) sok_X4_cell wM_X4_141 (rmOk (by decide) (by decide)) ⟨Nat.le_of_ble_eq_true rfl, Nat.le_of_ble_eq_true rfl⟩ (Nat.le_of_ble_eq_true rfl) rfl dX4_works_25 (fun v G' hq => ?_) (fun _ _ h => h.elim)
        obtain ⟨rfl, hG9⟩ := hq
        rw [hG9]
        refine v_stk (st' := [vI (100 * n + a), vR g 113]) rfl ?_
        refine v_iload_n (pc := 28) rfl dX4_works_28 ?_
        refine v_if_ne (pc := 29) (tgt := 36) (by omega) dX4_works_29 (by decide) (fun bq6 => ?_) (fun bq6 => ?_)
        · skip
          refine v_sipush (pc := 36) (z := 1000) rfl dX4_works_36 ?_
          refine v_iast (pc := 39) (N := 600) rfl rfl (by decide) (by omega) (by decide) dX4_works_39 ?_
          refine v_iinc (pc := 40) (y := 1) rfl (by decide) rfl dX4_works_40 ?_
          refine v_goto (pc := 43) (tgt := 13) dX4_works_43 (by decide) ?_
          exact ih13 (a + 1) (upd2 G2 113 (100 * n + a) 1000) (by omega) (fun x x0 x1 => (Classical.em (x = a)).elim (fun e => by rw [e, upd2_s]; show _ = if a = 0 then (0 : Int) else 1000; first | rw [if_pos (by omega)] | rw [if_neg (by omega)]) (fun e => by rw [upd2_z (by omega)]; exact hT x x0 (by omega))) (fun j z q => (upd2_i q).trans (hF2 j z q)) (by omega)
        · skip
          refine v_iconst (pc := 32) (z := 0) dX4_works_32 ?_
          refine v_goto (pc := 33) (tgt := 39) dX4_works_33 (by decide) ?_
          refine v_iast (pc := 39) (N := 600) rfl rfl (by decide) (by omega) (by decide) dX4_works_39 ?_
          refine v_iinc (pc := 40) (y := 1) rfl (by decide) rfl dX4_works_40 ?_
          refine v_goto (pc := 43) (tgt := 13) dX4_works_43 (by decide) ?_
          exact ih13 (a + 1) (upd2 G2 113 (100 * n + a) 0) (by omega) (fun x x0 x1 => (Classical.em (x = a)).elim (fun e => by rw [e, upd2_s]; show _ = if a = 0 then (0 : Int) else 1000; first | rw [if_pos (by omega)] | rw [if_neg (by omega)]) (fun e => by rw [upd2_z (by omega)]; exact hT x x0 (by omega))) (fun j z q => (upd2_i q).trans (hF2 j z q)) (by omega)
  refine v_loc (L' := [some (vR g 106), some (vI n), some (vI 0), none, none, none, none, none]) (⟨rfl, rfl, rfl, trivial⟩) ?_
  exact lp13 _ 0 G1 (by omega) (fun j a c => absurd c (by omega)) (fun _ _ _ => rfl) (Nat.lt_succ_self _)
set_option maxHeartbeats 4000000 in
set_option maxRecDepth 100000 in
theorem c_X4_fewestFor {g : GT} {G : Mem} (hM : MoI (G 107)) {a : Int} (h_a : 0 ≤ a ∧ a ≤ 99) : Ctr g yX4_fewestFor cX4_fewestFor 2 (some FieldType.int) (rmL 3 0 0) [vR g 106, vI a] G (RP (fun r G' => r = Tab (vsB (G 107) (G' 112)) (cnB (G 107) (G' 112)) (G 107 0).toNat a ∧ (0 ≤ r ∧ r ≤ 1000) ∧ WkI G G')) NoX := by
  refine ctr_of [some (vR g 106), some (vI a)] (by decide) (Nat.le_of_ble_eq_true rfl) rfl (fun γ E => ?_)
  show V γ g cX4_fewestFor 2 RX4 (rmL 3 0 0) G 0 0 0 [some (vR g 106), some (vI a)] []
  have hn := MoI_n hM
  have hc := MoI_c hM
  have hy := MoI_y hM
  refine v_aload_n (pc := 0) rfl dX4_fewestFor_0 ?_
  refine v_callV (pc := 1) (rest := []) (c_X4_works hM) iok_X4_works wM_X4_147 (rfl) (by decide) (by decide) rfl (rmOk (by decide) (by decide)) ⟨Nat.le_of_ble_eq_true rfl, Nat.le_of_ble_eq_true rfl⟩ (Nat.le_of_ble_eq_true rfl) rfl dX4_fewestFor_1 (fun v G1 hq => ?_) (fun _ _ h => h.elim)
  obtain ⟨rfl, hW⟩ := hq
  refine v_stk (st' := []) rfl ?_
  refine v_aload_n (pc := 4) rfl dX4_fewestFor_4 ?_
  refine v_getR (pc := 5) (j := 113) fd_X4_35 (rfl) (by decide) rfl dX4_fewestFor_5 ?_
  refine v_iconst (pc := 8) (z := 0) dX4_fewestFor_8 ?_
  refine v_iload_n (pc := 9) rfl dX4_fewestFor_9 ?_
  refine v_callS (pc := 10) (rest := [vR g 113]) (c_X4_cell) sok_X4_cell wM_X4_141 (rmOk (by decide) (by decide)) ⟨Nat.le_of_ble_eq_true rfl, Nat.le_of_ble_eq_true rfl⟩ (Nat.le_of_ble_eq_true rfl) rfl dX4_fewestFor_10 (fun v G' hq => ?_) (fun _ _ h => h.elim)
  obtain ⟨rfl, hG9⟩ := hq
  rw [hG9]
  refine v_stk (st' := [vI (100 * 0 + a), vR g 113]) rfl ?_
  have hTa : G1 113 (100 * 0 + a) = Tab (vsB (G 107) (G1 112)) (cnB (G 107) (G1 112)) (G 107 0).toNat a := by
    have := hW.2.1 0 (by omega) hn.1 a h_a.1 (by omega)
    rw [show G 107 0 - 0 = G 107 0 by omega] at this
    exact this
  have hTr := TabB hM hW.1 (r := (G 107 0).toNat) (by omega) a
  refine v_iald (pc := 13) (N := 600) rfl rfl (by decide) (by omega) (by decide) dX4_fewestFor_13 ?_
  exact v_iret (pc := 14) E (⟨_, rfl, hTa, by rw [hTa]; exact hTr, hW⟩) (Nat.le_of_ble_eq_true rfl) (Nat.le_of_ble_eq_true rfl) dX4_fewestFor_14
set_option maxHeartbeats 4000000 in
set_option maxRecDepth 100000 in
theorem c_X4_used {g : GT} {G : Mem} (hM : MoI (G 107)) {f x : Int} (h_f : 0 ≤ f ∧ f < 5) (h_x : 0 ≤ x ∧ x ≤ 99) (hb : 0 ≤ G 112 f ∧ G 112 f < G 107 0) (ht : ∀ h y, (h = f ∨ h = f + 1) → 0 ≤ y → y ≤ 99 → 0 ≤ G 113 (100 * h + y) ∧ G 113 (100 * h + y) ≤ 1000) : Ctr g yX4_used cX4_used 7 (some FieldType.int) (rmL 2 0 0) [vR g 106, vI f, vI x] G (RM (mst (fun y => G 113 (100 * (f + 1) + y)) (G 113 (100 * f + x)) (G 107 (9 + 3 * G 112 f)) x (cntE (G 107 3) (fun k => G 107 (24 + 3 * k)) (G 112 f)).toNat) G) NoX := by
  refine ctr_of [some (vR g 106), some (vI f), some (vI x), none, none, none, none] (by decide) (Nat.le_of_ble_eq_true rfl) rfl (fun γ E => ?_)
  show V γ g cX4_used 7 RX4 (rmL 2 0 0) G 0 0 0 [some (vR g 106), some (vI f), some (vI x), none, none, none, none] []
  have hn := MoI_n hM
  have hc := MoI_c hM
  have hy := MoI_y hM
  refine v_aload_n (pc := 0) rfl dX4_used_0 ?_
  refine v_getR (pc := 1) (j := 112) fd_X4_32 (rfl) (by decide) rfl dX4_used_1 ?_
  refine v_iload_n (pc := 4) rfl dX4_used_4 ?_
  refine v_iald (pc := 5) (N := 5) rfl rfl (by decide) (by omega) (by decide) dX4_used_5 ?_
  obtain ⟨e, h_e⟩ : ∃ w9, w9 = (G 112 f) := ⟨_, rfl⟩
  refine v_stk (st' := [vI e]) (by rw [h_e]) ?_
  refine v_istore_n (pc := 6) (by decide) rfl dX4_used_6 ?_
  refine v_aload_n (pc := 7) rfl dX4_used_7 ?_
  refine v_getR (pc := 8) (j := 107) fd_X4_9 (rfl) (by decide) rfl dX4_used_8 ?_
  refine v_iload_n (pc := 11) rfl dX4_used_11 ?_
  refine v_callS (pc := 12) (rest := [vR g 107]) (c_X4_dieAt) sok_X4_dieAt wM_X4_64 (rmOk (by decide) (by decide)) ⟨Nat.le_of_ble_eq_true rfl, Nat.le_of_ble_eq_true rfl⟩ (Nat.le_of_ble_eq_true rfl) rfl dX4_used_12 (fun v G' hq => ?_) (fun _ _ h => h.elim)
  obtain ⟨rfl, hG9⟩ := hq
  rw [hG9]
  refine v_stk (st' := [vI (9 + 3 * e), vR g 107]) rfl ?_
  refine v_iald (pc := 15) (N := 144) rfl rfl (by decide) (by omega) (by decide) dX4_used_15 ?_
  have r1 := MoI_d hM (i := e) (by omega) (by omega)
  obtain ⟨v, h_v⟩ : ∃ w9, w9 = (G 107 (9 + 3 * e)) := ⟨_, rfl⟩
  refine v_stk (st' := [vI v]) (by rw [h_v]) ?_
  have hvr : 1 ≤ v ∧ v ≤ 50 := by rw [h_v, h_e]; exact (MoI_d hM hb.1 hb.2).1
  have hcr : 0 ≤ cntE (G 107 3) (fun k => G 107 (24 + 3 * k)) e ∧ cntE (G 107 3) (fun k => G 107 (24 + 3 * k)) e ≤ G 107 3 := sz_cnt (n := G 107 3) (p := fun k => G 107 (24 + 3 * k) = e) (fun k => Int.instDecidableEq _ _) hc.1
  refine v_istore (pc := 16) (by decide) rfl dX4_used_16 ?_
  refine v_iconst (pc := 18) (z := 0) dX4_used_18 ?_
  refine v_istore (pc := 19) (by decide) rfl dX4_used_19 ?_
  refine v_iconst (pc := 21) (z := 0) dX4_used_21 ?_
  refine v_istore (pc := 22) (by decide) rfl dX4_used_22 ?_
  have lp24 : ∀ (m24 : Nat) (t : Int) (u : Int), (0 ≤ t ∧ t ≤ (cntE (G 107 3) (fun k => G 107 (24 + 3 * k)) e) + 1) → (u = mst (fun y => G 113 (100 * (f + 1) + y)) (G 113 (100 * f + x)) v x (t - 1).toNat) → (((cntE (G 107 3) (fun k => G 107 (24 + 3 * k)) e) + 1 - t).toNat) < m24 → V γ g cX4_used 7 RX4 (rmL 2 0 0) G 0 0 24 [some (vR g 106), some (vI f), some (vI x), some (vI e), some (vI v), some (vI u), some (vI t)] [] := by
    intro m24
    induction m24 with
    | zero => intro t u; intros; omega
    | succ m24 ih24 =>
      intro t u t0 hu hm24
      have hmu := mul_rng (a := t) (b := v) (A := 41) (B := 50) (by omega) (by omega)
      have hur := mst_r (fun y => G 113 (100 * (f + 1) + y)) (G 113 (100 * f + x)) v x (t - 1).toNat
      rw [← hu] at hur
      refine v_iload (pc := 24) rfl dX4_used_24 ?_
      refine v_aload_n (pc := 26) rfl dX4_used_26 ?_
      refine v_iload_n (pc := 27) rfl dX4_used_27 ?_
      refine v_callV (pc := 28) (rest := [vI t]) (c_X4_many hM (d := e) (by omega)) iok_X4_many wM_X4_144 (rfl) (by decide) (by decide) rfl (rmOk (by decide) (by decide)) ⟨Nat.le_of_ble_eq_true rfl, Nat.le_of_ble_eq_true rfl⟩ (Nat.le_of_ble_eq_true rfl) rfl dX4_used_28 (fun v G' hq => ?_) (fun _ _ h => h.elim)
      obtain ⟨rfl, hG9⟩ := hq
      rw [hG9]
      refine v_stk (st' := [vI (cntE (G 107 3) (fun k => G 107 (24 + 3 * k)) e), vI t]) rfl ?_
      refine v_icmp_gt (pc := 31) (tgt := 92) (by omega) dX4_used_31 (by decide) (fun bq2 => ?_) (fun bq2 => ?_)
      · skip
        refine v_iload (pc := 92) rfl dX4_used_92 ?_
        exact v_iret (pc := 94) E (⟨by
          rw [← h_e, ← h_v, hu]
          by_cases q : t = (cntE (G 107 3) (fun k => G 107 (24 + 3 * k)) e) + 1
          · rw [q, show (cntE (G 107 3) (fun k => G 107 (24 + 3 * k)) e) + 1 - 1 = (cntE (G 107 3) (fun k => G 107 (24 + 3 * k)) e) by omega]
          · have hst := mst_stop (f := fun y => G 113 (100 * (f + 1) + y)) (fe := G 113 (100 * f + x)) (v := v) (x := x) (by omega) (t := (t - 1).toNat)
            by_cases q0 : t = 0
            · exfalso; have q9 : t * v = 0 := (by rw [q0, Int.zero_mul]); omega
            · have hst := hst (by rw [show (((t - 1).toNat : Nat) : Int) + 1 = t by omega]; omega) ((cntE (G 107 3) (fun k => G 107 (24 + 3 * k)) e) - (t - 1)).toNat
              rw [show (t - 1).toNat + ((cntE (G 107 3) (fun k => G 107 (24 + 3 * k)) e) - (t - 1)).toNat = ((cntE (G 107 3) (fun k => G 107 (24 + 3 * k)) e)).toNat by omega] at hst
              exact hst.symm ▸ rfl, rfl⟩) (Nat.le_of_ble_eq_true rfl) (Nat.le_of_ble_eq_true rfl) dX4_used_94
      · skip
        refine v_iload (pc := 34) rfl dX4_used_34 ?_
        refine v_iload (pc := 36) rfl dX4_used_36 ?_
        refine v_imul (pc := 38) dX4_used_38 ?_
        refine v_iload_n (pc := 39) rfl dX4_used_39 ?_
        refine v_icmp_gt (pc := 40) (tgt := 92) (by omega) dX4_used_40 (by decide) (fun bq3 => ?_) (fun bq3 => ?_)
        · skip
          refine v_iload (pc := 92) rfl dX4_used_92 ?_
          exact v_iret (pc := 94) E (⟨by
            rw [← h_e, ← h_v, hu]
            by_cases q : t = (cntE (G 107 3) (fun k => G 107 (24 + 3 * k)) e) + 1
            · rw [q, show (cntE (G 107 3) (fun k => G 107 (24 + 3 * k)) e) + 1 - 1 = (cntE (G 107 3) (fun k => G 107 (24 + 3 * k)) e) by omega]
            · have hst := mst_stop (f := fun y => G 113 (100 * (f + 1) + y)) (fe := G 113 (100 * f + x)) (v := v) (x := x) (by omega) (t := (t - 1).toNat)
              by_cases q0 : t = 0
              · exfalso; have q9 : t * v = 0 := (by rw [q0, Int.zero_mul]); omega
              · have hst := hst (by rw [show (((t - 1).toNat : Nat) : Int) + 1 = t by omega]; omega) ((cntE (G 107 3) (fun k => G 107 (24 + 3 * k)) e) - (t - 1)).toNat
                rw [show (t - 1).toNat + ((cntE (G 107 3) (fun k => G 107 (24 + 3 * k)) e) - (t - 1)).toNat = ((cntE (G 107 3) (fun k => G 107 (24 + 3 * k)) e)).toNat by omega] at hst
                exact hst.symm ▸ rfl, rfl⟩) (Nat.le_of_ble_eq_true rfl) (Nat.le_of_ble_eq_true rfl) dX4_used_94
        · skip
          have q1 := ht (f + 1) (x - t * v) (Or.inr rfl) (by omega) (by omega)
          have q2 := ht f x (Or.inl rfl) (by omega) (by omega)
          refine v_iload (pc := 43) rfl dX4_used_43 ?_
          refine v_aload_n (pc := 45) rfl dX4_used_45 ?_
          refine v_getR (pc := 46) (j := 113) fd_X4_35 (rfl) (by decide) rfl dX4_used_46 ?_
          refine v_iload_n (pc := 49) rfl dX4_used_49 ?_
          refine v_iconst (pc := 50) (z := 1) dX4_used_50 ?_
          refine v_iadd (pc := 51) dX4_used_51 ?_
          refine v_iload_n (pc := 52) rfl dX4_used_52 ?_
          refine v_iload (pc := 53) rfl dX4_used_53 ?_
          refine v_iload (pc := 55) rfl dX4_used_55 ?_
          refine v_imul (pc := 57) dX4_used_57 ?_
          refine v_isub (pc := 58) dX4_used_58 ?_
          refine v_callS (pc := 59) (rest := [vR g 113, vI t]) (c_X4_cell) sok_X4_cell wM_X4_141 (rmOk (by decide) (by decide)) ⟨Nat.le_of_ble_eq_true rfl, Nat.le_of_ble_eq_true rfl⟩ (Nat.le_of_ble_eq_true rfl) rfl dX4_used_59 (fun v G' hq => ?_) (fun _ _ h => h.elim)
          obtain ⟨rfl, hG9⟩ := hq
          rw [hG9]
          refine v_stk (st' := [vI (100 * (f + 1) + (x - (t * v))), vR g 113, vI t]) rfl ?_
          refine v_iald (pc := 62) (N := 600) rfl rfl (by decide) (by omega) (by decide) dX4_used_62 ?_
          refine v_iadd (pc := 63) dX4_used_63 ?_
          refine v_aload_n (pc := 64) rfl dX4_used_64 ?_
          refine v_getR (pc := 65) (j := 113) fd_X4_35 (rfl) (by decide) rfl dX4_used_65 ?_
          refine v_iload_n (pc := 68) rfl dX4_used_68 ?_
          refine v_iload_n (pc := 69) rfl dX4_used_69 ?_
          refine v_callS (pc := 70) (rest := [vR g 113, vI (t + (G 113 (100 * (f + 1) + (x - (t * v)))))]) (c_X4_cell) sok_X4_cell wM_X4_141 (rmOk (by decide) (by decide)) ⟨Nat.le_of_ble_eq_true rfl, Nat.le_of_ble_eq_true rfl⟩ (Nat.le_of_ble_eq_true rfl) rfl dX4_used_70 (fun v G' hq => ?_) (fun _ _ h => h.elim)
          obtain ⟨rfl, hG9⟩ := hq
          rw [hG9]
          refine v_stk (st' := [vI (100 * f + x), vR g 113, vI (t + (G 113 (100 * (f + 1) + (x - (t * v)))))]) rfl ?_
          refine v_iald (pc := 73) (N := 600) rfl rfl (by decide) (by omega) (by decide) dX4_used_73 ?_
          refine v_icmp_ne (pc := 74) (tgt := 82) (by omega) dX4_used_74 (by decide) (fun bq4 => ?_) (fun bq4 => ?_)
          · skip
            refine v_iload (pc := 82) rfl dX4_used_82 ?_
            refine v_istore (pc := 84) (by decide) rfl dX4_used_84 ?_
            refine v_iinc (pc := 86) (y := 1) rfl (by decide) rfl dX4_used_86 ?_
            refine v_goto (pc := 89) (tgt := 24) dX4_used_89 (by decide) ?_
            exact ih24 (t + 1) u (by omega) (by rw [show t + 1 - 1 = t by omega, ← mst_up t0.1 (by omega) (fun _ => trivial)]; first | rw [if_pos (by assumption)] | rw [if_neg (by assumption)]; first | rfl | exact hu) (by omega)
          · skip
            refine v_iload (pc := 77) rfl dX4_used_77 ?_
            refine v_goto (pc := 79) (tgt := 84) dX4_used_79 (by decide) ?_
            refine v_istore (pc := 84) (by decide) rfl dX4_used_84 ?_
            refine v_iinc (pc := 86) (y := 1) rfl (by decide) rfl dX4_used_86 ?_
            refine v_goto (pc := 89) (tgt := 24) dX4_used_89 (by decide) ?_
            exact ih24 (t + 1) t (by omega) (by rw [show t + 1 - 1 = t by omega, ← mst_up t0.1 (by omega) (fun _ => trivial)]; first | rw [if_pos (by assumption)] | rw [if_neg (by assumption)]; first | rfl | exact hu) (by omega)
  refine v_loc (L' := [some (vR g 106), some (vI f), some (vI x), some (vI e), some (vI v), some (vI 0), some (vI 0)]) (⟨rfl, rfl, rfl, rfl, rfl, rfl, rfl, trivial⟩) ?_
  exact lp24 _ 0 0 (by omega) rfl (Nat.lt_succ_self _)
set_option maxHeartbeats 4000000 in
set_option maxRecDepth 100000 in
theorem c_X4_firstCoin {g : GT} {G : Mem} (hM : MoI (G 107)) {d : Int} (h_d : -2147483648 ≤ d ∧ d < 2147483648) : Ctr g yX4_firstCoin cX4_firstCoin 6 (some FieldType.int) (rmL 1 0 0) [vR g 106, vI d] G (RP (fun r G' => G' = G ∧ ((r = -1 ∧ ∀ j, 0 ≤ j → j < G 107 3 → G 107 (24 + 3 * j) ≠ d) ∨ ((0 ≤ r ∧ r < G 107 3) ∧ G 107 (24 + 3 * r) = d ∧ ∀ j, 0 ≤ j → j < G 107 3 → G 107 (24 + 3 * j) = d → G 107 (24 + 3 * j + 2) < G 107 (24 + 3 * r + 2) ∨ (G 107 (24 + 3 * j + 2) = G 107 (24 + 3 * r + 2) ∧ G 107 (24 + 3 * r + 1) ≤ G 107 (24 + 3 * j + 1)))))) NoX := by
  refine ctr_of [some (vR g 106), some (vI d), none, none, none, none] (by decide) (Nat.le_of_ble_eq_true rfl) rfl (fun γ E => ?_)
  show V γ g cX4_firstCoin 6 RX4 (rmL 1 0 0) G 0 0 0 [some (vR g 106), some (vI d), none, none, none, none] []
  have hn := MoI_n hM
  have hc := MoI_c hM
  have hy := MoI_y hM
  refine v_iconst (pc := 0) (z := (-1)) dX4_firstCoin_0 ?_
  refine v_istore_n (pc := 1) (by decide) rfl dX4_firstCoin_1 ?_
  refine v_iconst (pc := 2) (z := 0) dX4_firstCoin_2 ?_
  refine v_istore_n (pc := 3) (by decide) rfl dX4_firstCoin_3 ?_
  have lp4 : ∀ (m4 : Nat) (k : Int) (f : Int), (0 ≤ k ∧ k ≤ G 107 3) → ((f = -1 ∧ ∀ j, 0 ≤ j → j < k → G 107 (24 + 3 * j) ≠ d) ∨ ((0 ≤ f ∧ f < k) ∧ G 107 (24 + 3 * f) = d ∧ ∀ j, 0 ≤ j → j < k → G 107 (24 + 3 * j) = d → G 107 (24 + 3 * j + 2) < G 107 (24 + 3 * f + 2) ∨ (G 107 (24 + 3 * j + 2) = G 107 (24 + 3 * f + 2) ∧ G 107 (24 + 3 * f + 1) ≤ G 107 (24 + 3 * j + 1)))) → ((G 107 3 - k).toNat) < m4 → V γ g cX4_firstCoin 6 RX4 (rmL 1 0 0) G 0 0 4 [some (vR g 106), some (vI d), some (vI f), some (vI k), none, none] [] := by
    intro m4
    induction m4 with
    | zero => intro k f; intros; omega
    | succ m4 ih4 =>
      intro k f h0 hinv hm4
      have hfr : -1 ≤ f ∧ f < 40 := by
        rcases hinv with w | w
        · omega
        · have := w.1; omega
      refine v_iload_n (pc := 4) rfl dX4_firstCoin_4 ?_
      refine v_aload_n (pc := 5) rfl dX4_firstCoin_5 ?_
      refine v_getR (pc := 6) (j := 107) fd_X4_9 (rfl) (by decide) rfl dX4_firstCoin_6 ?_
      refine v_iconst (pc := 9) (z := 3) dX4_firstCoin_9 ?_
      refine v_iald (pc := 10) (N := 144) rfl rfl (by decide) (by omega) (by decide) dX4_firstCoin_10 ?_
      refine v_icmp_ge (pc := 11) (tgt := 113) (by omega) dX4_firstCoin_11 (by decide) (fun bq1 => ?_) (fun bq1 => ?_)
      · skip
        refine v_iload_n (pc := 113) rfl dX4_firstCoin_113 ?_
        exact v_iret (pc := 114) E (⟨_, rfl, rfl, by
          rcases hinv with w | w
          · exact Or.inl ⟨w.1, fun j j0 j1 => w.2 j j0 (by omega)⟩
          · exact Or.inr ⟨by omega, w.2.1, fun j j0 j1 e => w.2.2 j j0 (by omega) e⟩⟩) (Nat.le_of_ble_eq_true rfl) (Nat.le_of_ble_eq_true rfl) dX4_firstCoin_114
      · skip
        refine v_aload_n (pc := 14) rfl dX4_firstCoin_14 ?_
        refine v_getR (pc := 15) (j := 107) fd_X4_9 (rfl) (by decide) rfl dX4_firstCoin_15 ?_
        refine v_iload_n (pc := 18) rfl dX4_firstCoin_18 ?_
        refine v_callS (pc := 19) (rest := [vR g 107]) (c_X4_coinAt) sok_X4_coinAt wM_X4_68 (rmOk (by decide) (by decide)) ⟨Nat.le_of_ble_eq_true rfl, Nat.le_of_ble_eq_true rfl⟩ (Nat.le_of_ble_eq_true rfl) rfl dX4_firstCoin_19 (fun v G' hq => ?_) (fun _ _ h => h.elim)
        obtain ⟨rfl, hG9⟩ := hq
        rw [hG9]
        refine v_stk (st' := [vI (24 + 3 * k), vR g 107]) rfl ?_
        refine v_iald (pc := 22) (N := 144) rfl rfl (by decide) (by omega) (by decide) dX4_firstCoin_22 ?_
        have r2 := MoI_k hM (k := k) (by omega) (by omega)
        refine v_iload_n (pc := 23) rfl dX4_firstCoin_23 ?_
        refine v_icmp_ne (pc := 24) (tgt := 107) (by omega) dX4_firstCoin_24 (by decide) (fun bq3 => ?_) (fun bq3 => ?_)
        · skip
          refine v_iinc (pc := 107) (y := 1) rfl (by decide) rfl dX4_firstCoin_107 ?_
          refine v_goto (pc := 110) (tgt := 4) dX4_firstCoin_110 (by decide) ?_
          exact ih4 (k + 1) f (by omega) (by
                    rcases hinv with w | w
                    · refine Or.inl ⟨w.1, fun j j0 j1 => (Classical.em (j = k)).elim (fun q => by rw [q]; first | assumption | (exfalso; omega)) (fun q => w.2 j j0 (by omega))⟩
                    · refine Or.inr ⟨by omega, w.2.1, fun j j0 j1 e => (Classical.em (j = k)).elim (fun q => by rw [q] at e ⊢; first | exact absurd e (by assumption) | omega) (fun q => w.2.2 j j0 (by omega) e)⟩) (by omega)
        · skip
          refine v_iload_n (pc := 27) rfl dX4_firstCoin_27 ?_
          refine v_iconst (pc := 28) (z := (-1)) dX4_firstCoin_28 ?_
          refine v_icmp_ne (pc := 29) (tgt := 36) (by omega) dX4_firstCoin_29 (by decide) (fun bq4 => ?_) (fun bq4 => ?_)
          · skip
            have hfk : 0 ≤ f ∧ f < k := by
              rcases hinv with w | w
              · exact absurd w.1 (by assumption)
              · exact w.1
            refine v_aload_n (pc := 36) rfl dX4_firstCoin_36 ?_
            refine v_getR (pc := 37) (j := 107) fd_X4_9 (rfl) (by decide) rfl dX4_firstCoin_37 ?_
            refine v_iload_n (pc := 40) rfl dX4_firstCoin_40 ?_
            refine v_callS (pc := 41) (rest := [vR g 107]) (c_X4_coinAt) sok_X4_coinAt wM_X4_68 (rmOk (by decide) (by decide)) ⟨Nat.le_of_ble_eq_true rfl, Nat.le_of_ble_eq_true rfl⟩ (Nat.le_of_ble_eq_true rfl) rfl dX4_firstCoin_41 (fun v G' hq => ?_) (fun _ _ h => h.elim)
            obtain ⟨rfl, hG9⟩ := hq
            rw [hG9]
            refine v_stk (st' := [vI (24 + 3 * k), vR g 107]) rfl ?_
            refine v_iconst (pc := 44) (z := 2) dX4_firstCoin_44 ?_
            refine v_iadd (pc := 45) dX4_firstCoin_45 ?_
            refine v_iald (pc := 46) (N := 144) rfl rfl (by decide) (by omega) (by decide) dX4_firstCoin_46 ?_
            have r5 := MoI_k hM (k := k) (by omega) (by omega)
            refine v_aload_n (pc := 47) rfl dX4_firstCoin_47 ?_
            refine v_getR (pc := 48) (j := 107) fd_X4_9 (rfl) (by decide) rfl dX4_firstCoin_48 ?_
            refine v_iload_n (pc := 51) rfl dX4_firstCoin_51 ?_
            refine v_callS (pc := 52) (rest := [vR g 107, vI (G 107 ((24 + 3 * k) + 2))]) (c_X4_coinAt) sok_X4_coinAt wM_X4_68 (rmOk (by decide) (by decide)) ⟨Nat.le_of_ble_eq_true rfl, Nat.le_of_ble_eq_true rfl⟩ (Nat.le_of_ble_eq_true rfl) rfl dX4_firstCoin_52 (fun v G' hq => ?_) (fun _ _ h => h.elim)
            obtain ⟨rfl, hG9⟩ := hq
            rw [hG9]
            refine v_stk (st' := [vI (24 + 3 * f), vR g 107, vI (G 107 ((24 + 3 * k) + 2))]) rfl ?_
            refine v_iconst (pc := 55) (z := 2) dX4_firstCoin_55 ?_
            refine v_iadd (pc := 56) dX4_firstCoin_56 ?_
            refine v_iald (pc := 57) (N := 144) rfl rfl (by decide) (by omega) (by decide) dX4_firstCoin_57 ?_
            have r6 := MoI_k hM (k := f) (by omega) (by omega)
            refine v_isub (pc := 58) dX4_firstCoin_58 ?_
            refine v_istore (pc := 59) (by decide) rfl dX4_firstCoin_59 ?_
            refine v_iload (pc := 61) rfl dX4_firstCoin_61 ?_
            refine v_if_ne (pc := 63) (tgt := 92) (by omega) dX4_firstCoin_63 (by decide) (fun bq7 => ?_) (fun bq7 => ?_)
            · skip
              refine v_iload (pc := 92) rfl dX4_firstCoin_92 ?_
              refine v_istore (pc := 94) (by decide) rfl dX4_firstCoin_94 ?_
              refine v_iload (pc := 96) rfl dX4_firstCoin_96 ?_
              refine v_if_le (pc := 98) (tgt := 105) (by omega) dX4_firstCoin_98 (by decide) (fun bq8 => ?_) (fun bq8 => ?_)
              · skip
                refine v_iload_n (pc := 105) rfl dX4_firstCoin_105 ?_
                refine v_istore_n (pc := 106) (by decide) rfl dX4_firstCoin_106 ?_
                refine v_iinc (pc := 107) (y := 1) rfl (by decide) rfl dX4_firstCoin_107 ?_
                refine v_goto (pc := 110) (tgt := 4) dX4_firstCoin_110 (by decide) ?_
                refine v_loc (L' := [some (vR g 106), some (vI d), some (vI f), some (vI (k + 1)), none, none]) (⟨rfl, rfl, rfl, rfl, trivial⟩) ?_
                exact ih4 (k + 1) f (by omega) (by
                          rcases hinv with w | w
                          · refine Or.inl ⟨w.1, fun j j0 j1 => (Classical.em (j = k)).elim (fun q => by rw [q]; first | assumption | (exfalso; omega)) (fun q => w.2 j j0 (by omega))⟩
                          · refine Or.inr ⟨by omega, w.2.1, fun j j0 j1 e => (Classical.em (j = k)).elim (fun q => by rw [q] at e ⊢; first | exact absurd e (by assumption) | omega) (fun q => w.2.2 j j0 (by omega) e)⟩) (by omega)
              · skip
                refine v_iload_n (pc := 101) rfl dX4_firstCoin_101 ?_
                refine v_goto (pc := 102) (tgt := 106) dX4_firstCoin_102 (by decide) ?_
                refine v_istore_n (pc := 106) (by decide) rfl dX4_firstCoin_106 ?_
                refine v_iinc (pc := 107) (y := 1) rfl (by decide) rfl dX4_firstCoin_107 ?_
                refine v_goto (pc := 110) (tgt := 4) dX4_firstCoin_110 (by decide) ?_
                refine v_loc (L' := [some (vR g 106), some (vI d), some (vI k), some (vI (k + 1)), none, none]) (⟨rfl, rfl, rfl, rfl, trivial⟩) ?_
                exact ih4 (k + 1) k (by omega) (Or.inr ⟨by omega, by assumption, fun j j0 j1 e => (Classical.em (j = k)).elim (fun q => by rw [q]; omega) (fun q => by
                          rcases hinv with w | w
                          · exact absurd e (w.2 j j0 (by omega))
                          · have w2 := w.2.2 j j0 (by omega) e
                            omega)⟩) (by omega)
            · skip
              refine v_aload_n (pc := 66) rfl dX4_firstCoin_66 ?_
              refine v_getR (pc := 67) (j := 107) fd_X4_9 (rfl) (by decide) rfl dX4_firstCoin_67 ?_
              refine v_iload_n (pc := 70) rfl dX4_firstCoin_70 ?_
              refine v_callS (pc := 71) (rest := [vR g 107]) (c_X4_coinAt) sok_X4_coinAt wM_X4_68 (rmOk (by decide) (by decide)) ⟨Nat.le_of_ble_eq_true rfl, Nat.le_of_ble_eq_true rfl⟩ (Nat.le_of_ble_eq_true rfl) rfl dX4_firstCoin_71 (fun v G' hq => ?_) (fun _ _ h => h.elim)
              obtain ⟨rfl, hG9⟩ := hq
              rw [hG9]
              refine v_stk (st' := [vI (24 + 3 * f), vR g 107]) rfl ?_
              refine v_iconst (pc := 74) (z := 1) dX4_firstCoin_74 ?_
              refine v_iadd (pc := 75) dX4_firstCoin_75 ?_
              refine v_iald (pc := 76) (N := 144) rfl rfl (by decide) (by omega) (by decide) dX4_firstCoin_76 ?_
              have r9 := MoI_k hM (k := f) (by omega) (by omega)
              refine v_aload_n (pc := 77) rfl dX4_firstCoin_77 ?_
              refine v_getR (pc := 78) (j := 107) fd_X4_9 (rfl) (by decide) rfl dX4_firstCoin_78 ?_
              refine v_iload_n (pc := 81) rfl dX4_firstCoin_81 ?_
              refine v_callS (pc := 82) (rest := [vR g 107, vI (G 107 ((24 + 3 * f) + 1))]) (c_X4_coinAt) sok_X4_coinAt wM_X4_68 (rmOk (by decide) (by decide)) ⟨Nat.le_of_ble_eq_true rfl, Nat.le_of_ble_eq_true rfl⟩ (Nat.le_of_ble_eq_true rfl) rfl dX4_firstCoin_82 (fun v G' hq => ?_) (fun _ _ h => h.elim)
              obtain ⟨rfl, hG9⟩ := hq
              rw [hG9]
              refine v_stk (st' := [vI (24 + 3 * k), vR g 107, vI (G 107 ((24 + 3 * f) + 1))]) rfl ?_
              refine v_iconst (pc := 85) (z := 1) dX4_firstCoin_85 ?_
              refine v_iadd (pc := 86) dX4_firstCoin_86 ?_
              refine v_iald (pc := 87) (N := 144) rfl rfl (by decide) (by omega) (by decide) dX4_firstCoin_87 ?_
              have r10 := MoI_k hM (k := k) (by omega) (by omega)
              refine v_isub (pc := 88) dX4_firstCoin_88 ?_
              refine v_goto (pc := 89) (tgt := 94) dX4_firstCoin_89 (by decide) ?_
              refine v_istore (pc := 94) (by decide) rfl dX4_firstCoin_94 ?_
              refine v_iload (pc := 96) rfl dX4_firstCoin_96 ?_
              refine v_if_le (pc := 98) (tgt := 105) (by omega) dX4_firstCoin_98 (by decide) (fun bq11 => ?_) (fun bq11 => ?_)
              · skip
                refine v_iload_n (pc := 105) rfl dX4_firstCoin_105 ?_
                refine v_istore_n (pc := 106) (by decide) rfl dX4_firstCoin_106 ?_
                refine v_iinc (pc := 107) (y := 1) rfl (by decide) rfl dX4_firstCoin_107 ?_
                refine v_goto (pc := 110) (tgt := 4) dX4_firstCoin_110 (by decide) ?_
                refine v_loc (L' := [some (vR g 106), some (vI d), some (vI f), some (vI (k + 1)), none, none]) (⟨rfl, rfl, rfl, rfl, trivial⟩) ?_
                exact ih4 (k + 1) f (by omega) (by
                          rcases hinv with w | w
                          · refine Or.inl ⟨w.1, fun j j0 j1 => (Classical.em (j = k)).elim (fun q => by rw [q]; first | assumption | (exfalso; omega)) (fun q => w.2 j j0 (by omega))⟩
                          · refine Or.inr ⟨by omega, w.2.1, fun j j0 j1 e => (Classical.em (j = k)).elim (fun q => by rw [q] at e ⊢; first | exact absurd e (by assumption) | omega) (fun q => w.2.2 j j0 (by omega) e)⟩) (by omega)
              · skip
                refine v_iload_n (pc := 101) rfl dX4_firstCoin_101 ?_
                refine v_goto (pc := 102) (tgt := 106) dX4_firstCoin_102 (by decide) ?_
                refine v_istore_n (pc := 106) (by decide) rfl dX4_firstCoin_106 ?_
                refine v_iinc (pc := 107) (y := 1) rfl (by decide) rfl dX4_firstCoin_107 ?_
                refine v_goto (pc := 110) (tgt := 4) dX4_firstCoin_110 (by decide) ?_
                refine v_loc (L' := [some (vR g 106), some (vI d), some (vI k), some (vI (k + 1)), none, none]) (⟨rfl, rfl, rfl, rfl, trivial⟩) ?_
                exact ih4 (k + 1) k (by omega) (Or.inr ⟨by omega, by assumption, fun j j0 j1 e => (Classical.em (j = k)).elim (fun q => by rw [q]; omega) (fun q => by
                          rcases hinv with w | w
                          · exact absurd e (w.2 j j0 (by omega))
                          · have w2 := w.2.2 j j0 (by omega) e
                            omega)⟩) (by omega)
          · skip
            refine v_iconst (pc := 32) (z := 1) dX4_firstCoin_32 ?_
            refine v_goto (pc := 33) (tgt := 59) dX4_firstCoin_33 (by decide) ?_
            refine v_istore (pc := 59) (by decide) rfl dX4_firstCoin_59 ?_
            refine v_iload (pc := 61) rfl dX4_firstCoin_61 ?_
            refine v_if_ne (pc := 63) (tgt := 92) (by omega) dX4_firstCoin_63 (by decide) (fun _ => ?_) (fun bq12 => absurd bq12 (by decide))
            refine v_iload (pc := 92) rfl dX4_firstCoin_92 ?_
            refine v_istore (pc := 94) (by decide) rfl dX4_firstCoin_94 ?_
            refine v_iload (pc := 96) rfl dX4_firstCoin_96 ?_
            refine v_if_le (pc := 98) (tgt := 105) (by omega) dX4_firstCoin_98 (by decide) (fun bq13 => absurd bq13 (by decide)) (fun _ => ?_)
            refine v_iload_n (pc := 101) rfl dX4_firstCoin_101 ?_
            refine v_goto (pc := 102) (tgt := 106) dX4_firstCoin_102 (by decide) ?_
            refine v_istore_n (pc := 106) (by decide) rfl dX4_firstCoin_106 ?_
            refine v_iinc (pc := 107) (y := 1) rfl (by decide) rfl dX4_firstCoin_107 ?_
            refine v_goto (pc := 110) (tgt := 4) dX4_firstCoin_110 (by decide) ?_
            refine v_loc (L' := [some (vR g 106), some (vI d), some (vI k), some (vI (k + 1)), none, none]) (⟨rfl, rfl, rfl, rfl, trivial⟩) ?_
            exact ih4 (k + 1) k (by omega) (Or.inr ⟨by omega, by assumption, fun j j0 j1 e => (Classical.em (j = k)).elim (fun q => by rw [q]; omega) (fun q => by
                      rcases hinv with w | w
                      · exact absurd e (w.2 j j0 (by omega))
                      · have w2 := w.2.2 j j0 (by omega) e
                        omega)⟩) (by omega)
  refine v_loc (L' := [some (vR g 106), some (vI d), some (vI (-1)), some (vI 0), none, none]) (⟨rfl, rfl, rfl, rfl, trivial⟩) ?_
  exact lp4 _ 0 (-1) (by omega) (Or.inl ⟨rfl, fun j a c => absurd c (by omega)⟩) (Nat.lt_succ_self _)
