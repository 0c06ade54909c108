-- doubles and floats
/-- the mean wear, the share of a grade -/
def mwD (s n : Int) : UInt64 := FP.ddiv (FP.i2d (Int32.ofInt s)) (FP.i2d (Int32.ofInt n))
def gsF (k n : Int) : UInt32 := FP.fdiv (FP.i2f (Int32.ofInt k)) (FP.i2f (Int32.ofInt n))
theorem mwD_ok {s n : Int} (hs : 0 ≤ s ∧ s ≤ 150) (hn : 1 ≤ n ∧ n ≤ 5) : vf_n64 (mwD s n) ∧ Op.cmpValue (FP.dcmp (mwD s n) (mwD s n)) .l = 0 := by
  obtain ⟨a, rfl⟩ := Int.eq_ofNat_of_zero_le hs.1
  obtain ⟨b, rfl⟩ := Int.eq_ofNat_of_zero_le (a := n) (by omega)
  have h : ∀ a : Nat, a < 151 → ∀ b : Nat, b < 5 → (mwD (a : Int) ((b + 1 : Nat) : Int) &&& 0x7fffffffffffffff ≤ 0x7ff0000000000000) ∧ Op.cmpValue (FP.dcmp (mwD (a : Int) ((b + 1 : Nat) : Int)) (mwD (a : Int) ((b + 1 : Nat) : Int))) .l = 0 := by decide +kernel
  have q := h a (by omega) (b - 1) (by omega)
  rw [show b - 1 + 1 = b by omega] at q
  exact q
theorem gsF_ok {s n : Int} (hs : 0 ≤ s ∧ s ≤ 40) (hn : 1 ≤ n ∧ n ≤ 40) : vf_n32 (gsF s n) ∧ vf_n64 (FP.f2d (gsF s n)) ∧ Op.cmpValue (FP.dcmp (FP.f2d (gsF s n)) (FP.f2d (gsF s n))) .l = 0 := by
  obtain ⟨a, rfl⟩ := Int.eq_ofNat_of_zero_le hs.1
  obtain ⟨b, rfl⟩ := Int.eq_ofNat_of_zero_le (a := n) (by omega)
  have h : ∀ a : Nat, a < 41 → ∀ b : Nat, b < 40 → (gsF (a : Int) ((b + 1 : Nat) : Int) &&& 0x7fffffff ≤ 0x7f800000) ∧ (FP.f2d (gsF (a : Int) ((b + 1 : Nat) : Int)) &&& 0x7fffffffffffffff ≤ 0x7ff0000000000000) ∧ Op.cmpValue (FP.dcmp (FP.f2d (gsF (a : Int) ((b + 1 : Nat) : Int))) (FP.f2d (gsF (a : Int) ((b + 1 : Nat) : Int)))) .l = 0 := by decide +kernel
  have q := h a (by omega) (b - 1) (by omega)
  rw [show b - 1 + 1 = b by omega] at q
  exact q
section VFL
variable {γ : gT} {g : GT} {cc : ByteArray} {nL : Nat} {own : String} {rm : Room} {G : Mem} {k n : Nat} {pc : Nat} {L : List (Option Value)} {st : List Value}
theorem v_i2d {a : Int} (d : decode cc pc = .ok (.i2d, 1)) (kk : V γ g cc nL own rm G k n (pc + 1) L (.double (FP.i2d (Int32.ofInt a)) :: st)) : V γ g cc nL own rm G k n pc L (vI a :: st) :=
  v_row (fun p l e R s m args below meth c Q H locs ls C hL q => lv_i2d C.1 C.2.1 d q) kk
theorem v_i2f {a : Int} (d : decode cc pc = .ok (.i2f, 1)) (kk : V γ g cc nL own rm G k n (pc + 1) L (.float (FP.i2f (Int32.ofInt a)) :: st)) : V γ g cc nL own rm G k n pc L (vI a :: st) :=
  v_row (fun p l e R s m args below meth c Q H locs ls C hL q => lv_i2f C.1 C.2.1 d q) kk
theorem v_ddiv {x y : UInt64} (hn : vf_n64 (FP.ddiv x y)) (d : decode cc pc = .ok (.ddiv, 1)) (kk : V γ g cc nL own rm G k n (pc + 1) L (.double (FP.ddiv x y) :: st)) : V γ g cc nL own rm G k n pc L (.double y :: .double x :: st) :=
  v_row (fun p l e R s m args below meth c Q H locs ls C hL q => lv_ddiv C.1 C.2.1 d hn q) kk
theorem v_fdiv {x y : UInt32} (hn : vf_n32 (FP.fdiv x y)) (d : decode cc pc = .ok (.fdiv, 1)) (kk : V γ g cc nL own rm G k n (pc + 1) L (.float (FP.fdiv x y) :: st)) : V γ g cc nL own rm G k n pc L (.float y :: .float x :: st) :=
  v_row (fun p l e R s m args below meth c Q H locs ls C hL q => lv_fdiv C.1 C.2.1 d hn q) kk
theorem v_f2d {x : UInt32} (hn : vf_n64 (FP.f2d x)) (d : decode cc pc = .ok (.f2d, 1)) (kk : V γ g cc nL own rm G k n (pc + 1) L (.double (FP.f2d x) :: st)) : V γ g cc nL own rm G k n pc L (.float x :: st) :=
  v_row (fun p l e R s m args below meth c Q H locs ls C hL q => lv_f2d C.1 C.2.1 d hn q) kk
theorem v_dconst0 (d : decode cc pc = .ok (.dconst 0, 1)) (kk : V γ g cc nL own rm G k n (pc + 1) L (.double FP.dconst0 :: st)) : V γ g cc nL own rm G k n pc L st :=
  v_row (fun p l e R s m args below meth c Q H locs ls C hL q => lv_dconst0 C.1 C.2.1 d q) kk
theorem v_fconst0 (d : decode cc pc = .ok (.fconst 0, 1)) (kk : V γ g cc nL own rm G k n (pc + 1) L (.float FP.fconst0 :: st)) : V γ g cc nL own rm G k n pc L st :=
  v_row (fun p l e R s m args below meth c Q H locs ls C hL q => lv_fconst0 C.1 C.2.1 d q) kk
end VFL
theorem sz_le {f : Int → Int} {n b : Int} (h0 : 0 ≤ n) (h : ∀ i, 0 ≤ i → i < n → 0 ≤ f i ∧ f i ≤ b) (hb : 0 ≤ b) : 0 ≤ sz n f ∧ sz n f ≤ b * n := by
  obtain ⟨k, rfl⟩ := Int.eq_ofNat_of_zero_le h0
  induction k with
  | zero => exact ⟨Int.le_refl 0, by show (0 : Int) ≤ b * 0; omega⟩
  | succ k ih =>
    have i1 := ih (by omega) (fun i a c => h i a (by omega))
    have i2 := h k (by omega) (by omega)
    rw [show ((k + 1 : Nat) : Int) = (k : Int) + 1 by omega, sz_s (by omega), Int.mul_add, Int.mul_one]
    omega

set_option maxHeartbeats 4000000 in
set_option maxRecDepth 100000 in
theorem c_X3_meanWear {g : GT} {G : Mem} (hI : StI G 4) : Ctr g yX3_meanWear cX3_meanWear 3 (some FieldType.double) (rmL 1 1 6) [vR g 0] G (fun v G' => v = some (.double (mwD (sz (G 4 0) (G 7)) (G 4 0))) ∧ G' = G ∧ G 4 0 ≠ 0) (fun e G' => e = eAR ∧ G' = G ∧ G 4 0 = 0) := by
  refine ctr_of [some (vR g 0), none, none] (by decide) (Nat.le_of_ble_eq_true rfl) rfl (fun γ E => ?_)
  show V γ g cX3_meanWear 3 RX3 (rmL 1 1 6) G 0 0 0 [some (vR g 0), none, none] []
  have hn := StI_n hI
  have hc := StI_c hI
  have hy := StI_y hI
  have hsm := sz_le (f := G 7) (b := 30) hn.1 (fun i a c => (S4_d hI a c).2.2) (by omega)
  refine v_aload_n (pc := 0) rfl dX3_meanWear_0 ?_
  refine v_getR (pc := 1) (j := 4) fd_X3_10 (rfl) (by decide) rfl dX3_meanWear_1 ?_
  refine v_get (pc := 4) 0 fd_X3_58 (rfl) (by decide) rfl rfl dX3_meanWear_4 ?_
  refine v_if_ne (pc := 7) (tgt := 20) (by omega) dX3_meanWear_7 (by decide) (fun bq1 => ?_) (fun bq1 => ?_)
  · skip
    refine v_iconst (pc := 20) (z := 0) dX3_meanWear_20 ?_
    refine v_istore_n (pc := 21) (by decide) rfl dX3_meanWear_21 ?_
    refine v_iconst (pc := 22) (z := 0) dX3_meanWear_22 ?_
    refine v_istore_n (pc := 23) (by decide) rfl dX3_meanWear_23 ?_
    have lp24 : ∀ (m24 : Nat) (i : Int) (s : Int), (0 ≤ i ∧ i ≤ G 4 0) → (s = sz i (G 7)) → (0 ≤ s ∧ s ≤ 30 * i) → ((G 4 0 - i).toNat) < m24 → V γ g cX3_meanWear 3 RX3 (rmL 1 1 6) G 0 0 24 [some (vR g 0), some (vI s), some (vI i)] [] := by
      intro m24
      induction m24 with
      | zero => intro i s; intros; omega
      | succ m24 ih24 =>
        intro i s h0 hs hsr hm24
        refine v_iload_n (pc := 24) rfl dX3_meanWear_24 ?_
        refine v_aload_n (pc := 25) rfl dX3_meanWear_25 ?_
        refine v_getR (pc := 26) (j := 4) fd_X3_10 (rfl) (by decide) rfl dX3_meanWear_26 ?_
        refine v_get (pc := 29) 0 fd_X3_58 (rfl) (by decide) rfl rfl dX3_meanWear_29 ?_
        refine v_icmp_ge (pc := 32) (tgt := 53) (by omega) dX3_meanWear_32 (by decide) (fun bq2 => ?_) (fun bq2 => ?_)
        · skip
          refine v_iload_n (pc := 53) rfl dX3_meanWear_53 ?_
          refine v_i2d (pc := 54) dX3_meanWear_54 ?_
          refine v_aload_n (pc := 55) rfl dX3_meanWear_55 ?_
          refine v_getR (pc := 56) (j := 4) fd_X3_10 (rfl) (by decide) rfl dX3_meanWear_56 ?_
          refine v_get (pc := 59) 0 fd_X3_58 (rfl) (by decide) rfl rfl dX3_meanWear_59 ?_
          refine v_i2d (pc := 62) dX3_meanWear_62 ?_
          refine v_ddiv (pc := 63) ((mwD_ok (s := s) (n := G 4 0) (by omega) (by omega)).1) dX3_meanWear_63 ?_
          refine v_stk (st' := [.double (mwD s (G 4 0))]) rfl ?_
          exact v_dret (pc := 64) E (⟨by rw [hs, show i = G 4 0 by omega], rfl, by omega⟩) (Nat.le_of_ble_eq_true rfl) (Nat.le_of_ble_eq_true rfl) dX3_meanWear_64
        · skip
          refine v_iload_n (pc := 35) rfl dX3_meanWear_35 ?_
          refine v_aload_n (pc := 36) rfl dX3_meanWear_36 ?_
          refine v_getR (pc := 37) (j := 4) fd_X3_10 (rfl) (by decide) rfl dX3_meanWear_37 ?_
          refine v_getR (pc := 40) (j := 7) fd_X3_72 (rfl) (by decide) rfl dX3_meanWear_40 ?_
          refine v_iload_n (pc := 43) rfl dX3_meanWear_43 ?_
          refine v_iald (pc := 44) (N := 5) rfl rfl (by decide) (by omega) (by decide) dX3_meanWear_44 ?_
          have r3 := S4_d hI (i := i) (by omega) (by omega)
          refine v_iadd (pc := 45) dX3_meanWear_45 ?_
          refine v_istore_n (pc := 46) (by decide) rfl dX3_meanWear_46 ?_
          refine v_iinc (pc := 47) (y := 1) rfl (by decide) rfl dX3_meanWear_47 ?_
          refine v_goto (pc := 50) (tgt := 24) dX3_meanWear_50 (by decide) ?_
          exact ih24 (i + 1) (s + (G 7 i)) (by omega) (by rw [sz_s (by omega), hs]) (by omega) (by omega)
    refine v_loc (L' := [some (vR g 0), some (vI 0), some (vI 0)]) (⟨rfl, rfl, rfl, trivial⟩) ?_
    exact lp24 _ 0 0 (by omega) rfl (by omega) (Nat.lt_succ_self _)
  · skip
    exact v_throw (pc := 10) (text := "there are no dies") xok_AR (by decide) E (⟨rfl, rfl, by omega⟩) dX3_meanWear_10 dX3_meanWear_13 dX3_meanWear_14 dX3_meanWear_16 dX3_meanWear_19 (Nat.le_of_ble_eq_true rfl) (Nat.le_of_ble_eq_true rfl) (Nat.le_of_ble_eq_true rfl) (Nat.le_of_ble_eq_true rfl) (Nat.le_of_ble_eq_true rfl)
set_option maxHeartbeats 4000000 in
set_option maxRecDepth 100000 in
theorem c_X3_gradeShare {g : GT} {G : Mem} (hI : StI G 4) {c : Int} (h_c : 0 ≤ c ∧ c < 65536) : Ctr g yX3_gradeShare cX3_gradeShare 3 (some FieldType.float) (rmL 1 2 12) [vR g 0, vI c] G (fun v G' => v = some (.float (gsF (cntE (G 4 5) (G 11) (c - 65)) (G 4 5))) ∧ G' = G ∧ (65 ≤ c ∧ c ≤ 67) ∧ G 4 5 ≠ 0) (fun e G' => G' = G ∧ ((e = eIA ∧ ¬ (65 ≤ c ∧ c ≤ 67)) ∨ (e = eAR ∧ (65 ≤ c ∧ c ≤ 67) ∧ G 4 5 = 0))) := by
  refine ctr_of [some (vR g 0), some (vI c), none] (by decide) (Nat.le_of_ble_eq_true rfl) rfl (fun γ E => ?_)
  show V γ g cX3_gradeShare 3 RX3 (rmL 1 2 12) G 0 0 0 [some (vR g 0), some (vI c), none] []
  have hn := StI_n hI
  have hc := StI_c hI
  have hy := StI_y hI
  have hk : 0 ≤ cntE (G 4 5) (G 11) (c - 65) ∧ cntE (G 4 5) (G 11) (c - 65) ≤ G 4 5 := sz_cnt (n := G 4 5) (p := fun k => G 11 k = c - 65) (fun k => Int.instDecidableEq _ _) hc.1
  refine v_iload_n (pc := 0) rfl dX3_gradeShare_0 ?_
  refine v_callS (pc := 1) (rest := []) (c_X3_requireGrade h_c) sok_X3_requireGrade wM_X3_119 (rmOk (by decide) (by decide)) ⟨Nat.le_of_ble_eq_true rfl, Nat.le_of_ble_eq_true rfl⟩ (Nat.le_of_ble_eq_true rfl) rfl dX3_gradeShare_1 (fun v G' hq => ?_) (fun e G' hx => vx_pass E (show _ ∧ _ from ⟨hx.2.1, Or.inl ⟨hx.1, hx.2.2⟩⟩) (Nat.le_of_ble_eq_true rfl) (Nat.le_of_ble_eq_true rfl))
  obtain ⟨rfl, hG9, hd⟩ := hq
  rw [hG9]
  refine v_stk (st' := [vI (c - 65)]) rfl ?_
  refine v_istore_n (pc := 4) (by decide) rfl dX3_gradeShare_4 ?_
  refine v_aload_n (pc := 5) rfl dX3_gradeShare_5 ?_
  refine v_getR (pc := 6) (j := 4) fd_X3_10 (rfl) (by decide) rfl dX3_gradeShare_6 ?_
  refine v_get (pc := 9) 5 fd_X3_100 (rfl) (by decide) rfl rfl dX3_gradeShare_9 ?_
  refine v_if_ne (pc := 12) (tgt := 25) (by omega) dX3_gradeShare_12 (by decide) (fun bq1 => ?_) (fun bq1 => ?_)
  · skip
    refine v_aload_n (pc := 25) rfl dX3_gradeShare_25 ?_
    refine v_getR (pc := 26) (j := 4) fd_X3_10 (rfl) (by decide) rfl dX3_gradeShare_26 ?_
    refine v_iload_n (pc := 29) rfl dX3_gradeShare_29 ?_
    refine v_callVN (pc := 30) (rest := []) (c_X2_coinsGraded isS4 hI (d := c - 65) (by omega)) iok_X2_coinsGraded wM_X3_123 (rfl) (by decide) (by decide) rfl (rmOk (by decide) (by decide)) ⟨Nat.le_of_ble_eq_true rfl, Nat.le_of_ble_eq_true rfl⟩ (Nat.le_of_ble_eq_true rfl) rfl dX3_gradeShare_30 (fun v G' hq => ?_) (fun _ _ h => h.elim)
    obtain ⟨rfl, hG9⟩ := hq
    rw [hG9]
    refine v_stk (st' := [vI (cntE (G 4 5) (G 11) (c - 65))]) rfl ?_
    refine v_i2f (pc := 33) dX3_gradeShare_33 ?_
    refine v_aload_n (pc := 34) rfl dX3_gradeShare_34 ?_
    refine v_getR (pc := 35) (j := 4) fd_X3_10 (rfl) (by decide) rfl dX3_gradeShare_35 ?_
    refine v_get (pc := 38) 5 fd_X3_100 (rfl) (by decide) rfl rfl dX3_gradeShare_38 ?_
    refine v_i2f (pc := 41) dX3_gradeShare_41 ?_
    refine v_fdiv (pc := 42) ((gsF_ok (s := cntE (G 4 5) (G 11) (c - 65)) (n := G 4 5) (by omega) (by omega)).1) dX3_gradeShare_42 ?_
    refine v_stk (st' := [.float (gsF (cntE (G 4 5) (G 11) (c - 65)) (G 4 5))]) rfl ?_
    exact v_fret (pc := 43) E (⟨rfl, rfl, hd, by omega⟩) (Nat.le_of_ble_eq_true rfl) (Nat.le_of_ble_eq_true rfl) dX3_gradeShare_43
  · skip
    exact v_throw (pc := 15) (text := "the vault is empty") xok_AR (by decide) E (⟨rfl, Or.inr ⟨rfl, hd, by omega⟩⟩) dX3_gradeShare_15 dX3_gradeShare_18 dX3_gradeShare_19 dX3_gradeShare_21 dX3_gradeShare_24 (Nat.le_of_ble_eq_true rfl) (Nat.le_of_ble_eq_true rfl) (Nat.le_of_ble_eq_true rfl) (Nat.le_of_ble_eq_true rfl) (Nat.le_of_ble_eq_true rfl)
set_option maxHeartbeats 4000000 in
set_option maxRecDepth 100000 in
theorem c_X4_meanWear {g : GT} {G : Mem} (hM : MoI (G 107)) : Ctr g yX4_meanWear cX4_meanWear 3 (some FieldType.double) (rmL 2 0 0) [vR g 106] G (fun v G' => ∃ (x : UInt64) (k : Int), v = some (.double x) ∧ G' = upd2 G 106 8 k ∧ ((k = 0 ∧ G 107 0 ≠ 0 ∧ x = mwD (sz (G 107 0) (fun k => G 107 (9 + 3 * k + 2))) (G 107 0)) ∨ (k = 1 ∧ G 107 0 = 0))) NoX := by
  refine ctr_of [some (vR g 106), none, none] (by decide) (Nat.le_of_ble_eq_true rfl) rfl (fun γ E => ?_)
  show V γ g cX4_meanWear 3 RX4 (rmL 2 0 0) G 0 0 0 [some (vR g 106), none, none] []
  have hn := MoI_n hM
  have hc := MoI_c hM
  have hy := MoI_y hM
  have hsm := sz_le (f := (fun k => G 107 (9 + 3 * k + 2))) (b := 30) hn.1 (fun i a c => (MoI_d hM a c).2.2) (by omega)
  refine v_aload_n (pc := 0) rfl dX4_meanWear_0 ?_
  refine v_iconst (pc := 1) (z := 0) dX4_meanWear_1 ?_
  refine v_put (pc := 2) 8 pd_X4_54 (rfl) (by decide) rfl rfl dX4_meanWear_2 ?_
  refine v_aload_n (pc := 5) rfl dX4_meanWear_5 ?_
  refine v_getR (pc := 6) (j := 107) fd_X4_9 (rfl) (by decide) rfl dX4_meanWear_6 ?_
  refine v_iconst (pc := 9) (z := 0) dX4_meanWear_9 ?_
  refine v_iald (pc := 10) (N := 144) rfl rfl (by decide) (by omega) (by decide) dX4_meanWear_10 ?_
  refine v_top (b := G 107 0) (upd2_i (by decide)) ?_
  refine v_if_ne (pc := 11) (tgt := 22) (by omega) dX4_meanWear_11 (by decide) (fun bq1 => ?_) (fun bq1 => ?_)
  · skip
    refine v_iconst (pc := 22) (z := 0) dX4_meanWear_22 ?_
    refine v_istore_n (pc := 23) (by decide) rfl dX4_meanWear_23 ?_
    refine v_iconst (pc := 24) (z := 0) dX4_meanWear_24 ?_
    refine v_istore_n (pc := 25) (by decide) rfl dX4_meanWear_25 ?_
    have lp26 : ∀ (m26 : Nat) (i : Int) (s : Int), (0 ≤ i ∧ i ≤ G 107 0) → (s = sz i (fun k => G 107 (9 + 3 * k + 2))) → (0 ≤ s ∧ s ≤ 30 * i) → ((G 107 0 - i).toNat) < m26 → V γ g cX4_meanWear 3 RX4 (rmL 2 0 0) (upd2 G 106 8 0) 0 0 26 [some (vR g 106), some (vI s), some (vI i)] [] := by
      intro m26
      induction m26 with
      | zero => intro i s; intros; omega
      | succ m26 ih26 =>
        intro i s h0 hs hsr hm26
        refine v_iload_n (pc := 26) rfl dX4_meanWear_26 ?_
        refine v_aload_n (pc := 27) rfl dX4_meanWear_27 ?_
        refine v_getR (pc := 28) (j := 107) fd_X4_9 (rfl) (by decide) rfl dX4_meanWear_28 ?_
        refine v_iconst (pc := 31) (z := 0) dX4_meanWear_31 ?_
        refine v_iald (pc := 32) (N := 144) rfl rfl (by decide) (by omega) (by decide) dX4_meanWear_32 ?_
        refine v_top (b := G 107 0) (upd2_i (by decide)) ?_
        refine v_icmp_ge (pc := 33) (tgt := 56) (by omega) dX4_meanWear_33 (by decide) (fun bq2 => ?_) (fun bq2 => ?_)
        · skip
          refine v_iload_n (pc := 56) rfl dX4_meanWear_56 ?_
          refine v_i2d (pc := 57) dX4_meanWear_57 ?_
          refine v_aload_n (pc := 58) rfl dX4_meanWear_58 ?_
          refine v_getR (pc := 59) (j := 107) fd_X4_9 (rfl) (by decide) rfl dX4_meanWear_59 ?_
          refine v_iconst (pc := 62) (z := 0) dX4_meanWear_62 ?_
          refine v_iald (pc := 63) (N := 144) rfl rfl (by decide) (by omega) (by decide) dX4_meanWear_63 ?_
          refine v_top (b := G 107 0) (upd2_i (by decide)) ?_
          refine v_i2d (pc := 64) dX4_meanWear_64 ?_
          refine v_ddiv (pc := 65) ((mwD_ok (s := s) (n := G 107 0) (by omega) (by omega)).1) dX4_meanWear_65 ?_
          refine v_stk (st' := [.double (mwD s (G 107 0))]) rfl ?_
          exact v_dret (pc := 66) E (⟨_, 0, rfl, rfl, Or.inl ⟨rfl, by omega, by rw [hs, show i = G 107 0 by omega]⟩⟩) (Nat.le_of_ble_eq_true rfl) (Nat.le_of_ble_eq_true rfl) dX4_meanWear_66
        · skip
          refine v_iload_n (pc := 36) rfl dX4_meanWear_36 ?_
          refine v_aload_n (pc := 37) rfl dX4_meanWear_37 ?_
          refine v_getR (pc := 38) (j := 107) fd_X4_9 (rfl) (by decide) rfl dX4_meanWear_38 ?_
          refine v_iload_n (pc := 41) rfl dX4_meanWear_41 ?_
          refine v_callS (pc := 42) (rest := [vR g 107, vI s]) (c_X4_dieAt) sok_X4_dieAt wM_X4_64 (rmOk (by decide) (by decide)) ⟨Nat.le_of_ble_eq_true rfl, Nat.le_of_ble_eq_true rfl⟩ (Nat.le_of_ble_eq_true rfl) rfl dX4_meanWear_42 (fun v G' hq => ?_) (fun _ _ h => h.elim)
          obtain ⟨rfl, hG9⟩ := hq
          rw [hG9]
          refine v_stk (st' := [vI (9 + 3 * i), vR g 107, vI s]) rfl ?_
          refine v_iconst (pc := 45) (z := 2) dX4_meanWear_45 ?_
          refine v_iadd (pc := 46) dX4_meanWear_46 ?_
          refine v_iald (pc := 47) (N := 144) rfl rfl (by decide) (by omega) (by decide) dX4_meanWear_47 ?_
          refine v_top (b := G 107 ((9 + 3 * i) + 2)) (upd2_i (by decide)) ?_
          have r3 := MoI_d hM (i := i) (by omega) (by omega)
          refine v_iadd (pc := 48) dX4_meanWear_48 ?_
          refine v_istore_n (pc := 49) (by decide) rfl dX4_meanWear_49 ?_
          refine v_iinc (pc := 50) (y := 1) rfl (by decide) rfl dX4_meanWear_50 ?_
          refine v_goto (pc := 53) (tgt := 26) dX4_meanWear_53 (by decide) ?_
          exact ih26 (i + 1) (s + (G 107 ((9 + 3 * i) + 2))) (by omega) (by rw [sz_s (by omega), hs]) (by omega) (by omega)
    refine v_loc (L' := [some (vR g 106), some (vI 0), some (vI 0)]) (⟨rfl, rfl, rfl, trivial⟩) ?_
    exact lp26 _ 0 0 (by omega) rfl (by omega) (Nat.lt_succ_self _)
  · skip
    refine v_aload_n (pc := 14) rfl dX4_meanWear_14 ?_
    refine v_iconst (pc := 15) (z := 1) dX4_meanWear_15 ?_
    refine v_callV (pc := 16) (rest := []) (c_X4_throwing) iok_X4_throwing wM_X4_81 (rfl) (by decide) (by decide) rfl (rmOk (by decide) (by decide)) ⟨Nat.le_of_ble_eq_true rfl, Nat.le_of_ble_eq_true rfl⟩ (Nat.le_of_ble_eq_true rfl) rfl dX4_meanWear_16 (fun v G' hq => ?_) (fun _ _ h => h.elim)
    obtain ⟨rfl, hG9⟩ := hq
    rw [hG9]
    refine v_stk (st' := [vI (-1)]) rfl ?_
    refine v_pop (pc := 19) rfl dX4_meanWear_19 ?_
    refine v_dconst0 (pc := 20) dX4_meanWear_20 ?_
    exact v_dret (pc := 21) E (⟨_, 1, rfl, upd2_u G 106 8 0 1, Or.inr ⟨rfl, by omega⟩⟩) (Nat.le_of_ble_eq_true rfl) (Nat.le_of_ble_eq_true rfl) dX4_meanWear_21
set_option maxHeartbeats 4000000 in
set_option maxRecDepth 100000 in
theorem c_X4_gradeShare {g : GT} {G : Mem} (hM : MoI (G 107)) {c : Int} (h_c : 0 ≤ c ∧ c < 65536) : Ctr g yX4_gradeShare cX4_gradeShare 2 (some FieldType.float) (rmL 3 0 0) [vR g 106, vI c] G (fun v G' => ∃ (x : UInt32) (k : Int), v = some (.float x) ∧ G' = upd2 G 106 8 k ∧ ((k = 0 ∧ ((65 ≤ c ∧ c ≤ 67) ∧ G 107 3 ≠ 0) ∧ x = gsF (cntE (G 107 3) (fun k => G 107 (24 + 3 * k + 2)) (c - 65)) (G 107 3)) ∨ (k = 1 ∧ ¬ (65 ≤ c ∧ c ≤ 67)) ∨ (k = 2 ∧ (65 ≤ c ∧ c ≤ 67) ∧ G 107 3 = 0))) NoX := by
  refine ctr_of [some (vR g 106), some (vI c)] (by decide) (Nat.le_of_ble_eq_true rfl) rfl (fun γ E => ?_)
  show V γ g cX4_gradeShare 2 RX4 (rmL 3 0 0) G 0 0 0 [some (vR g 106), some (vI c)] []
  have hn := MoI_n hM
  have hc := MoI_c hM
  have hy := MoI_y hM
  have hk : 0 ≤ cntE (G 107 3) (fun k => G 107 (24 + 3 * k + 2)) (c - 65) ∧ cntE (G 107 3) (fun k => G 107 (24 + 3 * k + 2)) (c - 65) ≤ G 107 3 := sz_cnt (n := G 107 3) (p := fun k => G 107 (24 + 3 * k + 2) = c - 65) (fun k => Int.instDecidableEq _ _) hc.1
  refine v_aload_n (pc := 0) rfl dX4_gradeShare_0 ?_
  refine v_iconst (pc := 1) (z := 0) dX4_gradeShare_1 ?_
  refine v_put (pc := 2) 8 pd_X4_54 (rfl) (by decide) rfl rfl dX4_gradeShare_2 ?_
  refine v_iload_n (pc := 5) rfl dX4_gradeShare_5 ?_
  refine v_i2l (pc := 6) (by omega) dX4_gradeShare_6 ?_
  refine v_ldc2 (pc := 7) (z := 65) wG_X4_175 (by decide) dX4_gradeShare_7 ?_
  refine v_ldc2 (pc := 10) (z := 67) wG_X4_177 (by decide) dX4_gradeShare_10 ?_
  refine v_callS (pc := 13) (rest := []) (c_X4_in (by omega) (by omega) (by omega)) sok_X4_in wM_X4_60 (rmOk (by decide) (by decide)) ⟨Nat.le_of_ble_eq_true rfl, Nat.le_of_ble_eq_true rfl⟩ (Nat.le_of_ble_eq_true rfl) rfl dX4_gradeShare_13 (fun v G' hq => ?_) (fun _ _ h => h.elim)
  obtain ⟨rfl, hG9⟩ := hq
  rw [hG9]
  refine v_stk (st' := [vI (bI (65 ≤ c ∧ c ≤ 67))]) rfl ?_
  refine v_if_ne (pc := 16) (tgt := 27) (bI_r _) dX4_gradeShare_16 (by decide) (fun bq1 => ?_) (fun bq1 => ?_)
  · skip
    have bq1 := bI_n0 bq1
    refine v_aload_n (pc := 27) rfl dX4_gradeShare_27 ?_
    refine v_getR (pc := 28) (j := 107) fd_X4_9 (rfl) (by decide) rfl dX4_gradeShare_28 ?_
    refine v_iconst (pc := 31) (z := 3) dX4_gradeShare_31 ?_
    refine v_iald (pc := 32) (N := 144) rfl rfl (by decide) (by omega) (by decide) dX4_gradeShare_32 ?_
    refine v_top (b := G 107 3) (upd2_i (by decide)) ?_
    refine v_if_ne (pc := 33) (tgt := 44) (by omega) dX4_gradeShare_33 (by decide) (fun bq2 => ?_) (fun bq2 => ?_)
    · skip
      refine v_aload_n (pc := 44) rfl dX4_gradeShare_44 ?_
      refine v_iload_n (pc := 45) rfl dX4_gradeShare_45 ?_
      refine v_callV (pc := 46) (rest := []) (c_X4_manyOfGrade (G := upd2 G 106 8 0) hM h_c) iok_X4_manyOfGrade wM_X4_179 (rfl) (by decide) (by decide) rfl (rmOk (by decide) (by decide)) ⟨Nat.le_of_ble_eq_true rfl, Nat.le_of_ble_eq_true rfl⟩ (Nat.le_of_ble_eq_true rfl) rfl dX4_gradeShare_46 (fun v G' hq => ?_) (fun _ _ h => h.elim)
      obtain ⟨rfl, hG9⟩ := hq
      rw [hG9]
      refine v_stk (st' := [vI (cntE (G 107 3) (fun k => G 107 (24 + 3 * k + 2)) (c - 65))]) rfl ?_
      refine v_i2f (pc := 49) dX4_gradeShare_49 ?_
      refine v_aload_n (pc := 50) rfl dX4_gradeShare_50 ?_
      refine v_getR (pc := 51) (j := 107) fd_X4_9 (rfl) (by decide) rfl dX4_gradeShare_51 ?_
      refine v_iconst (pc := 54) (z := 3) dX4_gradeShare_54 ?_
      refine v_iald (pc := 55) (N := 144) rfl rfl (by decide) (by omega) (by decide) dX4_gradeShare_55 ?_
      refine v_top (b := G 107 3) (upd2_i (by decide)) ?_
      refine v_i2f (pc := 56) dX4_gradeShare_56 ?_
      refine v_fdiv (pc := 57) ((gsF_ok (s := cntE (G 107 3) (fun k => G 107 (24 + 3 * k + 2)) (c - 65)) (n := G 107 3) (by omega) (by omega)).1) dX4_gradeShare_57 ?_
      refine v_stk (st' := [.float (gsF (cntE (G 107 3) (fun k => G 107 (24 + 3 * k + 2)) (c - 65)) (G 107 3))]) rfl ?_
      exact v_fret (pc := 58) E (⟨_, 0, rfl, rfl, Or.inl ⟨rfl, ⟨by assumption, by omega⟩, rfl⟩⟩) (Nat.le_of_ble_eq_true rfl) (Nat.le_of_ble_eq_true rfl) dX4_gradeShare_58
    · skip
      refine v_aload_n (pc := 36) rfl dX4_gradeShare_36 ?_
      refine v_iconst (pc := 37) (z := 2) dX4_gradeShare_37 ?_
      refine v_callV (pc := 38) (rest := []) (c_X4_throwing) iok_X4_throwing wM_X4_81 (rfl) (by decide) (by decide) rfl (rmOk (by decide) (by decide)) ⟨Nat.le_of_ble_eq_true rfl, Nat.le_of_ble_eq_true rfl⟩ (Nat.le_of_ble_eq_true rfl) rfl dX4_gradeShare_38 (fun v G' hq => ?_) (fun _ _ h => h.elim)
      obtain ⟨rfl, hG9⟩ := hq
      rw [hG9]
      refine v_stk (st' := [vI (-1)]) rfl ?_
      refine v_pop (pc := 41) rfl dX4_gradeShare_41 ?_
      refine v_fconst0 (pc := 42) dX4_gradeShare_42 ?_
      exact v_fret (pc := 43) E (⟨_, 2, rfl, upd2_u G 106 8 0 2, Or.inr (Or.inr ⟨rfl, by assumption, by omega⟩)⟩) (Nat.le_of_ble_eq_true rfl) (Nat.le_of_ble_eq_true rfl) dX4_gradeShare_43
  · skip
    have bq1 := bI_eq0.mp bq1
    refine v_aload_n (pc := 19) rfl dX4_gradeShare_19 ?_
    refine v_iconst (pc := 20) (z := 1) dX4_gradeShare_20 ?_
    refine v_callV (pc := 21) (rest := []) (c_X4_throwing) iok_X4_throwing wM_X4_81 (rfl) (by decide) (by decide) rfl (rmOk (by decide) (by decide)) ⟨Nat.le_of_ble_eq_true rfl, Nat.le_of_ble_eq_true rfl⟩ (Nat.le_of_ble_eq_true rfl) rfl dX4_gradeShare_21 (fun v G' hq => ?_) (fun _ _ h => h.elim)
    obtain ⟨rfl, hG9⟩ := hq
    rw [hG9]
    refine v_stk (st' := [vI (-1)]) rfl ?_
    refine v_pop (pc := 24) rfl dX4_gradeShare_24 ?_
    refine v_fconst0 (pc := 25) dX4_gradeShare_25 ?_
    exact v_fret (pc := 26) E (⟨_, 1, rfl, upd2_u G 106 8 0 1, Or.inr (Or.inl ⟨rfl, by assumption⟩)⟩) (Nat.le_of_ble_eq_true rfl) (Nat.le_of_ble_eq_true rfl) dX4_gradeShare_26
