-- what holds at the law's entry
/-- the builder's class runs a private method of its superclass -/
theorem sel_up {s : State} {args : Array Value} {y : MethodName} (hy : y.cls ≠ "java/lang/invoke/MethodHandle" ∧ y.cls ≠ "java/lang/invoke/VarHandle") (hyc : y.cls = RJ5) (hlat : (Cond.selects RJ4 yJ5_isLatin1_aae02 yJ5_isLatin1_aae02).before args s = true) (hpriv : (Cond.privateMethod y).before args s = true) (hinst : (Cond.instanceMethod y).before args s = true) : (Cond.selects RJ4 y y).before args s = true := by
  obtain ⟨c2, r2, m2, q1, q2, q3, q4, kP, hkP, hkPi⟩ := Cond.selects_spec hlat
  obtain ⟨mk, methM, hnamed, hmethM, -, -⟩ := Cond.instanceMethod_spec hinst
  have hfound : s.methodFound? y.cls y.name y.desc = some mk := State.methodFound?_of_named hnamed hy
  have hc5 : m2.cls = mk.cls := Option.some.inj ((findClass_of_methodNamed q3).symm.trans (by
    have := findClass_of_methodNamed hnamed
    rw [hyc] at this
    exact this))
  have hsel : selectMethod {} s.vm c2 mk = .method mk := selectMethod_private hmethM (Cond.privateMethod_at hpriv mk methM hnamed hmethM)
  rw [hc5] at hkP
  simp only [Cond.before, Cond.holds, Cond.value, q1, hfound, hnamed, hsel, hkP]
  simp; exact hkPi
section START
variable {s : State} {args : Array Value}
theorem st_tbl {w : Cond} (hts : ∀ w ∈ lw_tbl, w.before args s = true) (i : Nat) (h : lw_tbl[i]? = some w) : w.before args s = true := hts w (List.mem_of_getElem? h)
theorem st_WT (hts : ∀ w ∈ lw_tbl, w.before args s = true) : ∀ w ∈ WT, w.before args s = true := by
  intro w hw
  rcases wt_in w hw with h | h
  · have hl := st_tbl (w := Cond.selects RJ4 yJ5_isLatin1_aae02 yJ5_isLatin1_aae02) hts 537 (by decide +kernel)
    rcases List.mem_cons.mp h with rfl | h
    · exact sel_up ⟨by decide, by decide⟩ rfl hl (st_tbl (w := Cond.privateMethod yJ5_newCapacity_0f7a4) hts 506 (by decide +kernel)) (st_tbl (w := Cond.instanceMethod yJ5_newCapacity_0f7a4) hts 507 (by decide +kernel))
    · rw [List.mem_singleton.mp h]
      exact sel_up ⟨by decide, by decide⟩ rfl hl (st_tbl (w := Cond.privateMethod yJ5_ensureCapacityInternal_d00df) hts 502 (by decide +kernel)) (st_tbl (w := Cond.instanceMethod yJ5_ensureCapacityInternal_d00df) hts 503 (by decide +kernel))
  · exact hts w h
theorem st_cls (hW : ∀ w ∈ WT, w.before args s = true) : ∃ (dC : Nat → ClassId) (dI : Nat → Nat → Nat), ∀ (k : Nat) (q : vw_C), cls[k]? = some q → u_Kn s q.1 q.2.1 q.2.2 (dC k) (dI k) := by
  obtain ⟨c0, i0, h0⟩ := u_known (C := RX0) (T := TX0) (N := 6) hW in_X0 (hW _ wB_X0)
  obtain ⟨c1, i1, h1⟩ := u_known (C := RX1) (T := TX1) (N := 7) hW in_X1 (hW _ wB_X1)
  obtain ⟨c2, i2, h2⟩ := u_known (C := RX2) (T := TX2) (N := 16) hW in_X2 (hW _ wB_X2)
  obtain ⟨c3, i3, h3⟩ := u_known (C := RX3) (T := TX3) (N := 11) hW in_X3 (hW _ wB_X3)
  obtain ⟨c4, i4, h4⟩ := u_known (C := RX4) (T := TX4) (N := 23) hW in_X4 (hW _ wB_X4)
  obtain ⟨c5, i5, h5⟩ := u_known (C := RJ4) (T := TJ4) (N := 4) hW in_J4 (hW _ wB_J4)
  refine ⟨fun k => [c0, c1, c2, c3, c4, c5].getD k 0, fun k => [i0, i1, i2, i3, i4, i5].getD k (fun _ => 0), ?_⟩
  intro k q hq
  match k, hq with
  | 0, hq => cases hq; exact h0
  | 1, hq => cases hq; exact h1
  | 2, hq => cases hq; exact h2
  | 3, hq => cases hq; exact h3
  | 4, hq => cases hq; exact h4
  | 5, hq => cases hq; exact h5
  | k + 6, hq => simp [cls] at hq
theorem st_arr {ty : FieldType} (hp : ∀ C, ty ≠ .object C) (h : (Cond.arrayClass ty).before args s = true) : ∃ c, ArrOfT s c ty ∧ va_RA s c ty := by
  obtain ⟨c, k, comp, h1, h2, h3⟩ := Cond.arrayClass_spec h
  refine ⟨c, fun N z => ⟨(fun k h => by cases h), k, h2, comp, h3⟩, ?_⟩
  cases ty <;> first | exact absurd rfl (hp _) | exact h1
theorem st_arrq {C : String} (h : (Cond.arrayOver (.object C)).before args s = true) : ∃ c, ArrOfT s c (.object C) ∧ va_RA s c (.object C) := by
  obtain ⟨comp, c, k, h1, h2, h3, h4, h5⟩ := Cond.arrayOver_spec h
  exact ⟨c, fun N z => ⟨(fun k h => by cases h), k, h3, comp, h4⟩, k, comp, h3, h4, h1, h5⟩
theorem st_arrt {ty : FieldType} (h : (Cond.arrayOver (.array ty)).before args s = true) : ∃ c, ArrOfT s c (.array ty) ∧ va_RA s c (.array ty) := by
  obtain ⟨comp, c, k, h1, h3, h4, h5⟩ := over_t h
  exact ⟨c, fun N z => ⟨(fun k h => by cases h), k, h3, comp, h4⟩, h5⟩
def tyS : List FieldType := [.int, .long, .char, .double, .object RX2, .array .int, .byte]
theorem st_tys (hts : ∀ w ∈ lw_tbl, w.before args s = true) : ∃ gc : Nat → ClassId, ∀ (k : Nat) (ty : FieldType), tyS[k]? = some ty → ArrOfT s (gc k) ty ∧ va_RA s (gc k) ty := by
  obtain ⟨c0, h0⟩ := st_arr (ty := .int) (fun C h => by cases h) (st_tbl hts 207 (by decide +kernel))
  obtain ⟨c1, h1⟩ := st_arr (ty := .long) (fun C h => by cases h) (st_tbl hts 237 (by decide +kernel))
  obtain ⟨c2, h2⟩ := st_arr (ty := .char) (fun C h => by cases h) (st_tbl hts 272 (by decide +kernel))
  obtain ⟨c3, h3⟩ := st_arr (ty := .double) (fun C h => by cases h) (st_tbl hts 1852 (by decide +kernel))
  obtain ⟨c4, h4⟩ := st_arrq (C := RX2) (st_tbl hts 208 (by decide +kernel))
  obtain ⟨c5, h5⟩ := st_arrt (ty := .int) (st_tbl hts 216 (by decide +kernel))
  obtain ⟨c6, h6⟩ := st_arr (ty := .byte) (fun C h => by cases h) (st_tbl hts 305 (by decide +kernel))
  refine ⟨fun k => [c0, c1, c2, c3, c4, c5, c6].getD k 0, ?_⟩
  intro k q hq
  match k, hq with
  | 0, hq => cases hq; exact h0
  | 1, hq => cases hq; exact h1
  | 2, hq => cases hq; exact h2
  | 3, hq => cases hq; exact h3
  | 4, hq => cases hq; exact h4
  | 5, hq => cases hq; exact h5
  | 6, hq => cases hq; exact h6
  | k + 7, hq => simp [tyS] at hq
theorem st_K {g : GT} (h1 : ∀ (k : Nat) (q : vw_C), cls[k]? = some q → u_Kn s q.1 q.2.1 q.2.2 ((gD g).1 k) ((gD g).2 k)) (h2 : ∀ (k : Nat) (ty : FieldType), tyS[k]? = some ty → ArrOfT s (gC g k) ty ∧ va_RA s (gC g k) ty) : va_K (gD g) cls (tyL g) s := by
  refine ⟨h1, fun k q hq => ?_⟩
  match k, hq with
  | 0, hq => cases hq; exact h2 0 _ rfl
  | 1, hq => cases hq; exact h2 1 _ rfl
  | 2, hq => cases hq; exact h2 2 _ rfl
  | 3, hq => cases hq; exact h2 3 _ rfl
  | 4, hq => cases hq; exact h2 4 _ rfl
  | 5, hq => cases hq; exact h2 5 _ rfl
  | 6, hq => cases hq; exact h2 6 _ rfl
  | k + 7, hq => simp [tyL] at hq
/-- the statement's premises, one by one -/
def nwF : List Cond := flatC narrow_1
theorem st_nw (hgv : (Jvm.Cond.and given_1 narrow_1).before args s = true) : ∀ w ∈ nwF, w.before args s = true := by
  intro w hw
  refine flat_of_before _ hgv w ?_
  show w ∈ flatC given_1 ++ flatC narrow_1
  exact List.mem_append.mpr (Or.inr hw)
theorem at_mem {α : Type} {L : List Cond} {xs : List α} {ps : List Nat} {f : α → Cond} (h : xs.map (fun q => some (f q)) = ps.map (fun i => L[i]?)) : ∀ q ∈ xs, f q ∈ L := fun q hq => by
  have h1 : some (f q) ∈ ps.map (fun i => L[i]?) := by rw [← h]; exact List.mem_map.mpr ⟨q, hq, rfl⟩
  obtain ⟨i, -, hi⟩ := List.mem_map.mp h1
  exact List.mem_of_getElem? hi
theorem sl_mem {L : List Cond} {a n : Nat} {f : Nat → Cond} (h : (L.drop a).take n = (List.range n).map f) : ∀ j, j < n → f j ∈ L := fun j hj => List.mem_of_mem_drop (List.mem_of_mem_take (by rw [h]; exact List.mem_map.mpr ⟨j, List.mem_range.mpr hj, rfl⟩))
theorem st_XSt0 : XS.map (fun q => some (Cond.stringRef q.1 q.2.1 q.2.2)) = ([929, 934, 945, 961, 977, 1128, 1141, 1154, 1165, 1180, 1191, 1239, 1248, 1263, 1281, 1282, 1365, 1366, 1374, 1382, 1390, 1398] : List Nat).map (fun i => lw_tbl[i]?) := by decide +kernel
theorem st_XSn0 : XS.map (fun q => some (Cond.exactly (Term.string q.1 q.2.1) "java/lang/String")) = ([400, 415, 450, 495, 522, 546, 569, 585, 610, 627, 661, 690, 711, 733, 769, 802, 898, 944, 977, 1016, 1051, 1079] : List Nat).map (fun i => nwF[i]?) := by decide +kernel
theorem st_XSt : ∀ q ∈ XS, Cond.stringRef q.1 q.2.1 q.2.2 ∈ lw_tbl := at_mem st_XSt0
theorem st_XSn : ∀ q ∈ XS, Cond.exactly (Term.string q.1 q.2.1) "java/lang/String" ∈ nwF := at_mem st_XSn0
theorem st_XS (hts : ∀ w ∈ lw_tbl, w.before args s = true) (hn : ∀ w ∈ nwF, w.before args s = true) : ∀ q ∈ XS, ∃ a, vk_R q.1 q.2.1 q.2.2 a s := by
  intro q hq
  obtain ⟨a, c, cA, kA, q1, -⟩ := Cond.exactly_spec (args := args) (first := s) (o := none) (s := s) (idx := []) (hn _ (st_XSn q hq))
  exact ⟨a, vk_R.of (hts _ (st_XSt q hq)) q1⟩
/-- the words of the commands -/
def vsT (i : Nat) : Term := Term.string RX1 ((VS.getD i (0, "")).1)
def vsQ (i : Nat) : List Cond := [Cond.exactly (vsT i) "java/lang/String", Cond.eq (.field (vsT i) "java/lang/String" "coder" "B") (.int 0), Cond.arrayOf (.field (vsT i) "java/lang/String" "value" "[B") .byte, Cond.eq (.length (.field (vsT i) "java/lang/String" "value" "[B")) (.int (Int32.ofNat (VL.getD i 0)))]
def vsE (i j : Nat) : Cond := Cond.eq (.elem (.field (vsT i) "java/lang/String" "value" "[B") (.int (Int32.ofNat j))) (.int ((VB.getD i []).getD j 0))
theorem st_VSt0 : (List.range 7).map (fun i => some (Cond.stringRef RX1 (VS.getD i (0, "")).1 (VS.getD i (0, "")).2)) = ([1309, 1310, 1311, 1312, 1313, 1314, 1315] : List Nat).map (fun i => lw_tbl[i]?) := by decide +kernel
theorem st_VSt : ∀ i, i < 7 → Cond.stringRef RX1 (VS.getD i (0, "")).1 (VS.getD i (0, "")).2 ∈ lw_tbl := fun i hi => at_mem (f := fun i => Cond.stringRef RX1 (VS.getD i (0, "")).1 (VS.getD i (0, "")).2) st_VSt0 i (List.mem_range.mpr hi)
theorem st_vq0 : (vsQ 0).map (fun q => some (id q)) = ([831, 832, 833, 834] : List Nat).map (fun i => nwF[i]?) := by decide +kernel
theorem st_ve0 : (nwF.drop 835).take 4 = (List.range 4).map (vsE 0) := by decide +kernel
theorem st_vq1 : (vsQ 1).map (fun q => some (id q)) = ([839, 840, 841, 842] : List Nat).map (fun i => nwF[i]?) := by decide +kernel
theorem st_ve1 : (nwF.drop 843).take 8 = (List.range 8).map (vsE 1) := by decide +kernel
theorem st_vq2 : (vsQ 2).map (fun q => some (id q)) = ([851, 852, 853, 854] : List Nat).map (fun i => nwF[i]?) := by decide +kernel
theorem st_ve2 : (nwF.drop 855).take 5 = (List.range 5).map (vsE 2) := by decide +kernel
theorem st_vq3 : (vsQ 3).map (fun q => some (id q)) = ([860, 861, 862, 863] : List Nat).map (fun i => nwF[i]?) := by decide +kernel
theorem st_ve3 : (nwF.drop 864).take 7 = (List.range 7).map (vsE 3) := by decide +kernel
theorem st_vq4 : (vsQ 4).map (fun q => some (id q)) = ([871, 872, 873, 874] : List Nat).map (fun i => nwF[i]?) := by decide +kernel
theorem st_ve4 : (nwF.drop 875).take 4 = (List.range 4).map (vsE 4) := by decide +kernel
theorem st_vq5 : (vsQ 5).map (fun q => some (id q)) = ([879, 880, 881, 882] : List Nat).map (fun i => nwF[i]?) := by decide +kernel
theorem st_ve5 : (nwF.drop 883).take 7 = (List.range 7).map (vsE 5) := by decide +kernel
theorem st_vq6 : (vsQ 6).map (fun q => some (id q)) = ([890, 891, 892, 893] : List Nat).map (fun i => nwF[i]?) := by decide +kernel
theorem st_ve6 : (nwF.drop 894).take 4 = (List.range 4).map (vsE 6) := by decide +kernel
theorem st_VSq : ∀ i, i < 7 → (∀ w ∈ vsQ i, w ∈ nwF) ∧ ∀ j, j < VL.getD i 0 → vsE i j ∈ nwF := by
  intro i hi
  match i, hi with
  | 0, _ => exact ⟨at_mem (f := id) st_vq0, sl_mem (n := 4) st_ve0⟩
  | 1, _ => exact ⟨at_mem (f := id) st_vq1, sl_mem (n := 8) st_ve1⟩
  | 2, _ => exact ⟨at_mem (f := id) st_vq2, sl_mem (n := 5) st_ve2⟩
  | 3, _ => exact ⟨at_mem (f := id) st_vq3, sl_mem (n := 7) st_ve3⟩
  | 4, _ => exact ⟨at_mem (f := id) st_vq4, sl_mem (n := 4) st_ve4⟩
  | 5, _ => exact ⟨at_mem (f := id) st_vq5, sl_mem (n := 7) st_ve5⟩
  | 6, _ => exact ⟨at_mem (f := id) st_vq6, sl_mem (n := 4) st_ve6⟩
  | i + 7, hi => exact absurd hi (by omega)
theorem st_VSn (i : Nat) (hi : i < 7) : Cond.exactly (vsT i) "java/lang/String" ∈ nwF ∧ Cond.eq (.field (vsT i) "java/lang/String" "coder" "B") (.int 0) ∈ nwF ∧ Cond.arrayOf (.field (vsT i) "java/lang/String" "value" "[B") .byte ∈ nwF ∧ Cond.eq (.length (.field (vsT i) "java/lang/String" "value" "[B")) (.int (Int32.ofNat (VL.getD i 0))) ∈ nwF ∧
    ∀ j, j < VL.getD i 0 → Cond.eq (.elem (.field (vsT i) "java/lang/String" "value" "[B") (.int (Int32.ofNat j))) (.int ((VB.getD i []).getD j 0)) ∈ nwF := by
  obtain ⟨h1, h2⟩ := st_VSq i hi
  exact ⟨h1 _ (List.mem_of_getElem? (i := 0) rfl), h1 _ (List.mem_of_getElem? (i := 1) rfl), h1 _ (List.mem_of_getElem? (i := 2) rfl), h1 _ (List.mem_of_getElem? (i := 3) rfl), h2⟩
theorem st_VSd : ∀ i, i < 7 → ∀ j, j < 7 → i ≠ j → ∃ k, k < 4 ∧ (VB.getD i []).getD k 0 ≠ (VB.getD j []).getD k 0 := by decide +kernel
theorem st_VL : ∀ i, i < 7 → 4 ≤ VL.getD i 0 ∧ VL.getD i 0 < 2 ^ 31 := by decide +kernel
theorem st_VS {A : Nat → Prop} (hts : ∀ w ∈ lw_tbl, w.before args s = true) (hn : ∀ w ∈ nwF, w.before args s = true) (hA : ∀ a : Nat, a < s.heap.size → ¬ A a) : ∃ gk gv : Nat → Nat, (∀ i, i < 7 → ∀ q, VS[i]? = some q → vk_R RX1 q.1 q.2 (gk i) s) ∧ vk_S 7 VL VB gk gv A s s.heap := by
  have h0 : ∀ i : Nat, ∃ q : Nat × Nat, i < 7 → (vsT i).eval args s none [] s = some (.ref q.1) ∧ va_O "java/lang/String" q.1 A s s.heap ∧ va_OF "java/lang/String" "coder" "B" (.int 0) q.1 A s s.heap ∧ va_OF "java/lang/String" "value" "[B" (.ref q.2) q.1 A s s.heap ∧ va_T .byte q.2 (VL.getD i 0) (fun j => .int ((VB.getD i []).getD j 0)) A s s.heap := by
    intro i
    by_cases hi : i < 7
    · obtain ⟨n1, n2, n3, n4, n5⟩ := st_VSn i hi
      obtain ⟨a, c, cA, kA, q1, q2, q3, q4, q5, q6, -⟩ := Cond.exactly_spec (args := args) (first := s) (o := none) (s := s) (idx := []) (t := vsT i) (cls := "java/lang/String") (hn _ n1)
      obtain ⟨t, ht, hT⟩ := va_Tof (f := fun j => .int ((VB.getD i []).getD j 0)) (A := A) (st_VL i hi).2 (hn _ n3) (va_eqt (hn _ n4)) (fun j hj => va_eqt (hn _ (n5 j hj))) hA
      exact ⟨(a, t), fun _ => ⟨q1, ⟨cA, q3, q5, by rw [q6]; exact q2, hA a (Array.getElem?_eq_some_iff.mp q3).1⟩, vk_OFof q1 (va_eqt (hn _ n2)) hA, vk_OFof q1 ht hA, hT⟩⟩
    · exact ⟨(0, 0), fun h => absurd h hi⟩
  obtain ⟨ad, had⟩ := Classical.axiomOfChoice h0
  refine ⟨fun i => (ad i).1, fun i => (ad i).2, fun i hi q hq => ?_, fun i hi => (had i hi).2, fun i j hi hj e => ?_⟩
  · have e : VS.getD i (0, "") = q := by rw [List.getD_eq_getElem?_getD, hq]; rfl
    have h1 := hts _ (st_VSt i hi)
    have h2 := (had i hi).1
    unfold vsT at h2
    rw [e] at h1 h2
    exact vk_R.of h1 h2
  · by_cases hij : i = j
    · exact hij
    · exfalso
      obtain ⟨k, hk, hne⟩ := st_VSd i hi j hj hij
      obtain ⟨-, -, -, f1, t1⟩ := had i hi
      obtain ⟨-, -, -, f2, t2⟩ := had j hj
      have e' : (ad i).1 = (ad j).1 := e
      have ev : (ad i).2 = (ad j).2 := by
        obtain ⟨a1, a2, a3, a4, a5, a6, a7, a8, a9, b1, -⟩ := f1
        obtain ⟨c1, c2, c3, c4, c5, c6, c7, c8, c9, d1, -⟩ := f2
        rw [e'] at a8
        rw [a6] at c6
        cases c6
        rw [a8] at c8
        cases c8
        rw [b1] at d1
        exact Value.ref.inj (Option.some.inj d1)
      obtain ⟨x1, y1, -, -, -, -, z1, -⟩ := t1
      obtain ⟨x2, y2, -, -, -, -, z2, -⟩ := t2
      rw [ev] at y1
      rw [y1] at y2
      cases y2
      have w1 := z1 k (Nat.lt_of_lt_of_le hk (st_VL i hi).1)
      have w2 := z2 k (Nat.lt_of_lt_of_le hk (st_VL j hj).1)
      rw [w1] at w2
      exact hne (Value.int.inj (Option.some.inj w2))
def dgE (n : String) (f : Nat → Nat) (j : Nat) : Cond := Cond.eq (.elem (.static RJ6 n "[B") (.int (Int32.ofNat j))) (.int (Int32.ofNat (48 + f j)))
theorem st_dgo0 : (nwF.drop 10).take 100 = (List.range 100).map (dgE "DigitOnes" (fun j => j % 10)) := by decide +kernel
theorem st_dgt0 : (nwF.drop 113).take 100 = (List.range 100).map (dgE "DigitTens" (fun j => j / 10)) := by decide +kernel
theorem st_dgt : ∀ j, j < 100 → Cond.eq (.elem (.static RJ6 "DigitTens" "[B") (.int (Int32.ofNat j))) (.int (Int32.ofNat (48 + j / 10))) ∈ nwF := sl_mem st_dgt0
theorem st_dgo : ∀ j, j < 100 → Cond.eq (.elem (.static RJ6 "DigitOnes" "[B") (.int (Int32.ofNat j))) (.int (Int32.ofNat (48 + j % 10))) ∈ nwF := sl_mem st_dgo0
theorem st_NC0 : NC.map (fun p => some (Cond.not (.castable p.1 p.2))) = ([236, 250, 263, 276, 290, 222, 251, 264, 277, 291, 223, 237, 265, 278, 292, 221, 235, 249, 275, 289, 224, 238, 252, 266, 293, 226, 240, 254, 267, 280] : List Nat).map (fun i => nwF[i]?) := by decide +kernel
theorem st_NC : ∀ p ∈ NC, Cond.not (.castable p.1 p.2) ∈ nwF := at_mem (f := fun p : String × String => Cond.not (.castable p.1 p.2)) st_NC0
def nwM : List Cond := [Cond.eq (.static RJ0 "COMPACT_STRINGS" "Z") (.int 1), Cond.isRef (.static RJ3 "SIOOBE_FORMATTER" "Ljava/util/function/BiFunction;"), Cond.isRef (.static Bundle.tN "UNASSIGNED_STACK" Bundle.steD), Cond.isRef (.static Bundle.tN "SUPPRESSED_SENTINEL" Bundle.listD),
    Cond.arrayOf (.static RJ6 "DigitTens" "[B") .byte, Cond.eq (.length (.static RJ6 "DigitTens" "[B")) (.int (Int32.ofNat 100)), Cond.arrayOf (.static RJ6 "DigitOnes" "[B") .byte, Cond.eq (.length (.static RJ6 "DigitOnes" "[B")) (.int (Int32.ofNat 100))]
theorem st_nwm0 : nwM.map (fun q => some (id q)) = ([2, 3, 213, 214, 111, 112, 8, 9] : List Nat).map (fun i => nwF[i]?) := by decide +kernel
theorem st_nwm : ∀ w ∈ nwM, w ∈ nwF := at_mem (f := id) st_nwm0
theorem st_Stt {g : GT} (hts : ∀ w ∈ lw_tbl, w.before args s = true) (hn : ∀ w ∈ nwF, w.before args s = true) (hA : ∀ a : Nat, a < s.heap.size → ¬ AL g a) (hV : vk_S 7 VL VB (gK g) (gV g) (AL g) s s.heap) : Stt g s s.heap := by
  have n1 := st_nwm _ (List.mem_of_getElem? (l := nwM) (i := 0) rfl)
  have n2 := st_nwm _ (List.mem_of_getElem? (l := nwM) (i := 1) rfl)
  have n3 := st_nwm _ (List.mem_of_getElem? (l := nwM) (i := 2) rfl)
  have n4 := st_nwm _ (List.mem_of_getElem? (l := nwM) (i := 3) rfl)
  have n5 := st_nwm _ (List.mem_of_getElem? (l := nwM) (i := 4) rfl)
  have n6 := st_nwm _ (List.mem_of_getElem? (l := nwM) (i := 5) rfl)
  have n7 := st_nwm _ (List.mem_of_getElem? (l := nwM) (i := 6) rfl)
  have n8 := st_nwm _ (List.mem_of_getElem? (l := nwM) (i := 7) rfl)
  have n208 : (Cond.arrayOver (.object RX2)).before args s = true := st_tbl hts 208 (by decide +kernel)
  have n216 : (Cond.arrayOver (.array .int)).before args s = true := st_tbl hts 216 (by decide +kernel)
  have hW := st_WT hts
  obtain ⟨t1, e1, T1⟩ := va_Tof (f := fun j => .int (Int32.ofNat (48 + j / 10))) (A := AL g) (N := 100) (by decide) (hn _ n5) (va_eqt (hn _ n6)) (fun j hj => va_eqt (hn _ (st_dgt j hj))) hA
  obtain ⟨t2, e2, T2⟩ := va_Tof (f := fun j => .int (Int32.ofNat (48 + j % 10))) (A := AL g) (N := 100) (by decide) (hn _ n7) (va_eqt (hn _ n8)) (fun j hj => va_eqt (hn _ (st_dgo j hj))) hA
  exact ⟨vx_Zqof (st_tbl hts 696 (by decide +kernel)) (hW _ wN_java_lang_Throwable) (hn _ n3) hA, vx_Zqof (st_tbl hts 698 (by decide +kernel)) (hW _ wN_java_lang_Throwable) (hn _ n4) hA, hV,
    va_Zof (st_tbl hts 283 (by decide +kernel)) (hW _ wN_J0) (va_eqt (hn _ n1)) hA,
    ⟨t1, va_Zref (st_tbl hts 624 (by decide +kernel)) (hW _ wN_J6) e1 hA, T1⟩, ⟨t2, va_Zref (st_tbl hts 622 (by decide +kernel)) (hW _ wN_J6) e2 hA, T2⟩,
    va_Zqof (st_tbl hts 552 (by decide +kernel)) (hW _ wN_J3) (hn _ n2) hA,
    fun p hp => va_Nc.of (hn _ (st_NC p hp)), n208, n216⟩
/-- all of it, wherever the places will lie -/
theorem st_Gc {l : Launch} (hf : l.flags = flags0) (hts : ∀ w ∈ lw_tbl, w.before args s = true) (hgv : (Jvm.Cond.and given_1 narrow_1).before args s = true) : ∃ (D : va_G) (gc : Nat → ClassId) (gk gv : Nat → Nat), ∀ ga : Nat → Nat, Gc (D, ga, gc, s.heap.size, l, gk, gv) s s.heap := by
  have hW := st_WT hts
  have hn := st_nw hgv
  obtain ⟨dC, dI, h1⟩ := st_cls hW
  obtain ⟨gc, h2⟩ := st_tys hts
  obtain ⟨gk, gv, h3, h4⟩ := st_VS (A := fun a => s.heap.size ≤ a) hts hn (fun a h q => Nat.not_le.mpr h q)
  refine ⟨(dC, dI), gc, gk, gv, fun ga => ⟨st_K h1 h2, fun w hw => va_Nw.of (nt_tab hw) (hts w (nt_in w hw)), st_XS hts hn, h3, st_Stt hts hn (fun a h q => Nat.not_le.mpr h q) h4, Nat.le_refl _, ?_⟩⟩
  show l.stackTraces = false
  unfold Launch.stackTraces
  rw [hf]
  decide
end START
