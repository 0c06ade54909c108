-- the builder of the output text: a world of its own
/-- its row's cell, how long it is, the field maybeLatin1, how many signs, its bytes, a further cell -/
abbrev Bw : Type := Nat × Nat × Int32 × Int × (Nat → Int32) × va_W
def bwl (g : GT) (B : Bw) : va_W := [(gA g 121, .inr (5, [.ref B.1, .int 0, .int B.2.2.1, vI B.2.2.2.1])), (B.1, .inl (gC g 6, B.2.1, .inl B.2.2.2.2.1))] ++ B.2.2.2.2.2
def WB (g : GT) (A : Nat → Prop) (B : Bw) (H : Heap) : Prop := va_P (gD g) cls (bwl g B) H ∧ va_D A (bwl g B)
/-- what holds of a walk in the builder's world -/
def CU (γ : gT) (g : GT) (A : Nat → Prop) (cc : ByteArray) (nL : Nat) (own : String) (rm : Room) : Prop := match γ with
  | (p, l, _, R, s, m, args, _, meth, c, _) => p.tables.exec = Jvm.exec ∧ c.code = cc ∧ c.maxLocals = nL ∧ s.vm.findClass own = some m.cls ∧ (∀ w ∈ WT, w.before args s = true) ∧ R = rm ∧ Gc g s s.heap ∧ meth.locks = false ∧ l = gl g ∧ (∀ a : Nat, s.heap.size ≤ a → A a) ∧ ∀ a : Nat, A a → AL g a
def UV (γ : gT) (g : GT) (A : Nat → Prop) (cc : ByteArray) (nL : Nat) (own : String) (rm : Room) (B : Bw) (k n : Nat) (pc : Nat) (L : List (Option Value)) (st : List Value) : Prop :=
  CU γ g A cc nL own rm → ∀ (H : Heap) (locs : List Loc) (ls : Array Slot), WB g A B H → va_S A (gS γ).heap H locs → Lh ls nL L → WV γ H locs k n pc ls st
section UVL
variable {γ : gT} {g : GT} {A : Nat → Prop} {cc : ByteArray} {nL idx : Nat} {own : String} {rm : Room} {B : Bw} {k n : Nat} {pc : Nat} {L : List (Option Value)} {st : List Value}
theorem u_row {pc' : Nat} {st' : List Value} (h : ∀ (p : Program) (l : Launch) (e : Env) (R : Room) (s : State) (m : MethodId) (args : Array Value) (below : List Frame) (meth : Method) (c : Code) (Q : State → Prop) (H : Heap) (locs : List Loc) (ls : Array Slot), CU (p, l, e, R, s, m, args, below, meth, c, Q) g A cc nL own rm → Lh ls nL L → W p l e R s m args below meth c H locs k n Q (F0 m pc' ls st') → W p l e R s m args below meth c H locs k n Q (F0 m pc ls st)) (kk : UV γ g A cc nL own rm B k n pc' L st') : UV γ g A cc nL own rm B k n pc L st := by
  obtain ⟨p, l, e, R, s, m, args, below, meth, c, Q⟩ := γ
  exact fun C H locs ls hP hS hL => h p l e R s m args below meth c Q H locs ls C hL (kk C H locs ls hP hS hL)
theorem u_stk {st' : List Value} (e : st = st') (kk : UV γ g A cc nL own rm B k n pc L st') : UV γ g A cc nL own rm B k n pc L st := by rw [e]; exact kk
theorem u_top {a b : Int} (e : a = b) (kk : UV γ g A cc nL own rm B k n pc L (vI b :: st)) : UV γ g A cc nL own rm B k n pc L (vI a :: st) := by rw [e]; exact kk
theorem u_loc {L' : List (Option Value)} (h : Lsub L' L) (kk : UV γ g A cc nL own rm B k n pc L' st) : UV γ g A cc nL own rm B k n pc L st :=
  fun C H locs ls hP hS hL => kk C H locs ls hP hS ⟨hL.1, hL.2.1, fun i v hi => hL.2.2 i v (Lsub_at h i v hi)⟩
theorem u_wid {k' n' : Nat} (h1 : k ≤ k') (h2 : n ≤ n') (kk : UV γ g A cc nL own rm B k' n' pc L st) : UV γ g A cc nL own rm B k n pc L st := by
  obtain ⟨p, l, e, R, s, m, args, below, meth, c, Q⟩ := γ
  exact fun C H locs ls hP hS hL => W.widen h1 h2 (kk C H locs ls hP hS hL)

theorem u_iconst {z : Int} (d : decode cc pc = .ok (.iconst z, 1)) (kk : UV γ g A cc nL own rm B k n (pc + 1) L (vI z :: st)) : UV γ g A cc nL own rm B k n pc L (st) :=
  u_row (fun p l e R s m args below meth c Q H locs ls C hL q => lv_iconst C.1 C.2.1 d rfl q) kk
theorem u_bipush {z : Int} (h : (Int8.ofInt z).toInt32 = Int32.ofInt z) (d : decode cc pc = .ok (.bipush z, 2)) (kk : UV γ g A cc nL own rm B k n (pc + 2) L (vI z :: st)) : UV γ g A cc nL own rm B k n pc L (st) :=
  u_row (fun p l e R s m args below meth c Q H locs ls C hL q => lv_bipush C.1 C.2.1 d h q) kk
theorem u_sipush {z : Int} (h : (Int16.ofInt z).toInt32 = Int32.ofInt z) (d : decode cc pc = .ok (.sipush z, 3)) (kk : UV γ g A cc nL own rm B k n (pc + 3) L (vI z :: st)) : UV γ g A cc nL own rm B k n pc L (st) :=
  u_row (fun p l e R s m args below meth c Q H locs ls C hL q => lv_sipush C.1 C.2.1 d h q) kk
theorem u_iload_n {i : Fin 4} {z : Int} (h : L[(i : Nat)]? = some (some (vI z))) (d : decode cc pc = .ok (.iload_n i, 1)) (kk : UV γ g A cc nL own rm B k n (pc + 1) L (vI z :: st)) : UV γ g A cc nL own rm B k n pc L st :=
  u_row (fun p l e R s m args below meth c Q H locs ls C hL q => lv_iload_n C.1 C.2.1 d rfl (hL.2.2 _ _ h) q) kk
theorem u_iload {i : Nat} {z : Int} (h : L[i]? = some (some (vI z))) (d : decode cc pc = .ok (.iload i, 2)) (kk : UV γ g A cc nL own rm B k n (pc + 2) L (vI z :: st)) : UV γ g A cc nL own rm B k n pc L st :=
  u_row (fun p l e R s m args below meth c Q H locs ls C hL q => lv_iload C.1 C.2.1 d (hL.2.2 _ _ h) q) kk
theorem u_aload_n {i : Fin 4} {a : Nat} (h : L[(i : Nat)]? = some (some (.ref a))) (d : decode cc pc = .ok (.aload_n i, 1)) (kk : UV γ g A cc nL own rm B k n (pc + 1) L (.ref a :: st)) : UV γ g A cc nL own rm B k n pc L st :=
  u_row (fun p l e R s m args below meth c Q H locs ls C hL q => lv_aload_n C.1 C.2.1 d rfl (hL.2.2 _ _ h) q) kk
theorem u_aload {i : Nat} {a : Nat} (h : L[i]? = some (some (.ref a))) (d : decode cc pc = .ok (.aload i, 2)) (kk : UV γ g A cc nL own rm B k n (pc + 2) L (.ref a :: st)) : UV γ g A cc nL own rm B k n pc L st :=
  u_row (fun p l e R s m args below meth c Q H locs ls C hL q => lv_aload C.1 C.2.1 d (hL.2.2 _ _ h) q) kk
theorem u_istore_n {i : Fin 4} {z : Int} (hn : (i : Nat) < nL) (ho : okst L (i : Nat) = true) (d : decode cc pc = .ok (.istore_n i, 1)) (kk : UV γ g A cc nL own rm B k n (pc + 1) (L.set (i : Nat) (some (vI z))) st) : UV γ g A cc nL own rm B k n pc L (vI z :: st) := by
  obtain ⟨p, l, e, R, s, m, args, below, meth, c, Q⟩ := γ
  exact fun C H locs ls hP hS hL => lv_istore_n C.1 C.2.1 d rfl (Lh_has hL) hn rfl (fun ls2 h2 => kk C H locs ls2 hP hS (Lh_st ho h2))
theorem u_astore_n {i : Fin 4} {a : Nat} (hn : (i : Nat) < nL) (ho : okst L (i : Nat) = true) (d : decode cc pc = .ok (.astore_n i, 1)) (kk : UV γ g A cc nL own rm B k n (pc + 1) (L.set (i : Nat) (some (.ref a))) st) : UV γ g A cc nL own rm B k n pc L (.ref a :: st) := by
  obtain ⟨p, l, e, R, s, m, args, below, meth, c, Q⟩ := γ
  exact fun C H locs ls hP hS hL => lv_astore_n C.1 C.2.1 d rfl (Lh_has hL) hn rfl (fun ls2 h2 => kk C H locs ls2 hP hS (Lh_st ho h2))
theorem u_istore {i : Nat} {z : Int} (hn : i < nL) (ho : okst L i = true) (d : decode cc pc = .ok (.istore i, 2)) (kk : UV γ g A cc nL own rm B k n (pc + 2) (L.set i (some (vI z))) st) : UV γ g A cc nL own rm B k n pc L (vI z :: st) := by
  obtain ⟨p, l, e, R, s, m, args, below, meth, c, Q⟩ := γ
  exact fun C H locs ls hP hS hL => lv_istore C.1 C.2.1 d (Lh_has hL) hn rfl (fun ls2 h2 => kk C H locs ls2 hP hS (Lh_st ho h2))
theorem u_astore {i : Nat} {a : Nat} (hn : i < nL) (ho : okst L i = true) (d : decode cc pc = .ok (.astore i, 2)) (kk : UV γ g A cc nL own rm B k n (pc + 2) (L.set i (some (.ref a))) st) : UV γ g A cc nL own rm B k n pc L (.ref a :: st) := by
  obtain ⟨p, l, e, R, s, m, args, below, meth, c, Q⟩ := γ
  exact fun C H locs ls hP hS hL => lv_astore C.1 C.2.1 d (Lh_has hL) hn rfl (fun ls2 h2 => kk C H locs ls2 hP hS (Lh_st ho h2))
theorem u_iinc {i : Nat} {y z : Int} (h : L[i]? = some (some (vI z))) (hn : i < nL) (ho : okst L i = true) (d : decode cc pc = .ok (.iinc i y, 3)) (kk : UV γ g A cc nL own rm B k n (pc + 3) (L.set i (some (vI (z + y)))) st) : UV γ g A cc nL own rm B k n pc L st := by
  obtain ⟨p, l, e, R, s, m, args, below, meth, c, Q⟩ := γ
  intro C H locs ls hP hS hL
  obtain ⟨j, hj⟩ := List.getElem?_of_mem ((lvA_mem (q := (i, vI z))).mpr h)
  exact lv_iinc (k := j) C.1 C.2.1 d (Lh_has hL) hj (i32_add z y) hn rfl (fun ls2 h2 => kk C H locs ls2 hP hS (Lh_st ho h2))
theorem u_dup {v : Value} (h : v.category = 1) (d : decode cc pc = .ok (.dup, 1)) (kk : UV γ g A cc nL own rm B k n (pc + 1) L (v :: v :: st)) : UV γ g A cc nL own rm B k n pc L (v :: st) :=
  u_row (fun p l e R s m args below meth c Q H locs ls C hL q => lv_dup C.1 C.2.1 d h q) kk
theorem u_dup_x1 {v u : Value} (h : v.category = 1) (h2 : u.category = 1) (d : decode cc pc = .ok (.dup_x1, 1)) (kk : UV γ g A cc nL own rm B k n (pc + 1) L (v :: u :: v :: st)) : UV γ g A cc nL own rm B k n pc L (v :: u :: st) :=
  u_row (fun p l e R s m args below meth c Q H locs ls C hL q => lv_dup_x1 C.1 C.2.1 d h h2 q) kk
theorem u_pop {v : Value} (h : v.category = 1) (d : decode cc pc = .ok (.pop, 1)) (kk : UV γ g A cc nL own rm B k n (pc + 1) L (st)) : UV γ g A cc nL own rm B k n pc L (v :: st) :=
  u_row (fun p l e R s m args below meth c Q H locs ls C hL q => lv_pop C.1 C.2.1 d h q) kk
theorem u_iadd {a b : Int} (d : decode cc pc = .ok (.iadd, 1)) (kk : UV γ g A cc nL own rm B k n (pc + 1) L (vI (a + b) :: st)) : UV γ g A cc nL own rm B k n pc L (vI b :: vI a :: st) :=
  u_row (fun p l e R s m args below meth c Q H locs ls C hL q => lv_iadd C.1 C.2.1 d (by rw [i32_add]; exact q)) kk
theorem u_isub {a b : Int} (d : decode cc pc = .ok (.isub, 1)) (kk : UV γ g A cc nL own rm B k n (pc + 1) L (vI (a - b) :: st)) : UV γ g A cc nL own rm B k n pc L (vI b :: vI a :: st) :=
  u_row (fun p l e R s m args below meth c Q H locs ls C hL q => lv_isub C.1 C.2.1 d (by rw [i32_sub]; exact q)) kk
theorem u_imul {a b : Int} (d : decode cc pc = .ok (.imul, 1)) (kk : UV γ g A cc nL own rm B k n (pc + 1) L (vI (a * b) :: st)) : UV γ g A cc nL own rm B k n pc L (vI b :: vI a :: st) :=
  u_row (fun p l e R s m args below meth c Q H locs ls C hL q => lv_imul C.1 C.2.1 d (by rw [i32_mul]; exact q)) kk
theorem u_i2c {a : Int} (d : decode cc pc = .ok (.i2c, 1)) (kk : UV γ g A cc nL own rm B k n (pc + 1) L (vI (a % 65536) :: st)) : UV γ g A cc nL own rm B k n pc L (vI a :: st) :=
  u_row (fun p l e R s m args below meth c Q H locs ls C hL q => lv_i2c C.1 C.2.1 d (i32_c a) q) kk
theorem u_if_eq {a : Int} {off : Int} {tgt : Nat} (h : -2147483648 ≤ a ∧ a < 2147483648) (d : decode cc pc = .ok (.ifCond .eq off, 3)) (ht : (pc : Int) + off = (tgt : Int)) (kt : a = 0 → UV γ g A cc nL own rm B k n tgt L st) (kf : a ≠ 0 → UV γ g A cc nL own rm B k n (pc + 3) L st) : UV γ g A cc nL own rm B k n pc L (vI a :: st) := by
  have hq : -2147483648 ≤ a ∧ a < 2147483648 ∧ -2147483648 ≤ (0 : Int) ∧ (0 : Int) < 2147483648 := (⟨h.1, h.2, by decide, by decide⟩ : -2147483648 ≤ a ∧ a < 2147483648 ∧ -2147483648 ≤ (0 : Int) ∧ (0 : Int) < 2147483648)
  have hi := i32_ee (a := a) (b := 0) hq
  obtain ⟨p, l, e, R, s, m, args, below, meth, c, Q⟩ := γ
  intro C H locs ls hP hS hL
  refine lv_if_eq C.1 C.2.1 d ht (fun z => kt ?_ C H locs ls hP hS hL) (fun z => kf ?_ C H locs ls hP hS hL)
  · exact hi.mp z
  · exact fun q => z (hi.mpr q)
theorem u_icmp_eq {a b : Int} {off : Int} {tgt : Nat} (h : -2147483648 ≤ a ∧ a < 2147483648 ∧ -2147483648 ≤ b ∧ b < 2147483648) (d : decode cc pc = .ok (.if_icmp .eq off, 3)) (ht : (pc : Int) + off = (tgt : Int)) (kt : a = b → UV γ g A cc nL own rm B k n tgt L st) (kf : a ≠ b → UV γ g A cc nL own rm B k n (pc + 3) L st) : UV γ g A cc nL own rm B k n pc L (vI b :: vI a :: st) := by
  have hq : -2147483648 ≤ a ∧ a < 2147483648 ∧ -2147483648 ≤ (b : Int) ∧ (b : Int) < 2147483648 := h
  have hi := i32_ee (a := a) (b := b) hq
  obtain ⟨p, l, e, R, s, m, args, below, meth, c, Q⟩ := γ
  intro C H locs ls hP hS hL
  refine lv_icmp_eq C.1 C.2.1 d ht (fun z => kt ?_ C H locs ls hP hS hL) (fun z => kf ?_ C H locs ls hP hS hL)
  · exact hi.mp z
  · exact fun q => z (hi.mpr q)
theorem u_if_ne {a : Int} {off : Int} {tgt : Nat} (h : -2147483648 ≤ a ∧ a < 2147483648) (d : decode cc pc = .ok (.ifCond .ne off, 3)) (ht : (pc : Int) + off = (tgt : Int)) (kt : a ≠ 0 → UV γ g A cc nL own rm B k n tgt L st) (kf : a = 0 → UV γ g A cc nL own rm B k n (pc + 3) L st) : UV γ g A cc nL own rm B k n pc L (vI a :: st) := by
  have hq : -2147483648 ≤ a ∧ a < 2147483648 ∧ -2147483648 ≤ (0 : Int) ∧ (0 : Int) < 2147483648 := (⟨h.1, h.2, by decide, by decide⟩ : -2147483648 ≤ a ∧ a < 2147483648 ∧ -2147483648 ≤ (0 : Int) ∧ (0 : Int) < 2147483648)
  have hi := i32_ee (a := a) (b := 0) hq
  obtain ⟨p, l, e, R, s, m, args, below, meth, c, Q⟩ := γ
  intro C H locs ls hP hS hL
  refine lv_if_ne C.1 C.2.1 d ht (fun z => kt ?_ C H locs ls hP hS hL) (fun z => kf ?_ C H locs ls hP hS hL)
  · exact fun q => z (hi.mpr q)
  · exact hi.mp z
theorem u_icmp_ne {a b : Int} {off : Int} {tgt : Nat} (h : -2147483648 ≤ a ∧ a < 2147483648 ∧ -2147483648 ≤ b ∧ b < 2147483648) (d : decode cc pc = .ok (.if_icmp .ne off, 3)) (ht : (pc : Int) + off = (tgt : Int)) (kt : a ≠ b → UV γ g A cc nL own rm B k n tgt L st) (kf : a = b → UV γ g A cc nL own rm B k n (pc + 3) L st) : UV γ g A cc nL own rm B k n pc L (vI b :: vI a :: st) := by
  have hq : -2147483648 ≤ a ∧ a < 2147483648 ∧ -2147483648 ≤ (b : Int) ∧ (b : Int) < 2147483648 := h
  have hi := i32_ee (a := a) (b := b) hq
  obtain ⟨p, l, e, R, s, m, args, below, meth, c, Q⟩ := γ
  intro C H locs ls hP hS hL
  refine lv_icmp_ne C.1 C.2.1 d ht (fun z => kt ?_ C H locs ls hP hS hL) (fun z => kf ?_ C H locs ls hP hS hL)
  · exact fun q => z (hi.mpr q)
  · exact hi.mp z
theorem u_if_lt {a : Int} {off : Int} {tgt : Nat} (h : -2147483648 ≤ a ∧ a < 2147483648) (d : decode cc pc = .ok (.ifCond .lt off, 3)) (ht : (pc : Int) + off = (tgt : Int)) (kt : a < 0 → UV γ g A cc nL own rm B k n tgt L st) (kf : 0 ≤ a → UV γ g A cc nL own rm B k n (pc + 3) L st) : UV γ g A cc nL own rm B k n pc L (vI a :: st) := by
  have hq : -2147483648 ≤ a ∧ a < 2147483648 ∧ -2147483648 ≤ (0 : Int) ∧ (0 : Int) < 2147483648 := (⟨h.1, h.2, by decide, by decide⟩ : -2147483648 ≤ a ∧ a < 2147483648 ∧ -2147483648 ≤ (0 : Int) ∧ (0 : Int) < 2147483648)
  have hi := i32_lt (a := a) (b := 0) hq
  obtain ⟨p, l, e, R, s, m, args, below, meth, c, Q⟩ := γ
  intro C H locs ls hP hS hL
  refine lv_if_lt C.1 C.2.1 d ht (fun z => kt ?_ C H locs ls hP hS hL) (fun z => kf ?_ C H locs ls hP hS hL)
  · exact hi.mp z
  · exact Int.not_lt.mp (fun q => z (hi.mpr q))
theorem u_icmp_lt {a b : Int} {off : Int} {tgt : Nat} (h : -2147483648 ≤ a ∧ a < 2147483648 ∧ -2147483648 ≤ b ∧ b < 2147483648) (d : decode cc pc = .ok (.if_icmp .lt off, 3)) (ht : (pc : Int) + off = (tgt : Int)) (kt : a < b → UV γ g A cc nL own rm B k n tgt L st) (kf : b ≤ a → UV γ g A cc nL own rm B k n (pc + 3) L st) : UV γ g A cc nL own rm B k n pc L (vI b :: vI a :: st) := by
  have hq : -2147483648 ≤ a ∧ a < 2147483648 ∧ -2147483648 ≤ (b : Int) ∧ (b : Int) < 2147483648 := h
  have hi := i32_lt (a := a) (b := b) hq
  obtain ⟨p, l, e, R, s, m, args, below, meth, c, Q⟩ := γ
  intro C H locs ls hP hS hL
  refine lv_icmp_lt C.1 C.2.1 d ht (fun z => kt ?_ C H locs ls hP hS hL) (fun z => kf ?_ C H locs ls hP hS hL)
  · exact hi.mp z
  · exact Int.not_lt.mp (fun q => z (hi.mpr q))
theorem u_if_ge {a : Int} {off : Int} {tgt : Nat} (h : -2147483648 ≤ a ∧ a < 2147483648) (d : decode cc pc = .ok (.ifCond .ge off, 3)) (ht : (pc : Int) + off = (tgt : Int)) (kt : 0 ≤ a → UV γ g A cc nL own rm B k n tgt L st) (kf : a < 0 → UV γ g A cc nL own rm B k n (pc + 3) L st) : UV γ g A cc nL own rm B k n pc L (vI a :: st) := by
  have hq : -2147483648 ≤ a ∧ a < 2147483648 ∧ -2147483648 ≤ (0 : Int) ∧ (0 : Int) < 2147483648 := (⟨h.1, h.2, by decide, by decide⟩ : -2147483648 ≤ a ∧ a < 2147483648 ∧ -2147483648 ≤ (0 : Int) ∧ (0 : Int) < 2147483648)
  have hi := i32_le (a := 0) (b := a) (⟨hq.2.2.1, hq.2.2.2, hq.1, hq.2.1⟩)
  obtain ⟨p, l, e, R, s, m, args, below, meth, c, Q⟩ := γ
  intro C H locs ls hP hS hL
  refine lv_if_ge C.1 C.2.1 d ht (fun z => kt ?_ C H locs ls hP hS hL) (fun z => kf ?_ C H locs ls hP hS hL)
  · exact hi.mp z
  · exact Int.not_le.mp (fun q => z (hi.mpr q))
theorem u_icmp_ge {a b : Int} {off : Int} {tgt : Nat} (h : -2147483648 ≤ a ∧ a < 2147483648 ∧ -2147483648 ≤ b ∧ b < 2147483648) (d : decode cc pc = .ok (.if_icmp .ge off, 3)) (ht : (pc : Int) + off = (tgt : Int)) (kt : b ≤ a → UV γ g A cc nL own rm B k n tgt L st) (kf : a < b → UV γ g A cc nL own rm B k n (pc + 3) L st) : UV γ g A cc nL own rm B k n pc L (vI b :: vI a :: st) := by
  have hq : -2147483648 ≤ a ∧ a < 2147483648 ∧ -2147483648 ≤ (b : Int) ∧ (b : Int) < 2147483648 := h
  have hi := i32_le (a := b) (b := a) (⟨hq.2.2.1, hq.2.2.2, hq.1, hq.2.1⟩)
  obtain ⟨p, l, e, R, s, m, args, below, meth, c, Q⟩ := γ
  intro C H locs ls hP hS hL
  refine lv_icmp_ge C.1 C.2.1 d ht (fun z => kt ?_ C H locs ls hP hS hL) (fun z => kf ?_ C H locs ls hP hS hL)
  · exact hi.mp z
  · exact Int.not_le.mp (fun q => z (hi.mpr q))
theorem u_if_gt {a : Int} {off : Int} {tgt : Nat} (h : -2147483648 ≤ a ∧ a < 2147483648) (d : decode cc pc = .ok (.ifCond .gt off, 3)) (ht : (pc : Int) + off = (tgt : Int)) (kt : 0 < a → UV γ g A cc nL own rm B k n tgt L st) (kf : a ≤ 0 → UV γ g A cc nL own rm B k n (pc + 3) L st) : UV γ g A cc nL own rm B k n pc L (vI a :: st) := by
  have hq : -2147483648 ≤ a ∧ a < 2147483648 ∧ -2147483648 ≤ (0 : Int) ∧ (0 : Int) < 2147483648 := (⟨h.1, h.2, by decide, by decide⟩ : -2147483648 ≤ a ∧ a < 2147483648 ∧ -2147483648 ≤ (0 : Int) ∧ (0 : Int) < 2147483648)
  have hi := i32_lt (a := 0) (b := a) (⟨hq.2.2.1, hq.2.2.2, hq.1, hq.2.1⟩)
  obtain ⟨p, l, e, R, s, m, args, below, meth, c, Q⟩ := γ
  intro C H locs ls hP hS hL
  refine lv_if_gt C.1 C.2.1 d ht (fun z => kt ?_ C H locs ls hP hS hL) (fun z => kf ?_ C H locs ls hP hS hL)
  · exact hi.mp z
  · exact Int.not_lt.mp (fun q => z (hi.mpr q))
theorem u_icmp_gt {a b : Int} {off : Int} {tgt : Nat} (h : -2147483648 ≤ a ∧ a < 2147483648 ∧ -2147483648 ≤ b ∧ b < 2147483648) (d : decode cc pc = .ok (.if_icmp .gt off, 3)) (ht : (pc : Int) + off = (tgt : Int)) (kt : b < a → UV γ g A cc nL own rm B k n tgt L st) (kf : a ≤ b → UV γ g A cc nL own rm B k n (pc + 3) L st) : UV γ g A cc nL own rm B k n pc L (vI b :: vI a :: st) := by
  have hq : -2147483648 ≤ a ∧ a < 2147483648 ∧ -2147483648 ≤ (b : Int) ∧ (b : Int) < 2147483648 := h
  have hi := i32_lt (a := b) (b := a) (⟨hq.2.2.1, hq.2.2.2, hq.1, hq.2.1⟩)
  obtain ⟨p, l, e, R, s, m, args, below, meth, c, Q⟩ := γ
  intro C H locs ls hP hS hL
  refine lv_icmp_gt C.1 C.2.1 d ht (fun z => kt ?_ C H locs ls hP hS hL) (fun z => kf ?_ C H locs ls hP hS hL)
  · exact hi.mp z
  · exact Int.not_lt.mp (fun q => z (hi.mpr q))
theorem u_if_le {a : Int} {off : Int} {tgt : Nat} (h : -2147483648 ≤ a ∧ a < 2147483648) (d : decode cc pc = .ok (.ifCond .le off, 3)) (ht : (pc : Int) + off = (tgt : Int)) (kt : a ≤ 0 → UV γ g A cc nL own rm B k n tgt L st) (kf : 0 < a → UV γ g A cc nL own rm B k n (pc + 3) L st) : UV γ g A cc nL own rm B k n pc L (vI a :: st) := by
  have hq : -2147483648 ≤ a ∧ a < 2147483648 ∧ -2147483648 ≤ (0 : Int) ∧ (0 : Int) < 2147483648 := (⟨h.1, h.2, by decide, by decide⟩ : -2147483648 ≤ a ∧ a < 2147483648 ∧ -2147483648 ≤ (0 : Int) ∧ (0 : Int) < 2147483648)
  have hi := i32_le (a := a) (b := 0) hq
  obtain ⟨p, l, e, R, s, m, args, below, meth, c, Q⟩ := γ
  intro C H locs ls hP hS hL
  refine lv_if_le C.1 C.2.1 d ht (fun z => kt ?_ C H locs ls hP hS hL) (fun z => kf ?_ C H locs ls hP hS hL)
  · exact hi.mp z
  · exact Int.not_le.mp (fun q => z (hi.mpr q))
theorem u_icmp_le {a b : Int} {off : Int} {tgt : Nat} (h : -2147483648 ≤ a ∧ a < 2147483648 ∧ -2147483648 ≤ b ∧ b < 2147483648) (d : decode cc pc = .ok (.if_icmp .le off, 3)) (ht : (pc : Int) + off = (tgt : Int)) (kt : a ≤ b → UV γ g A cc nL own rm B k n tgt L st) (kf : b < a → UV γ g A cc nL own rm B k n (pc + 3) L st) : UV γ g A cc nL own rm B k n pc L (vI b :: vI a :: st) := by
  have hq : -2147483648 ≤ a ∧ a < 2147483648 ∧ -2147483648 ≤ (b : Int) ∧ (b : Int) < 2147483648 := h
  have hi := i32_le (a := a) (b := b) hq
  obtain ⟨p, l, e, R, s, m, args, below, meth, c, Q⟩ := γ
  intro C H locs ls hP hS hL
  refine lv_icmp_le C.1 C.2.1 d ht (fun z => kt ?_ C H locs ls hP hS hL) (fun z => kf ?_ C H locs ls hP hS hL)
  · exact hi.mp z
  · exact Int.not_le.mp (fun q => z (hi.mpr q))
theorem u_goto {off : Int} {tgt : Nat} (d : decode cc pc = .ok (.goto off, 3)) (ht : (pc : Int) + off = (tgt : Int)) (kk : UV γ g A cc nL own rm B k n tgt L st) : UV γ g A cc nL own rm B k n pc L st :=
  u_row (fun p l e R s m args below meth c Q H locs ls C hL q => lv_goto C.1 C.2.1 d ht q) kk

theorem u_ineg {a : Int} (d : decode cc pc = .ok (.ineg, 1)) (kk : UV γ g A cc nL own rm B k n (pc + 1) L (vI (-a) :: st)) : UV γ g A cc nL own rm B k n pc L (vI a :: st) :=
  u_row (fun p l e R s m args below meth c Q H locs ls C hL q => lv_ineg C.1 C.2.1 d (by
    have e : -Int32.ofInt a = Int32.ofInt (-a) := by
      apply i32_eq
      rw [Int32.toInt_neg, Int32.toInt_ofInt, Int32.toInt_ofInt]
      simp
    rw [e]; exact q)) kk
theorem u_iand255 {a : Int} (h : 0 ≤ a ∧ a < 256) (x : Int32) (hx : x &&& Int32.ofInt 255 = Int32.ofInt a) (d : decode cc pc = .ok (.iand, 1)) (kk : UV γ g A cc nL own rm B k n (pc + 1) L (vI a :: st)) : UV γ g A cc nL own rm B k n pc L (vI 255 :: .int x :: st) :=
  u_row (fun p l e R s m args below meth c Q H locs ls C hL q => lv_iand C.1 C.2.1 d (by rw [hx]; exact q)) kk
theorem u_ishr0 {a : Int} (d : decode cc pc = .ok (.ishr, 1)) (kk : UV γ g A cc nL own rm B k n (pc + 1) L (vI a :: st)) : UV γ g A cc nL own rm B k n pc L (vI 0 :: vI a :: st) :=
  u_row (fun p l e R s m args below meth c Q H locs ls C hL q => lv_ishr C.1 C.2.1 d (by rw [shr0]; exact q)) kk
theorem shl0 (x : Int32) : x <<< (Int32.ofInt 0 &&& 31) = x := by
  have e : Int32.ofInt 0 &&& 31 = 0 := by decide
  rw [e]
  simp
theorem u_ishl0 {a : Int} (d : decode cc pc = .ok (.ishl, 1)) (kk : UV γ g A cc nL own rm B k n (pc + 1) L (vI a :: st)) : UV γ g A cc nL own rm B k n pc L (vI 0 :: vI a :: st) :=
  u_row (fun p l e R s m args below meth c Q H locs ls C hL q => lv_ishl C.1 C.2.1 d (by rw [shl0]; exact q)) kk
theorem u_i2b {a : Int} {v : Int32} (hv : (Int32.ofInt a).toInt8.toInt32 = v) (d : decode cc pc = .ok (.i2b, 1)) (kk : UV γ g A cc nL own rm B k n (pc + 1) L (.int v :: st)) : UV γ g A cc nL own rm B k n pc L (vI a :: st) :=
  u_row (fun p l e R s m args below meth c Q H locs ls C hL q => lv_i2b C.1 C.2.1 d hv q) kk
theorem u_ldc {idx : Nat} {z : Int} (hl : Cond.constant own idx (Int32.ofInt z) ∈ WT) (d : decode cc pc = .ok (.ldc idx, 2)) (kk : UV γ g A cc nL own rm B k n (pc + 2) L (vI z :: st)) : UV γ g A cc nL own rm B k n pc L st :=
  u_row (fun p l e R s m args below meth c Q H locs ls C hL q => lv_ldc C.1 C.2.1 C.2.2.2.1 (C.2.2.2.2.1 _ hl) d q) kk
theorem u_astN {i : Fin 4} {a : Nat} (hn : (i : Nat) < nL) (ho : okst L (i : Nat) = true) (d : decode cc pc = .ok (.astore_n i, 1)) (kk : UV γ g A cc nL own rm B k n (pc + 1) (L.set (i : Nat) (some (.ref a))) st) : UV γ g A cc nL own rm B k n pc L (.ref a :: st) := u_astore_n hn ho d kk
/-- fewer cells -/
theorem u_sub {B1 : Bw} (ps : List Nat) (h1 : ∀ H, va_P (gD g) cls (bwl g B) H → va_P (gD g) cls (bwl g B1) H) (h2 : va_D A (bwl g B) → va_D A (bwl g B1)) (kk : UV γ g A cc nL own rm B1 k n pc L st) : UV γ g A cc nL own rm B k n pc L st :=
  fun C H locs ls hP hS hL => kk C H locs ls ⟨h1 H hP.1, h2 hP.2⟩ hS hL
-- statics
theorem u_cs (hl : Cond.fieldLink own idx RJ0 "COMPACT_STRINGS" "Z" ∈ WT) (d : decode cc pc = .ok (.getstatic idx, 3)) (kk : UV γ g A cc nL own rm B k n (pc + 3) L (vI 1 :: st)) : UV γ g A cc nL own rm B k n pc L st := by
  obtain ⟨p, l, e, R, s, m, args, below, meth, c0, Q⟩ := γ
  intro C H locs ls hP hS hL
  have hG : Gc g s s.heap := C.2.2.2.2.2.2.1
  have hA := C.2.2.2.2.2.2.2.2.2.2
  exact va_gets C.1 C.2.1 (hG.2.2.2.2.1.2.2.2.1.narrow hA) hS C.2.2.2.1 (C.2.2.2.2.1 _ hl) (fun x h => h) d (kk C H locs ls hP hS hL)
/-- a digit out of one of the two tables: read whole, up to the byte -/
theorem u_ones {z : Int} (hz : 0 ≤ z ∧ z < 100) (hL9 : Cond.fieldLink own idx RJ6 "DigitOnes" "[B" ∈ WT) {pc2 : Nat} (d : decode cc pc = .ok (.getstatic idx, 3))
    (kk : ∀ t : Nat, (∀ (L2 : List (Option Value)) (st2 : List Value) (pc2 : Nat), decode cc pc2 = .ok (.baload, 1) → UV γ g A cc nL own rm B k n (pc2 + 1) L2 (vI (48 + z % 10) :: st2) → UV γ g A cc nL own rm B k n pc2 L2 (vI z :: .ref t :: st2)) → UV γ g A cc nL own rm B k n (pc + 3) L (.ref t :: st)) : UV γ g A cc nL own rm B k n pc L st := by
  obtain ⟨p, l, e, R, s, m, args, below, meth, c0, Q⟩ := γ
  intro C H locs ls hP hS hL
  have hG : Gc g s s.heap := C.2.2.2.2.2.2.1
  have hA := C.2.2.2.2.2.2.2.2.2.2
  obtain ⟨t, hz1, ht1⟩ := hG.2.2.2.2.1.2.2.2.2.2.1
  refine va_gets C.1 C.2.1 (hz1.narrow hA) hS C.2.2.2.1 (C.2.2.2.2.1 _ hL9) (fun x h => h) d (kk t (fun L2 st2 pc2 d2 k2 C2 H2 locs2 ls2 hP2 hS2 hL2 => ?_) C H locs ls hP hS hL)
  refine va_tb C2.1 C2.2.1 (ht1.narrow hA) hS2 (i32_in hz.1 hz.2 (by decide)) (v := vI (48 + z % 10)) ?_ d2 (k2 C2 H2 locs2 ls2 hP2 hS2 hL2)
  rw [i32_nat hz.1 (by omega)]
  show Value.int (Int32.ofNat (48 + z.toNat % 10)) = Value.int (Int32.ofInt (48 + z % 10))
  congr 1
  show Int32.ofInt ((48 + z.toNat % 10 : Nat) : Int) = _
  congr 1
  omega
theorem u_tens {z : Int} (hz : 0 ≤ z ∧ z < 100) (hL9 : Cond.fieldLink own idx RJ6 "DigitTens" "[B" ∈ WT) (d : decode cc pc = .ok (.getstatic idx, 3))
    (kk : ∀ t : Nat, (∀ (L2 : List (Option Value)) (st2 : List Value) (pc2 : Nat), decode cc pc2 = .ok (.baload, 1) → UV γ g A cc nL own rm B k n (pc2 + 1) L2 (vI (48 + z / 10) :: st2) → UV γ g A cc nL own rm B k n pc2 L2 (vI z :: .ref t :: st2)) → UV γ g A cc nL own rm B k n (pc + 3) L (.ref t :: st)) : UV γ g A cc nL own rm B k n pc L st := by
  obtain ⟨p, l, e, R, s, m, args, below, meth, c0, Q⟩ := γ
  intro C H locs ls hP hS hL
  have hG : Gc g s s.heap := C.2.2.2.2.2.2.1
  have hA := C.2.2.2.2.2.2.2.2.2.2
  obtain ⟨t, hz1, ht1⟩ := hG.2.2.2.2.1.2.2.2.2.1
  refine va_gets C.1 C.2.1 (hz1.narrow hA) hS C.2.2.2.1 (C.2.2.2.2.1 _ hL9) (fun x h => h) d (kk t (fun L2 st2 pc2 d2 k2 C2 H2 locs2 ls2 hP2 hS2 hL2 => ?_) C H locs ls hP hS hL)
  refine va_tb C2.1 C2.2.1 (ht1.narrow hA) hS2 (i32_in hz.1 hz.2 (by decide)) (v := vI (48 + z / 10)) ?_ d2 (k2 C2 H2 locs2 ls2 hP2 hS2 hL2)
  rw [i32_nat hz.1 (by omega)]
  show Value.int (Int32.ofNat (48 + z.toNat / 10)) = Value.int (Int32.ofInt (48 + z / 10))
  congr 1
  show Int32.ofInt ((48 + z.toNat / 10 : Nat) : Int) = _
  congr 1
  omega
-- fields
abbrev bfs (B : Bw) : List Value := [.ref B.1, .int 0, .int B.2.2.1, vI B.2.2.2.1]
theorem u_get {f : Nat} {v : Value} (hf : f < 4) (hv : (bfs B)[f]? = some v) (hl : Cond.fieldLink own idx RJ5 (TJ4 f).2.1 (TJ4 f).2.2.1 ∈ WT) (d : decode cc pc = .ok (.getfield idx, 3)) (kk : UV γ g A cc nL own rm B k n (pc + 3) L (v :: st)) : UV γ g A cc nL own rm B k n pc L (vR g 121 :: st) := by
  obtain ⟨p, l, e, R, s, m, args, below, meth, c0, Q⟩ := γ
  intro C H locs ls hP hS hL
  have hG : Gc g s s.heap := C.2.2.2.2.2.2.1
  have e1 : (TJ4 f).1 = RJ5 := by unfold TJ4; split <;> rfl
  exact va_get C.1 C.2.1 C.2.2.2.2.1 in_J4 C.2.2.2.1 hG.1 hP.1 0 (ci := 5) (fs := bfs B) rfl rfl f hf (C.2.2.2.2.1 _ hl) (fun x h => by rw [e1] at h; exact h) hv d (kk C H locs ls hP hS hL)
theorem u_putc {v : Int} (hl : Cond.fieldLink own idx RJ5 "count" "I" ∈ WT) (d : decode cc pc = .ok (.putfield idx, 3)) (kk : UV γ g A cc nL own rm (B.1, B.2.1, B.2.2.1, v, B.2.2.2.2) k n (pc + 3) L st) : UV γ g A cc nL own rm B k n pc L (vI v :: vR g 121 :: st) := by
  obtain ⟨p, l, e, R, s, m, args, below, meth, c0, Q⟩ := γ
  intro C H locs ls hP hS hL
  have hG : Gc g s s.heap := C.2.2.2.2.2.2.1
  exact va_put C.1 C.2.1 C.2.2.2.2.1 in_J4 tyJ4 tyJ4_ok nmJ4 C.2.2.2.1 hG.1 hP.1 hP.2 hS 0 (ci := 5) (fs := bfs B) rfl rfl 3 (by decide) (C.2.2.2.2.1 _ hl) (fun x h => h) rfl (ty := .int) (v := vI v) rfl rfl rfl (by show 3 < 4; decide) d (fun H1 locs1 hP1 hD1 hS1 => kk C H1 locs1 ls ⟨hP1, hD1⟩ hS1 hL)
theorem u_putm {v : Int32} (hv : narrow .boolean (.int v) = .int v) (hft : fits .boolean (.int v) = true) (hl : Cond.fieldLink own idx RJ5 "maybeLatin1" "Z" ∈ WT) (d : decode cc pc = .ok (.putfield idx, 3)) (kk : UV γ g A cc nL own rm (B.1, B.2.1, v, B.2.2.2) k n (pc + 3) L st) : UV γ g A cc nL own rm B k n pc L (.int v :: vR g 121 :: st) := by
  obtain ⟨p, l, e, R, s, m, args, below, meth, c0, Q⟩ := γ
  intro C H locs ls hP hS hL
  have hG : Gc g s s.heap := C.2.2.2.2.2.2.1
  exact va_put C.1 C.2.1 C.2.2.2.2.1 in_J4 tyJ4 tyJ4_ok nmJ4 C.2.2.2.1 hG.1 hP.1 hP.2 hS 0 (ci := 5) (fs := bfs B) rfl rfl 2 (by decide) (C.2.2.2.2.1 _ hl) (fun x h => h) rfl (ty := .boolean) (v := .int v) rfl hv hft (by show 2 < 4; decide) d (fun H1 locs1 hP1 hD1 hS1 => kk C H1 locs1 ls ⟨hP1, hD1⟩ hS1 hL)
/-- the row that is kept: the further cell takes its place -/
theorem u_putv {q m : Nat} {f : Nat → Int32} (hx : B.2.2.2.2.2 = [(q, .inl (gC g 6, m, .inl f))]) (hl : Cond.fieldLink own idx RJ5 "value" "[B" ∈ WT) (d : decode cc pc = .ok (.putfield idx, 3)) (kk : UV γ g A cc nL own rm (q, m, B.2.2.1, B.2.2.2.1, f, []) k n (pc + 3) L st) : UV γ g A cc nL own rm B k n pc L (.ref q :: vR g 121 :: st) := by
  obtain ⟨p, l, e, R, s, m9, args, below, meth, c0, Q⟩ := γ
  obtain ⟨q0, cap, ml, cnt, bf, ex⟩ := B
  dsimp only at hx kk
  subst hx
  intro C H locs ls hP hS hL
  have hG : Gc g s s.heap := C.2.2.2.2.2.2.1
  exact va_put C.1 C.2.1 C.2.2.2.2.1 in_J4 tyJ4 tyJ4_ok nmJ4 C.2.2.2.1 hG.1 hP.1 hP.2 hS 0 (ci := 5) (fs := [.ref q0, .int 0, .int ml, vI cnt]) rfl rfl 0 (by decide) (C.2.2.2.2.1 _ hl) (fun x h => h) rfl (ty := .array .byte) (v := .ref q) rfl rfl rfl (by show 0 < 4; decide) d (fun H1 locs1 hP1 hD1 hS1 => kk C H1 locs1 ls ⟨hP1.sub [0, 2] rfl, hD1.sub [0, 2] (by decide) rfl⟩ hS1 hL)
-- the row
theorem u_bald {z : Int} (hz : 0 ≤ z ∧ z < (B.2.1 : Int)) (hN : B.2.1 < 2147483648) (d : decode cc pc = .ok (.baload, 1)) (kk : UV γ g A cc nL own rm B k n (pc + 1) L (.int (B.2.2.2.2.1 z.toNat) :: st)) : UV γ g A cc nL own rm B k n pc L (vI z :: .ref B.1 :: st) := by
  obtain ⟨p, l, e, R, s, m, args, below, meth, c0, Q⟩ := γ
  intro C H locs ls hP hS hL
  have hG : Gc g s s.heap := C.2.2.2.2.2.2.1
  refine va_bald C.1 C.2.1 hG.1 hP.1 1 6 (n := B.2.1) (f := B.2.2.2.2.1) rfl rfl (i32_in hz.1 hz.2 hN) d ?_
  rw [i32_nat hz.1 (by omega)]
  exact kk C H locs ls hP hS hL
theorem u_bast {z : Int} {v : Int32} (hz : 0 ≤ z ∧ z < (B.2.1 : Int)) (hN : B.2.1 < 2147483648) (hv : vp_nar .byte v = v) (d : decode cc pc = .ok (.bastore, 1)) (kk : UV γ g A cc nL own rm (B.1, B.2.1, B.2.2.1, B.2.2.2.1, upd B.2.2.2.2.1 z.toNat v, B.2.2.2.2.2) k n (pc + 1) L st) : UV γ g A cc nL own rm B k n pc L (.int v :: vI z :: .ref B.1 :: st) := by
  obtain ⟨p, l, e, R, s, m, args, below, meth, c0, Q⟩ := γ
  intro C H locs ls hP hS hL
  have hG : Gc g s s.heap := C.2.2.2.2.2.2.1
  refine va_bast C.1 C.2.1 hG.1 hP.1 hP.2 hS 1 6 (n := B.2.1) (f := B.2.2.2.2.1) rfl rfl (i32_in hz.1 hz.2 hN) d (fun H1 locs1 hP1 hD1 hS1 => ?_)
  rw [i32_nat hz.1 (by omega), hv] at hP1 hD1
  exact kk C H1 locs1 ls ⟨hP1, hD1⟩ hS1 hL
theorem u_alen (d : decode cc pc = .ok (.arraylength, 1)) (kk : UV γ g A cc nL own rm B k n (pc + 1) L (vI (B.2.1 : Int) :: st)) : UV γ g A cc nL own rm B k n pc L (.ref B.1 :: st) := by
  obtain ⟨p, l, e, R, s, m, args, below, meth, c0, Q⟩ := γ
  intro C H locs ls hP hS hL
  have hG : Gc g s s.heap := C.2.2.2.2.2.2.1
  exact va_alen C.1 C.2.1 hG.1 hP.1 1 6 (x := (B.2.1, .inl B.2.2.2.2.1)) rfl rfl rfl d (kk C H locs ls hP hS hL)
end UVL
