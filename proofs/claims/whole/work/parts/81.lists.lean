-- a world of lists: what constructors make
def WN (g : GT) (A : Nat → Prop) (ws : va_W) (H : Heap) : Prop := va_P (gD g) cls ws H ∧ va_D A ws
def NV (γ : gT) (g : GT) (A : Nat → Prop) (cc : ByteArray) (nL : Nat) (own : String) (rm : Room) (ws : va_W) (k n : Nat) (pc : Nat) (L : List (Option Value)) (st : List Value) : Prop :=
  CU γ g A cc nL own rm → ∀ (H : Heap) (locs : List Loc) (ls : Array Slot), WN g A ws H → va_S A (gS γ).heap H locs → Lh ls nL L → WV γ H locs k n pc ls st
section NVL
variable {γ : gT} {g : GT} {A : Nat → Prop} {cc : ByteArray} {nL idx : Nat} {own : String} {rm : Room} {ws : va_W} {k n : Nat} {pc : Nat} {L : List (Option Value)} {st : List Value}
theorem n_row {pc' : Nat} {st' : List Value} (h : ∀ (p : Program) (l : Launch) (e : Env) (R : Room) (s : State) (m : MethodId) (args : Array Value) (below : List Frame) (meth : Method) (c : Code) (Q : State → Prop) (H : Heap) (locs : List Loc) (ls : Array Slot), CU (p, l, e, R, s, m, args, below, meth, c, Q) g A cc nL own rm → Lh ls nL L → W p l e R s m args below meth c H locs k n Q (F0 m pc' ls st') → W p l e R s m args below meth c H locs k n Q (F0 m pc ls st)) (kk : NV γ g A cc nL own rm ws k n pc' L st') : NV γ g A cc nL own rm ws k n pc L st := by
  obtain ⟨p, l, e, R, s, m, args, below, meth, c, Q⟩ := γ
  exact fun C H locs ls hP hS hL => h p l e R s m args below meth c Q H locs ls C hL (kk C H locs ls hP hS hL)
theorem n_stk {st' : List Value} (e : st = st') (kk : NV γ g A cc nL own rm ws k n pc L st') : NV γ g A cc nL own rm ws k n pc L st := by rw [e]; exact kk
theorem n_top {a b : Int} (e : a = b) (kk : NV γ g A cc nL own rm ws k n pc L (vI b :: st)) : NV γ g A cc nL own rm ws k n pc L (vI a :: st) := by rw [e]; exact kk
theorem n_loc {L' : List (Option Value)} (h : Lsub L' L) (kk : NV γ g A cc nL own rm ws k n pc L' st) : NV γ g A cc nL own rm ws k n pc L st :=
  fun C H locs ls hP hS hL => kk C H locs ls hP hS ⟨hL.1, hL.2.1, fun i v hi => hL.2.2 i v (Lsub_at h i v hi)⟩
theorem n_wid {k' n' : Nat} (h1 : k ≤ k') (h2 : n ≤ n') (kk : NV γ g A cc nL own rm ws k' n' pc L st) : NV γ g A cc nL own rm ws k n pc L st := by
  obtain ⟨p, l, e, R, s, m, args, below, meth, c, Q⟩ := γ
  exact fun C H locs ls hP hS hL => W.widen h1 h2 (kk C H locs ls hP hS hL)

theorem n_iconst {z : Int} (d : decode cc pc = .ok (.iconst z, 1)) (kk : NV γ g A cc nL own rm ws k n (pc + 1) L (vI z :: st)) : NV γ g A cc nL own rm ws k n pc L (st) :=
  n_row (fun p l e R s m args below meth c Q H locs ls C hL q => lv_iconst C.1 C.2.1 d rfl q) kk
theorem n_bipush {z : Int} (h : (Int8.ofInt z).toInt32 = Int32.ofInt z) (d : decode cc pc = .ok (.bipush z, 2)) (kk : NV γ g A cc nL own rm ws k n (pc + 2) L (vI z :: st)) : NV γ g A cc nL own rm ws k n pc L (st) :=
  n_row (fun p l e R s m args below meth c Q H locs ls C hL q => lv_bipush C.1 C.2.1 d h q) kk
theorem n_sipush {z : Int} (h : (Int16.ofInt z).toInt32 = Int32.ofInt z) (d : decode cc pc = .ok (.sipush z, 3)) (kk : NV γ g A cc nL own rm ws k n (pc + 3) L (vI z :: st)) : NV γ g A cc nL own rm ws k n pc L (st) :=
  n_row (fun p l e R s m args below meth c Q H locs ls C hL q => lv_sipush C.1 C.2.1 d h q) kk
theorem n_iload_n {i : Fin 4} {z : Int} (h : L[(i : Nat)]? = some (some (vI z))) (d : decode cc pc = .ok (.iload_n i, 1)) (kk : NV γ g A cc nL own rm ws k n (pc + 1) L (vI z :: st)) : NV γ g A cc nL own rm ws k n pc L st :=
  n_row (fun p l e R s m args below meth c Q H locs ls C hL q => lv_iload_n C.1 C.2.1 d rfl (hL.2.2 _ _ h) q) kk
theorem n_iload {i : Nat} {z : Int} (h : L[i]? = some (some (vI z))) (d : decode cc pc = .ok (.iload i, 2)) (kk : NV γ g A cc nL own rm ws k n (pc + 2) L (vI z :: st)) : NV γ g A cc nL own rm ws k n pc L st :=
  n_row (fun p l e R s m args below meth c Q H locs ls C hL q => lv_iload C.1 C.2.1 d (hL.2.2 _ _ h) q) kk
theorem n_aload_n {i : Fin 4} {a : Nat} (h : L[(i : Nat)]? = some (some (.ref a))) (d : decode cc pc = .ok (.aload_n i, 1)) (kk : NV γ g A cc nL own rm ws k n (pc + 1) L (.ref a :: st)) : NV γ g A cc nL own rm ws k n pc L st :=
  n_row (fun p l e R s m args below meth c Q H locs ls C hL q => lv_aload_n C.1 C.2.1 d rfl (hL.2.2 _ _ h) q) kk
theorem n_aload {i : Nat} {a : Nat} (h : L[i]? = some (some (.ref a))) (d : decode cc pc = .ok (.aload i, 2)) (kk : NV γ g A cc nL own rm ws k n (pc + 2) L (.ref a :: st)) : NV γ g A cc nL own rm ws k n pc L st :=
  n_row (fun p l e R s m args below meth c Q H locs ls C hL q => lv_aload C.1 C.2.1 d (hL.2.2 _ _ h) q) kk
theorem n_istore_n {i : Fin 4} {z : Int} (hn : (i : Nat) < nL) (ho : okst L (i : Nat) = true) (d : decode cc pc = .ok (.istore_n i, 1)) (kk : NV γ g A cc nL own rm ws k n (pc + 1) (L.set (i : Nat) (some (vI z))) st) : NV γ g A cc nL own rm ws k n pc L (vI z :: st) := by
  obtain ⟨p, l, e, R, s, m, args, below, meth, c, Q⟩ := γ
  exact fun C H locs ls hP hS hL => lv_istore_n C.1 C.2.1 d rfl (Lh_has hL) hn rfl (fun ls2 h2 => kk C H locs ls2 hP hS (Lh_st ho h2))
theorem n_astore_n {i : Fin 4} {a : Nat} (hn : (i : Nat) < nL) (ho : okst L (i : Nat) = true) (d : decode cc pc = .ok (.astore_n i, 1)) (kk : NV γ g A cc nL own rm ws k n (pc + 1) (L.set (i : Nat) (some (.ref a))) st) : NV γ g A cc nL own rm ws k n pc L (.ref a :: st) := by
  obtain ⟨p, l, e, R, s, m, args, below, meth, c, Q⟩ := γ
  exact fun C H locs ls hP hS hL => lv_astore_n C.1 C.2.1 d rfl (Lh_has hL) hn rfl (fun ls2 h2 => kk C H locs ls2 hP hS (Lh_st ho h2))
theorem n_istore {i : Nat} {z : Int} (hn : i < nL) (ho : okst L i = true) (d : decode cc pc = .ok (.istore i, 2)) (kk : NV γ g A cc nL own rm ws k n (pc + 2) (L.set i (some (vI z))) st) : NV γ g A cc nL own rm ws k n pc L (vI z :: st) := by
  obtain ⟨p, l, e, R, s, m, args, below, meth, c, Q⟩ := γ
  exact fun C H locs ls hP hS hL => lv_istore C.1 C.2.1 d (Lh_has hL) hn rfl (fun ls2 h2 => kk C H locs ls2 hP hS (Lh_st ho h2))
theorem n_astore {i : Nat} {a : Nat} (hn : i < nL) (ho : okst L i = true) (d : decode cc pc = .ok (.astore i, 2)) (kk : NV γ g A cc nL own rm ws k n (pc + 2) (L.set i (some (.ref a))) st) : NV γ g A cc nL own rm ws k n pc L (.ref a :: st) := by
  obtain ⟨p, l, e, R, s, m, args, below, meth, c, Q⟩ := γ
  exact fun C H locs ls hP hS hL => lv_astore C.1 C.2.1 d (Lh_has hL) hn rfl (fun ls2 h2 => kk C H locs ls2 hP hS (Lh_st ho h2))
theorem n_iinc {i : Nat} {y z : Int} (h : L[i]? = some (some (vI z))) (hn : i < nL) (ho : okst L i = true) (d : decode cc pc = .ok (.iinc i y, 3)) (kk : NV γ g A cc nL own rm ws k n (pc + 3) (L.set i (some (vI (z + y)))) st) : NV γ g A cc nL own rm ws k n pc L st := by
  obtain ⟨p, l, e, R, s, m, args, below, meth, c, Q⟩ := γ
  intro C H locs ls hP hS hL
  obtain ⟨j, hj⟩ := List.getElem?_of_mem ((lvA_mem (q := (i, vI z))).mpr h)
  exact lv_iinc (k := j) C.1 C.2.1 d (Lh_has hL) hj (i32_add z y) hn rfl (fun ls2 h2 => kk C H locs ls2 hP hS (Lh_st ho h2))
theorem n_dup {v : Value} (h : v.category = 1) (d : decode cc pc = .ok (.dup, 1)) (kk : NV γ g A cc nL own rm ws k n (pc + 1) L (v :: v :: st)) : NV γ g A cc nL own rm ws k n pc L (v :: st) :=
  n_row (fun p l e R s m args below meth c Q H locs ls C hL q => lv_dup C.1 C.2.1 d h q) kk
theorem n_dup_x1 {v u : Value} (h : v.category = 1) (h2 : u.category = 1) (d : decode cc pc = .ok (.dup_x1, 1)) (kk : NV γ g A cc nL own rm ws k n (pc + 1) L (v :: u :: v :: st)) : NV γ g A cc nL own rm ws k n pc L (v :: u :: st) :=
  n_row (fun p l e R s m args below meth c Q H locs ls C hL q => lv_dup_x1 C.1 C.2.1 d h h2 q) kk
theorem n_pop {v : Value} (h : v.category = 1) (d : decode cc pc = .ok (.pop, 1)) (kk : NV γ g A cc nL own rm ws k n (pc + 1) L (st)) : NV γ g A cc nL own rm ws k n pc L (v :: st) :=
  n_row (fun p l e R s m args below meth c Q H locs ls C hL q => lv_pop C.1 C.2.1 d h q) kk
theorem n_iadd {a b : Int} (d : decode cc pc = .ok (.iadd, 1)) (kk : NV γ g A cc nL own rm ws k n (pc + 1) L (vI (a + b) :: st)) : NV γ g A cc nL own rm ws k n pc L (vI b :: vI a :: st) :=
  n_row (fun p l e R s m args below meth c Q H locs ls C hL q => lv_iadd C.1 C.2.1 d (by rw [i32_add]; exact q)) kk
theorem n_isub {a b : Int} (d : decode cc pc = .ok (.isub, 1)) (kk : NV γ g A cc nL own rm ws k n (pc + 1) L (vI (a - b) :: st)) : NV γ g A cc nL own rm ws k n pc L (vI b :: vI a :: st) :=
  n_row (fun p l e R s m args below meth c Q H locs ls C hL q => lv_isub C.1 C.2.1 d (by rw [i32_sub]; exact q)) kk
theorem n_imul {a b : Int} (d : decode cc pc = .ok (.imul, 1)) (kk : NV γ g A cc nL own rm ws k n (pc + 1) L (vI (a * b) :: st)) : NV γ g A cc nL own rm ws k n pc L (vI b :: vI a :: st) :=
  n_row (fun p l e R s m args below meth c Q H locs ls C hL q => lv_imul C.1 C.2.1 d (by rw [i32_mul]; exact q)) kk
theorem n_i2c {a : Int} (d : decode cc pc = .ok (.i2c, 1)) (kk : NV γ g A cc nL own rm ws k n (pc + 1) L (vI (a % 65536) :: st)) : NV γ g A cc nL own rm ws k n pc L (vI a :: st) :=
  n_row (fun p l e R s m args below meth c Q H locs ls C hL q => lv_i2c C.1 C.2.1 d (i32_c a) q) kk
theorem n_if_eq {a : Int} {off : Int} {tgt : Nat} (h : -2147483648 ≤ a ∧ a < 2147483648) (d : decode cc pc = .ok (.ifCond .eq off, 3)) (ht : (pc : Int) + off = (tgt : Int)) (kt : a = 0 → NV γ g A cc nL own rm ws k n tgt L st) (kf : a ≠ 0 → NV γ g A cc nL own rm ws k n (pc + 3) L st) : NV γ g A cc nL own rm ws k n pc L (vI a :: st) := by
  have hq : -2147483648 ≤ a ∧ a < 2147483648 ∧ -2147483648 ≤ (0 : Int) ∧ (0 : Int) < 2147483648 := (⟨h.1, h.2, by decide, by decide⟩ : -2147483648 ≤ a ∧ a < 2147483648 ∧ -2147483648 ≤ (0 : Int) ∧ (0 : Int) < 2147483648)
  have hi := i32_ee (a := a) (b := 0) hq
  obtain ⟨p, l, e, R, s, m, args, below, meth, c, Q⟩ := γ
  intro C H locs ls hP hS hL
  refine lv_if_eq C.1 C.2.1 d ht (fun z => kt ?_ C H locs ls hP hS hL) (fun z => kf ?_ C H locs ls hP hS hL)
  · exact hi.mp z
  · exact fun q => z (hi.mpr q)
theorem n_icmp_eq {a b : Int} {off : Int} {tgt : Nat} (h : -2147483648 ≤ a ∧ a < 2147483648 ∧ -2147483648 ≤ b ∧ b < 2147483648) (d : decode cc pc = .ok (.if_icmp .eq off, 3)) (ht : (pc : Int) + off = (tgt : Int)) (kt : a = b → NV γ g A cc nL own rm ws k n tgt L st) (kf : a ≠ b → NV γ g A cc nL own rm ws k n (pc + 3) L st) : NV γ g A cc nL own rm ws k n pc L (vI b :: vI a :: st) := by
  have hq : -2147483648 ≤ a ∧ a < 2147483648 ∧ -2147483648 ≤ (b : Int) ∧ (b : Int) < 2147483648 := h
  have hi := i32_ee (a := a) (b := b) hq
  obtain ⟨p, l, e, R, s, m, args, below, meth, c, Q⟩ := γ
  intro C H locs ls hP hS hL
  refine lv_icmp_eq C.1 C.2.1 d ht (fun z => kt ?_ C H locs ls hP hS hL) (fun z => kf ?_ C H locs ls hP hS hL)
  · exact hi.mp z
  · exact fun q => z (hi.mpr q)
theorem n_if_ne {a : Int} {off : Int} {tgt : Nat} (h : -2147483648 ≤ a ∧ a < 2147483648) (d : decode cc pc = .ok (.ifCond .ne off, 3)) (ht : (pc : Int) + off = (tgt : Int)) (kt : a ≠ 0 → NV γ g A cc nL own rm ws k n tgt L st) (kf : a = 0 → NV γ g A cc nL own rm ws k n (pc + 3) L st) : NV γ g A cc nL own rm ws k n pc L (vI a :: st) := by
  have hq : -2147483648 ≤ a ∧ a < 2147483648 ∧ -2147483648 ≤ (0 : Int) ∧ (0 : Int) < 2147483648 := (⟨h.1, h.2, by decide, by decide⟩ : -2147483648 ≤ a ∧ a < 2147483648 ∧ -2147483648 ≤ (0 : Int) ∧ (0 : Int) < 2147483648)
  have hi := i32_ee (a := a) (b := 0) hq
  obtain ⟨p, l, e, R, s, m, args, below, meth, c, Q⟩ := γ
  intro C H locs ls hP hS hL
  refine lv_if_ne C.1 C.2.1 d ht (fun z => kt ?_ C H locs ls hP hS hL) (fun z => kf ?_ C H locs ls hP hS hL)
  · exact fun q => z (hi.mpr q)
  · exact hi.mp z
theorem n_icmp_ne {a b : Int} {off : Int} {tgt : Nat} (h : -2147483648 ≤ a ∧ a < 2147483648 ∧ -2147483648 ≤ b ∧ b < 2147483648) (d : decode cc pc = .ok (.if_icmp .ne off, 3)) (ht : (pc : Int) + off = (tgt : Int)) (kt : a ≠ b → NV γ g A cc nL own rm ws k n tgt L st) (kf : a = b → NV γ g A cc nL own rm ws k n (pc + 3) L st) : NV γ g A cc nL own rm ws k n pc L (vI b :: vI a :: st) := by
  have hq : -2147483648 ≤ a ∧ a < 2147483648 ∧ -2147483648 ≤ (b : Int) ∧ (b : Int) < 2147483648 := h
  have hi := i32_ee (a := a) (b := b) hq
  obtain ⟨p, l, e, R, s, m, args, below, meth, c, Q⟩ := γ
  intro C H locs ls hP hS hL
  refine lv_icmp_ne C.1 C.2.1 d ht (fun z => kt ?_ C H locs ls hP hS hL) (fun z => kf ?_ C H locs ls hP hS hL)
  · exact fun q => z (hi.mpr q)
  · exact hi.mp z
theorem n_if_lt {a : Int} {off : Int} {tgt : Nat} (h : -2147483648 ≤ a ∧ a < 2147483648) (d : decode cc pc = .ok (.ifCond .lt off, 3)) (ht : (pc : Int) + off = (tgt : Int)) (kt : a < 0 → NV γ g A cc nL own rm ws k n tgt L st) (kf : 0 ≤ a → NV γ g A cc nL own rm ws k n (pc + 3) L st) : NV γ g A cc nL own rm ws k n pc L (vI a :: st) := by
  have hq : -2147483648 ≤ a ∧ a < 2147483648 ∧ -2147483648 ≤ (0 : Int) ∧ (0 : Int) < 2147483648 := (⟨h.1, h.2, by decide, by decide⟩ : -2147483648 ≤ a ∧ a < 2147483648 ∧ -2147483648 ≤ (0 : Int) ∧ (0 : Int) < 2147483648)
  have hi := i32_lt (a := a) (b := 0) hq
  obtain ⟨p, l, e, R, s, m, args, below, meth, c, Q⟩ := γ
  intro C H locs ls hP hS hL
  refine lv_if_lt C.1 C.2.1 d ht (fun z => kt ?_ C H locs ls hP hS hL) (fun z => kf ?_ C H locs ls hP hS hL)
  · exact hi.mp z
  · exact Int.not_lt.mp (fun q => z (hi.mpr q))
theorem n_icmp_lt {a b : Int} {off : Int} {tgt : Nat} (h : -2147483648 ≤ a ∧ a < 2147483648 ∧ -2147483648 ≤ b ∧ b < 2147483648) (d : decode cc pc = .ok (.if_icmp .lt off, 3)) (ht : (pc : Int) + off = (tgt : Int)) (kt : a < b → NV γ g A cc nL own rm ws k n tgt L st) (kf : b ≤ a → NV γ g A cc nL own rm ws k n (pc + 3) L st) : NV γ g A cc nL own rm ws k n pc L (vI b :: vI a :: st) := by
  have hq : -2147483648 ≤ a ∧ a < 2147483648 ∧ -2147483648 ≤ (b : Int) ∧ (b : Int) < 2147483648 := h
  have hi := i32_lt (a := a) (b := b) hq
  obtain ⟨p, l, e, R, s, m, args, below, meth, c, Q⟩ := γ
  intro C H locs ls hP hS hL
  refine lv_icmp_lt C.1 C.2.1 d ht (fun z => kt ?_ C H locs ls hP hS hL) (fun z => kf ?_ C H locs ls hP hS hL)
  · exact hi.mp z
  · exact Int.not_lt.mp (fun q => z (hi.mpr q))
theorem n_if_ge {a : Int} {off : Int} {tgt : Nat} (h : -2147483648 ≤ a ∧ a < 2147483648) (d : decode cc pc = .ok (.ifCond .ge off, 3)) (ht : (pc : Int) + off = (tgt : Int)) (kt : 0 ≤ a → NV γ g A cc nL own rm ws k n tgt L st) (kf : a < 0 → NV γ g A cc nL own rm ws k n (pc + 3) L st) : NV γ g A cc nL own rm ws k n pc L (vI a :: st) := by
  have hq : -2147483648 ≤ a ∧ a < 2147483648 ∧ -2147483648 ≤ (0 : Int) ∧ (0 : Int) < 2147483648 := (⟨h.1, h.2, by decide, by decide⟩ : -2147483648 ≤ a ∧ a < 2147483648 ∧ -2147483648 ≤ (0 : Int) ∧ (0 : Int) < 2147483648)
  have hi := i32_le (a := 0) (b := a) (⟨hq.2.2.1, hq.2.2.2, hq.1, hq.2.1⟩)
  obtain ⟨p, l, e, R, s, m, args, below, meth, c, Q⟩ := γ
  intro C H locs ls hP hS hL
  refine lv_if_ge C.1 C.2.1 d ht (fun z => kt ?_ C H locs ls hP hS hL) (fun z => kf ?_ C H locs ls hP hS hL)
  · exact hi.mp z
  · exact Int.not_le.mp (fun q => z (hi.mpr q))
theorem n_icmp_ge {a b : Int} {off : Int} {tgt : Nat} (h : -2147483648 ≤ a ∧ a < 2147483648 ∧ -2147483648 ≤ b ∧ b < 2147483648) (d : decode cc pc = .ok (.if_icmp .ge off, 3)) (ht : (pc : Int) + off = (tgt : Int)) (kt : b ≤ a → NV γ g A cc nL own rm ws k n tgt L st) (kf : a < b → NV γ g A cc nL own rm ws k n (pc + 3) L st) : NV γ g A cc nL own rm ws k n pc L (vI b :: vI a :: st) := by
  have hq : -2147483648 ≤ a ∧ a < 2147483648 ∧ -2147483648 ≤ (b : Int) ∧ (b : Int) < 2147483648 := h
  have hi := i32_le (a := b) (b := a) (⟨hq.2.2.1, hq.2.2.2, hq.1, hq.2.1⟩)
  obtain ⟨p, l, e, R, s, m, args, below, meth, c, Q⟩ := γ
  intro C H locs ls hP hS hL
  refine lv_icmp_ge C.1 C.2.1 d ht (fun z => kt ?_ C H locs ls hP hS hL) (fun z => kf ?_ C H locs ls hP hS hL)
  · exact hi.mp z
  · exact Int.not_le.mp (fun q => z (hi.mpr q))
theorem n_if_gt {a : Int} {off : Int} {tgt : Nat} (h : -2147483648 ≤ a ∧ a < 2147483648) (d : decode cc pc = .ok (.ifCond .gt off, 3)) (ht : (pc : Int) + off = (tgt : Int)) (kt : 0 < a → NV γ g A cc nL own rm ws k n tgt L st) (kf : a ≤ 0 → NV γ g A cc nL own rm ws k n (pc + 3) L st) : NV γ g A cc nL own rm ws k n pc L (vI a :: st) := by
  have hq : -2147483648 ≤ a ∧ a < 2147483648 ∧ -2147483648 ≤ (0 : Int) ∧ (0 : Int) < 2147483648 := (⟨h.1, h.2, by decide, by decide⟩ : -2147483648 ≤ a ∧ a < 2147483648 ∧ -2147483648 ≤ (0 : Int) ∧ (0 : Int) < 2147483648)
  have hi := i32_lt (a := 0) (b := a) (⟨hq.2.2.1, hq.2.2.2, hq.1, hq.2.1⟩)
  obtain ⟨p, l, e, R, s, m, args, below, meth, c, Q⟩ := γ
  intro C H locs ls hP hS hL
  refine lv_if_gt C.1 C.2.1 d ht (fun z => kt ?_ C H locs ls hP hS hL) (fun z => kf ?_ C H locs ls hP hS hL)
  · exact hi.mp z
  · exact Int.not_lt.mp (fun q => z (hi.mpr q))
theorem n_icmp_gt {a b : Int} {off : Int} {tgt : Nat} (h : -2147483648 ≤ a ∧ a < 2147483648 ∧ -2147483648 ≤ b ∧ b < 2147483648) (d : decode cc pc = .ok (.if_icmp .gt off, 3)) (ht : (pc : Int) + off = (tgt : Int)) (kt : b < a → NV γ g A cc nL own rm ws k n tgt L st) (kf : a ≤ b → NV γ g A cc nL own rm ws k n (pc + 3) L st) : NV γ g A cc nL own rm ws k n pc L (vI b :: vI a :: st) := by
  have hq : -2147483648 ≤ a ∧ a < 2147483648 ∧ -2147483648 ≤ (b : Int) ∧ (b : Int) < 2147483648 := h
  have hi := i32_lt (a := b) (b := a) (⟨hq.2.2.1, hq.2.2.2, hq.1, hq.2.1⟩)
  obtain ⟨p, l, e, R, s, m, args, below, meth, c, Q⟩ := γ
  intro C H locs ls hP hS hL
  refine lv_icmp_gt C.1 C.2.1 d ht (fun z => kt ?_ C H locs ls hP hS hL) (fun z => kf ?_ C H locs ls hP hS hL)
  · exact hi.mp z
  · exact Int.not_lt.mp (fun q => z (hi.mpr q))
theorem n_if_le {a : Int} {off : Int} {tgt : Nat} (h : -2147483648 ≤ a ∧ a < 2147483648) (d : decode cc pc = .ok (.ifCond .le off, 3)) (ht : (pc : Int) + off = (tgt : Int)) (kt : a ≤ 0 → NV γ g A cc nL own rm ws k n tgt L st) (kf : 0 < a → NV γ g A cc nL own rm ws k n (pc + 3) L st) : NV γ g A cc nL own rm ws k n pc L (vI a :: st) := by
  have hq : -2147483648 ≤ a ∧ a < 2147483648 ∧ -2147483648 ≤ (0 : Int) ∧ (0 : Int) < 2147483648 := (⟨h.1, h.2, by decide, by decide⟩ : -2147483648 ≤ a ∧ a < 2147483648 ∧ -2147483648 ≤ (0 : Int) ∧ (0 : Int) < 2147483648)
  have hi := i32_le (a := a) (b := 0) hq
  obtain ⟨p, l, e, R, s, m, args, below, meth, c, Q⟩ := γ
  intro C H locs ls hP hS hL
  refine lv_if_le C.1 C.2.1 d ht (fun z => kt ?_ C H locs ls hP hS hL) (fun z => kf ?_ C H locs ls hP hS hL)
  · exact hi.mp z
  · exact Int.not_le.mp (fun q => z (hi.mpr q))
theorem n_icmp_le {a b : Int} {off : Int} {tgt : Nat} (h : -2147483648 ≤ a ∧ a < 2147483648 ∧ -2147483648 ≤ b ∧ b < 2147483648) (d : decode cc pc = .ok (.if_icmp .le off, 3)) (ht : (pc : Int) + off = (tgt : Int)) (kt : a ≤ b → NV γ g A cc nL own rm ws k n tgt L st) (kf : b < a → NV γ g A cc nL own rm ws k n (pc + 3) L st) : NV γ g A cc nL own rm ws k n pc L (vI b :: vI a :: st) := by
  have hq : -2147483648 ≤ a ∧ a < 2147483648 ∧ -2147483648 ≤ (b : Int) ∧ (b : Int) < 2147483648 := h
  have hi := i32_le (a := a) (b := b) hq
  obtain ⟨p, l, e, R, s, m, args, below, meth, c, Q⟩ := γ
  intro C H locs ls hP hS hL
  refine lv_icmp_le C.1 C.2.1 d ht (fun z => kt ?_ C H locs ls hP hS hL) (fun z => kf ?_ C H locs ls hP hS hL)
  · exact hi.mp z
  · exact Int.not_le.mp (fun q => z (hi.mpr q))
theorem n_goto {off : Int} {tgt : Nat} (d : decode cc pc = .ok (.goto off, 3)) (ht : (pc : Int) + off = (tgt : Int)) (kk : NV γ g A cc nL own rm ws k n tgt L st) : NV γ g A cc nL own rm ws k n pc L st :=
  n_row (fun p l e R s m args below meth c Q H locs ls C hL q => lv_goto C.1 C.2.1 d ht q) kk

theorem n_ws {ws' : va_W} (e : ws = ws') (kk : NV γ g A cc nL own rm ws' k n pc L st) : NV γ g A cc nL own rm ws k n pc L st := by rw [e]; exact kk
/-- the constructor of Object -/
theorem n_obj {a : Nat} (hl : Cond.methodLink own idx Lib.objectInit ∈ WT) (h1 : 1 ≤ rm.frames) (h2 : (st.map fun v => v.category).sum + 12 ≤ rm.locals) (d : decode cc pc = .ok (.invokespecial idx, 3)) (kk : NV γ g A cc nL own rm ws k n (pc + 3) L st) : NV γ g A cc nL own rm ws k n pc L (.ref a :: st) := by
  obtain ⟨p, l, e, R, s, m, args, below, meth, c, Q⟩ := γ
  intro C H locs ls hP hS hL
  obtain ⟨hx, hb, hml, ho, hts, rfl, hG, hlk, rfl, -⟩ := id C
  exact W.objInit hx hb ho (hts _ hl) (hts _ (show Cond.instanceMethod Lib.objectInit ∈ WT by decide +kernel)) (hts _ (show Cond.code Lib.objectInit ⟨#[0xb1]⟩ 1 none ∈ WT by decide +kernel)) rfl (hL.1.trans hml.symm) rfl d h1 (by show 2 * _ + _ + 12 ≤ _; simpa [F0] using h2) (kk C H locs ls hP hS hL)
/-- a new object: its cell comes last -/
theorem n_new {ci N : Nat} {cn : String} {T : u_T} {ty : Nat → FieldType} {fs : List Value} (hc : cls[ci]? = some (cn, T, N)) (hin : ∀ w ∈ u_ws cn T N, w ∈ WT) (hty : ∀ k, k < N → parseFieldDescriptor (T k).2.2.1 = some (ty k)) (hcl : Cond.classLink own idx cn ∈ WT) (hinst : Cond.instantiable cn N ∈ WT) (hini : Cond.initialized cn ∈ WT) (hfs : ∀ j, j < N → defaultValue (ty j) = vp_V fs j) (hk : k + 1 ≤ rm.cells) (hn : n + N ≤ rm.slots) (d : decode cc pc = .ok (.new idx, 3))
    (kk : ∀ q : Nat, NV γ g A cc nL own rm (ws ++ [(q, .inr (ci, fs))]) (k + 1) (n + N) (pc + 3) L (.ref q :: st)) : NV γ g A cc nL own rm ws k n pc L st := by
  obtain ⟨p, l, e, R, s, m, args, below, meth, c, Q⟩ := γ
  intro C H locs ls hP hS hL
  obtain ⟨hx, hb, hml, ho, hts, rfl, hG, hlk, rfl, hA1, hA2⟩ := id C
  exact va_new hx hb hts hin ty hty ho (hts _ hcl) (hts _ hinst) (hts _ hini) hG.1 hP.1 hP.2 hS hA1 hc hfs hk hn d (fun q H1 hP1 hD1 hS1 => kk q C H1 locs ls ⟨hP1, hD1⟩ hS1 hL)
/-- a new row: its cell comes last -/
theorem n_newa {m : Int} {at9 : ArrayType} {ty : FieldType} {a0 : vp_A} {t0 : Nat} {cA0 : ClassId} (hty : newarray.typeOf at9 = ty) (ht : (tyL g)[t0]? = some (cA0, ty)) (ha : ∀ cA : ClassId, vp_cell cA a0 = arrV cA m.toNat (fun _ => defaultValue ty)) (h0 : 0 ≤ m ∧ m ≤ 65536) (hk : k + 1 ≤ rm.cells) (hn : n + m.toNat ≤ rm.slots) (hb8 : componentBytes ty ≤ 8) (hpr : ∀ C, ty ≠ .object C) (hl : Cond.arrayClass (newarray.typeOf at9) ∈ WT) (d : decode cc pc = .ok (.newarray at9, 2))
    (kk : ∀ q : Nat, NV γ g A cc nL own rm (ws ++ [(q, .inl (cA0, a0))]) (k + 1) (n + m.toNat) (pc + 2) L (.ref q :: st)) : NV γ g A cc nL own rm ws k n pc L (vI m :: st) := by
  obtain ⟨p, l, e, R, s, m9, args, below, meth, c, Q⟩ := γ
  intro C H locs ls hP hS hL
  obtain ⟨hx, hb, hml, ho, hts, rfl, hG, hlk, rfl, hA1, hA2⟩ := id C
  refine va_newa (atype := at9) hx hb (hts _ hl) (ty := ty) hty hG.1 hP.1 hP.2 hS hA1 (N' := m.toNat) (a0 := a0) ha (fun z => by have := (i32_lt (a := m) (b := 0) (by omega)).mp z; omega) (i32_nat h0.1 (by omega)) (by have : m.toNat * componentBytes ty ≤ m.toNat * 8 := Nat.mul_le_mul_left _ hb8; omega) hk hn d (fun q cA H1 hK1 hP1 hD1 hS1 => ?_)
  have e6 : cA = cA0 := by
    have a1 := (hK1.2 (tyL g).length (cA, ty) (by rw [List.getElem?_append_right (Nat.le_refl _), Nat.sub_self]; rfl)).2
    have a2 := (hG.1.2 t0 (cA0, ty) ht).2
    cases ty <;> first | exact absurd rfl (hpr _) | exact Option.some.inj (a1.symm.trans a2)
  rw [e6] at hP1 hD1
  exact kk q C H1 locs ls ⟨hP1, hD1⟩ hS1 hL
/-- a field of an object of the list -/
theorem n_put {ci N f q0 a : Nat} {cn ref : String} {T : u_T} {ty0 : Nat → FieldType} {fs : List Value} {ty : FieldType} {v : Value} (hc : cls[ci]? = some (cn, T, N)) (hin : ∀ w ∈ u_ws cn T N, w ∈ WT) (hty : ∀ k, k < N → parseFieldDescriptor (T k).2.2.1 = some (ty0 k)) (hnm : ∀ a, a < N → ∀ b, b < N → a ≠ b → (T a).2.1 ≠ (T b).2.1) (he : ws[q0]? = some (a, .inr (ci, fs))) (hf : f < N) (hl : Cond.fieldLink own idx cn (T f).2.1 (T f).2.2.1 ∈ WT) (hr : (T f).1 = cn) (hfin : (T f).2.2.2 = false) (hpt : parseFieldDescriptor (T f).2.2.1 = some ty) (hv : narrow ty v = v) (hft : fits ty v = true) (hlen : f < fs.length) (d : decode cc pc = .ok (.putfield idx, 3))
    (kk : NV γ g A cc nL own rm (ws.set q0 (a, .inr (ci, fs.set f v))) k n (pc + 3) L st) : NV γ g A cc nL own rm ws k n pc L (v :: .ref a :: st) := by
  obtain ⟨p, l, e, R, s, m, args, below, meth, c, Q⟩ := γ
  intro C H locs ls hP hS hL
  have hG : Gc g s s.heap := C.2.2.2.2.2.2.1
  exact va_put C.1 C.2.1 C.2.2.2.2.1 hin ty0 hty hnm C.2.2.2.1 hG.1 hP.1 hP.2 hS q0 (ci := ci) (fs := fs) he hc f hf (C.2.2.2.2.1 _ hl) (fun x h => by rw [hr] at h; exact h) hfin (ty := ty) (v := v) hpt hv hft hlen d (fun H1 locs1 hP1 hD1 hS1 => kk C H1 locs1 ls ⟨hP1, hD1⟩ hS1 hL)
/-- the method's own name -/
def InI (γ : gT) (nm : String) : Prop := match γ with
  | (_, _, _, _, _, _, _, _, meth, _, _) => meth.name = nm
/-- a final field, in the constructor -/
theorem n_putF {ci N f q0 a : Nat} {cn : String} {T : u_T} {ty0 : Nat → FieldType} {fs : List Value} {ty : FieldType} {v : Value} (hi : InI γ "<init>") (hc : cls[ci]? = some (cn, T, N)) (hin : ∀ w ∈ u_ws cn T N, w ∈ WT) (hty : ∀ k, k < N → parseFieldDescriptor (T k).2.2.1 = some (ty0 k)) (hnm : ∀ a, a < N → ∀ b, b < N → a ≠ b → (T a).2.1 ≠ (T b).2.1) (he : ws[q0]? = some (a, .inr (ci, fs))) (hf : f < N) (hl : Cond.fieldLink cn idx cn (T f).2.1 (T f).2.2.1 ∈ WT) (hr : (T f).1 = cn) (hfin : (T f).2.2.2 = true) (hpt : parseFieldDescriptor (T f).2.2.1 = some ty) (hv : narrow ty v = v) (hft : fits ty v = true) (hlen : f < fs.length) (d : decode cc pc = .ok (.putfield idx, 3))
    (kk : NV γ g A cc nL cn rm (ws.set q0 (a, .inr (ci, fs.set f v))) k n (pc + 3) L st) : NV γ g A cc nL cn rm ws k n pc L (v :: .ref a :: st) := by
  obtain ⟨p, l, e, R, s, m, args, below, meth, c, Q⟩ := γ
  intro C H locs ls hP hS hL
  have hG : Gc g s s.heap := C.2.2.2.2.2.2.1
  exact va_putF C.1 C.2.1 C.2.2.2.2.1 hin ty0 hty hnm C.2.2.2.1 hG.1 hP.1 hP.2 hS q0 (ci := ci) (fs := fs) he hc f hf (C.2.2.2.2.1 _ hl) (fun x h => by rw [hr] at h; exact h) hfin hi hr (ty := ty) (v := v) hpt hv hft hlen d (fun H1 locs1 hP1 hD1 hS1 => kk C H1 locs1 ls ⟨hP1, hD1⟩ hS1 hL)
end NVL
theorem wsg {ws arrs : va_W} {p : Nat} {e : Nat × va_E} (hp : p < ws.length) : (ws.set p e ++ arrs)[p]? = some e := by
  rw [List.getElem?_append_left (by rw [List.length_set]; exact hp), List.getElem?_set_self hp]
theorem wss {ws arrs : va_W} {p : Nat} {e e' : Nat × va_E} (hp : p < ws.length) : (ws.set p e ++ arrs).set p e' = ws.set p e' ++ arrs := by
  rw [List.set_append_left _ _ (by rw [List.length_set]; exact hp), List.set_set]
theorem wsi {ws : va_W} {p : Nat} {e : Nat × va_E} (hp : ws[p]? = some e) : ws = ws.set p e ++ [] := by
  have hl := (List.getElem?_eq_some_iff.mp hp).1
  rw [List.append_nil]
  apply List.ext_getElem?
  intro j
  by_cases hj : j = p
  · rw [hj, List.getElem?_set_self hl, hp]
  · rw [List.getElem?_set_ne (Ne.symm hj)]
-- contracts of constructors
def PcN (g : GT) (A : Nat → Prop) (as : List Value) (ws : va_W) : Array Value → State → Prop := fun a U => a = as.toArray ∧ Gc g U U.heap ∧ WN g A ws U.heap ∧ (∀ a : Nat, U.heap.size ≤ a → A a) ∧ ∀ a : Nat, A a → AL g a
theorem PcN_blind (g : GT) (A : Nat → Prop) (as : List Value) (ws : va_W) : FrameBlind (PcN g A as ws) := fun a _ f mk h => ⟨h.1, Gc_call f mk a h.2.1, h.2.2.1, h.2.2.2.1, h.2.2.2.2⟩
def QcN (g : GT) (A : Nat → Prop) (Qp : Option Value → va_W → Prop) : Array Value → State → Outcome → State → Prop := fun _ st oc t => (∃ v w, oc = .returned v ∧ Qp v w ∧ WN g A w t.heap) ∧ va_F A st t
def CtrN (g : GT) (A : Nat → Prop) (y : MethodName) (cc : ByteArray) (mL : Nat) (rt : Option FieldType) (rm : Room) (as : List Value) (ws : va_W) (Qp : Option Value → va_W → Prop) : Prop :=
  Met (gl g) y (Cond.code y cc mL rt :: WT) rm (PcN g A as ws) (QcN g A Qp) rm.cells rm.slots A
def EndN (γ : gT) (g : GT) (A : Nat → Prop) (rm : Room) (rt : Option FieldType) (Qp : Option Value → va_W → Prop) : Prop := match γ with
  | (_, _, _, _, s, _, args, below, meth, _, Q) => Q = MQ below (QcN g A Qp) args s rm.cells rm.slots A ∧ meth.sig.returnType = rt
theorem ctrN_of {g : GT} {A : Nat → Prop} {y : MethodName} {cc : ByteArray} {mL : Nat} {rt : Option FieldType} {rm : Room} {as : List Value} {ws : va_W} {Qp : Option Value → va_W → Prop} (L : List (Option Value)) (hy : plainName y.cls = true) (hn : (lg_sl as).length ≤ mL) (hL : lvA L = lv_args 0 as)
    (body : ∀ γ : gT, EndN γ g A rm rt Qp → InI γ y.name → NV γ g A cc mL y.cls rm ws 0 0 0 L []) : CtrN g A y cc mL rt rm as ws Qp := by
  refine Met.ofW (cc := cc) (maxL := mL) (ret := rt) hy rfl ?_
  intro p e s m args below meth c s₁ B9 hml hv
  obtain ⟨rfl, hG, hP, hA1, hA2⟩ := hv
  have hts := atoms_spec (ws := Cond.code y cc mL rt :: WT) B9.pre
  have hb := body (p, gl g, e, (headSpec (Cond.code y cc mL rt :: WT) rm).room, s, m, as.toArray, below, meth, c, MQ below (QcN g A Qp) as.toArray s rm.cells rm.slots A) ⟨rfl, B9.returns⟩ (name_of_methodNamed B9.named B9.method).1
  rw [lg_entry_eq]
  exact hb ⟨B9.exec, B9.bytes, hml, findClass_of_methodNamed B9.named, fun w hw => hts w (List.mem_cons_of_mem _ hw), rfl, hG, B9.notSynchronized, rfl, hA1, hA2⟩ s.heap [] _ hP va_S.rf (Lh_entry hn hL)
section NVC
variable {γ : gT} {g : GT} {A : Nat → Prop} {cc bs : ByteArray} {nL mL : Nat} {own : String} {rm rm' : Room} {ws : va_W} {k n : Nat} {pc idx : Nat} {L : List (Option Value)} {st rest : List Value} {rt : Option FieldType} {Qp Qq : Option Value → va_W → Prop} {y : MethodName} {as : List Value}
theorem n_vret (E : EndN γ g A rm none Qp) (hq : Qp none ws) (hk : k ≤ rm.cells) (hn : n ≤ rm.slots) (d : decode cc pc = .ok (.return_, 1)) : NV γ g A cc nL own rm ws k n pc L [] := by
  obtain ⟨p, l, e, R, s, m, args, below, meth, c, Q⟩ := γ
  obtain ⟨rfl, hr⟩ := E
  intro C H locs ls hP hS hL
  exact W.widen hk hn (W.vret C.1 C.2.1 hr (fun t ht _ => ⟨⟨_, ws, rfl, hq, by rw [ht]; exact hP⟩, hS.F ht⟩) hS.2.2 d C.2.2.2.2.2.2.2.1)
theorem preN {s : State} {H : Heap} {locs : List Loc} (hG : Gc g s s.heap) (hP : WN g A ws H) (hS : va_S A s.heap H locs) (hA1 : ∀ a : Nat, s.heap.size ≤ a → A a) (hA2 : ∀ a : Nat, A a → AL g a) : ∀ U : State, U.heap = H → s.WarmedH U.vm → PcN g A as ws as.toArray U := fun U hU hW =>
  ⟨rfl, by rw [hU]; exact Gc_warm hG hW hS.1 (fun a h1 h2 => hS.2.1 a h1 (fun z => h2 (hA2 a z))), by rw [hU]; exact hP, fun a h => hA1 a (by rw [hU] at h; exact Nat.le_trans hS.1 h), hA2⟩
end NVC
