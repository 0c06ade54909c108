-- a walk inside a method, told over the memory alone
abbrev gT : Type := Program × Launch × Env × Room × State × MethodId × Array Value × List Frame × Method × Code × (State → Prop)
def gS (γ : gT) : State := γ.2.2.2.2.1
/-- the named ones of the frame's variables -/
def Lh (ls : Array Slot) (nL : Nat) (L : List (Option Value)) : Prop := ls.size = nL ∧ lv_wf ls ∧ ∀ (i : Nat) (v : Value), L[i]? = some (some v) → ls[i]? = some (.val v)
def lvA (L : List (Option Value)) : List (Nat × Value) := (List.range L.length).filterMap fun i => (L.getD i none).map fun v => (i, v)
theorem lvA_mem {L : List (Option Value)} {q : Nat × Value} : q ∈ lvA L ↔ L[q.1]? = some (some q.2) := by
  obtain ⟨i, v⟩ := q
  simp only [lvA, List.mem_filterMap, List.mem_range]
  constructor
  · rintro ⟨j, hj, h⟩
    cases hg : L.getD j none with
    | none => rw [hg] at h; cases h
    | some x =>
      rw [hg] at h
      cases h
      rw [List.getD_eq_getElem?_getD, List.getElem?_eq_getElem hj] at hg
      rw [List.getElem?_eq_getElem hj]
      exact congrArg some hg
  · intro h
    have hl : i < L.length := (List.getElem?_eq_some_iff.mp h).1
    exact ⟨i, hl, by rw [List.getD_eq_getElem?_getD, h]; rfl⟩
theorem Lh_has {ls : Array Slot} {nL : Nat} {L : List (Option Value)} (h : Lh ls nL L) : lv_has ls nL (lvA L) := ⟨h.1, h.2.1, fun q hq => h.2.2 q.1 q.2 (lvA_mem.mp hq)⟩
def okst (L : List (Option Value)) (i : Nat) : Bool := (i == 0) || (match L[i - 1]? with | some (some v) => v.category == 1 | _ => true)
theorem Lh_st {ls : Array Slot} {nL i : Nat} {x : Value} {L : List (Option Value)} (ho : okst L i = true) (h : lv_has ls nL ((i, x) :: (lvA L).filter (fun q => !(q.1 == i) && !(q.1 + 1 == i && q.2.category == 2)))) : Lh ls nL (L.set i (some x)) := by
  refine ⟨h.1, h.2.1, fun j v hj => h.2.2 (j, v) ?_⟩
  by_cases hji : j = i
  · subst hji
    rw [List.getElem?_set] at hj
    by_cases hl : j < L.length
    · simp [hl] at hj
      rw [hj]; exact List.mem_cons_self
    · simp [hl] at hj
  · rw [List.getElem?_set_ne (Ne.symm hji)] at hj
    refine List.mem_cons_of_mem _ (List.mem_filter.mpr ⟨lvA_mem.mpr hj, ?_⟩)
    simp only [Bool.and_eq_true, Bool.not_eq_true', beq_eq_false_iff_ne, ne_eq, hji, not_false_eq_true, true_and, Bool.and_eq_false_iff, beq_eq_false_iff_ne]
    by_cases hj1 : j + 1 = i
    · right
      have h1 : i - 1 = j := by omega
      have h0 : (i == 0) = false := by simp; omega
      unfold okst at ho
      rw [h0, h1, hj] at ho
      simp at ho
      omega
    · left; exact hj1
theorem Lh_st2 {ls : Array Slot} {nL i : Nat} {x : Value} {L : List (Option Value)} (ho : okst L i = true) (h : lv_has ls nL ((i, x) :: (lvA L).filter (fun q => !(q.1 == i) && (!(q.1 == i + 1) && !(q.1 + 1 == i && q.2.category == 2))))) : Lh ls nL ((L.set i (some x)).set (i + 1) none) := by
  refine ⟨h.1, h.2.1, fun j v hj => h.2.2 (j, v) ?_⟩
  by_cases hj2 : j = i + 1
  · subst hj2
    rw [List.getElem?_set] at hj
    by_cases hl : i + 1 < (L.set i (some x)).length
    · rw [if_pos rfl, if_pos hl] at hj; cases hj
    · rw [if_pos rfl, if_neg hl] at hj; cases hj
  rw [List.getElem?_set_ne (Ne.symm hj2)] at hj
  by_cases hji : j = i
  · subst hji
    rw [List.getElem?_set] at hj
    by_cases hl : j < L.length
    · simp [hl] at hj
      rw [hj]; exact List.mem_cons_self
    · simp [hl] at hj
  · rw [List.getElem?_set_ne (Ne.symm hji)] at hj
    refine List.mem_cons_of_mem _ (List.mem_filter.mpr ⟨lvA_mem.mpr hj, ?_⟩)
    simp only [Bool.and_eq_true, Bool.not_eq_true', beq_eq_false_iff_ne, ne_eq, hji, hj2, not_false_eq_true, true_and, Bool.and_eq_false_iff, beq_eq_false_iff_ne]
    by_cases hj1 : j + 1 = i
    · right
      have h1 : i - 1 = j := by omega
      have h0 : (i == 0) = false := by simp; omega
      unfold okst at ho
      rw [h0, h1, hj] at ho
      simp at ho
      omega
    · left; exact hj1
/-- fewer named ones -/
def Lsub : List (Option Value) → List (Option Value) → Prop
  | [], _ => True
  | none :: a, _ :: b => Lsub a b
  | none :: a, [] => Lsub a []
  | some v :: a, y :: b => y = some v ∧ Lsub a b
  | some _ :: _, [] => False
theorem Lsub_at : ∀ {a b : List (Option Value)}, Lsub a b → ∀ (i : Nat) (v : Value), a[i]? = some (some v) → b[i]? = some (some v)
  | [], _, _, i, v, h => by simp at h
  | none :: a, y :: b, hs, i, v, h => by
    cases i with
    | zero => simp at h
    | succ i => simpa using Lsub_at (a := a) (b := b) hs i v (by simpa using h)
  | none :: a, [], hs, i, v, h => by
    cases i with
    | zero => simp at h
    | succ i => have := Lsub_at (a := a) (b := []) hs i v (by simpa using h); simp at this
  | some x :: a, y :: b, hs, i, v, h => by
    cases i with
    | zero => simp at h; subst h; simp [hs.1]
    | succ i => simpa using Lsub_at (a := a) (b := b) hs.2 i v (by simpa using h)
  | some _ :: _, [], hs, _, _, _ => False.elim hs
/-- what holds of a walk: machine, code, tables, room -/
def Cx (γ : gT) (g : GT) (cc : ByteArray) (nL : Nat) (own : String) (rm : Room) : Prop := match γ with
  | (p, l, _, R, s, m, args, _, meth, c, _) => p.tables.exec = Jvm.exec ∧ c.code = cc ∧ c.maxLocals = nL ∧ s.vm.findClass own = some m.cls ∧ (∀ w ∈ WT, w.before args s = true) ∧ R = rm ∧ Gc g s s.heap ∧ meth.locks = false ∧ l = gl g
def WV (γ : gT) (H : Heap) (locs : List Loc) (k n : Nat) (pc : Nat) (ls : Array Slot) (st : List Value) : Prop := match γ with
  | (p, l, e, R, s, m, args, below, meth, c, Q) => W p l e R s m args below meth c H locs k n Q (F0 m pc ls st)
/-- THE JUDGEMENT: from the memory G, room used k n, at pc with the variables L and the stack st -/
def V (γ : gT) (g : GT) (cc : ByteArray) (nL : Nat) (own : String) (rm : Room) (G : Mem) (k n : Nat) (pc : Nat) (L : List (Option Value)) (st : List Value) : Prop :=
  Cx γ g cc nL own rm → ∀ (H : Heap) (locs : List Loc) (ls : Array Slot), WP g G H → va_S (AL g) (gS γ).heap H locs → Lh ls nL L → WV γ H locs k n pc ls st
section VL
variable {γ : gT} {g : GT} {cc : ByteArray} {nL : Nat} {own : String} {rm : Room} {G : Mem} {k n : Nat} {pc : Nat} {L : List (Option Value)} {st : List Value}
/-- a row of the kit that changes neither memory nor variables -/
theorem v_row {pc' : Nat} {st' : List Value} (h : ∀ (p : Program) (l : Launch) (e : Env) (R : Room) (s : State) (m : MethodId) (args : Array Value) (below : List Frame) (meth : Method) (c : Code) (Q : State → Prop) (H : Heap) (locs : List Loc) (ls : Array Slot), Cx (p, l, e, R, s, m, args, below, meth, c, Q) g cc nL own rm → Lh ls nL L → W p l e R s m args below meth c H locs k n Q (F0 m pc' ls st') → W p l e R s m args below meth c H locs k n Q (F0 m pc ls st)) (kk : V γ g cc nL own rm G k n pc' L st') : V γ g cc nL own rm G k n pc L st := by
  obtain ⟨p, l, e, R, s, m, args, below, meth, c, Q⟩ := γ
  exact fun C H locs ls hP hS hL => h p l e R s m args below meth c Q H locs ls C hL (kk C H locs ls hP hS hL)
theorem v_stk {st' : List Value} (e : st = st') (kk : V γ g cc nL own rm G k n pc L st') : V γ g cc nL own rm G k n pc L st := by rw [e]; exact kk
theorem v_top {a b : Int} (e : a = b) (kk : V γ g cc nL own rm G k n pc L (vI b :: st)) : V γ g cc nL own rm G k n pc L (vI a :: st) := by rw [e]; exact kk
theorem v_mem {G' : Mem} (e : ∀ i z, G' i z = G i z) (kk : V γ g cc nL own rm G' k n pc L st) : V γ g cc nL own rm G k n pc L st := by
  have : G = G' := funext fun i => funext fun z => (e i z).symm
  rw [this]; exact kk
theorem v_loc {L' : List (Option Value)} (h : Lsub L' L) (kk : V γ g cc nL own rm G k n pc L' st) : V γ g cc nL own rm G k n pc L st :=
  fun C H locs ls hP hS hL => kk C H locs ls hP hS ⟨hL.1, hL.2.1, fun i v hi => hL.2.2 i v (Lsub_at h i v hi)⟩
theorem v_wid {k' n' : Nat} (h1 : k ≤ k') (h2 : n ≤ n') (kk : V γ g cc nL own rm G k' n' pc L st) : V γ g cc nL own rm G k n pc L st := by
  obtain ⟨p, l, e, R, s, m, args, below, meth, c, Q⟩ := γ
  exact fun C H locs ls hP hS hL => W.widen h1 h2 (kk C H locs ls hP hS hL)

theorem v_iconst {z : Int} (d : decode cc pc = .ok (.iconst z, 1)) (kk : V γ g cc nL own rm G k n (pc + 1) L (vI z :: st)) : V γ g cc nL own rm G k n pc L (st) :=
  v_row (fun p l e R s m args below meth c Q H locs ls C hL q => lv_iconst C.1 C.2.1 d rfl q) kk
theorem v_bipush {z : Int} (h : (Int8.ofInt z).toInt32 = Int32.ofInt z) (d : decode cc pc = .ok (.bipush z, 2)) (kk : V γ g cc nL own rm G k n (pc + 2) L (vI z :: st)) : V γ g cc nL own rm G k n pc L (st) :=
  v_row (fun p l e R s m args below meth c Q H locs ls C hL q => lv_bipush C.1 C.2.1 d h q) kk
theorem v_sipush {z : Int} (h : (Int16.ofInt z).toInt32 = Int32.ofInt z) (d : decode cc pc = .ok (.sipush z, 3)) (kk : V γ g cc nL own rm G k n (pc + 3) L (vI z :: st)) : V γ g cc nL own rm G k n pc L (st) :=
  v_row (fun p l e R s m args below meth c Q H locs ls C hL q => lv_sipush C.1 C.2.1 d h q) kk
theorem v_lconst {i : Fin 2} {z : Int} (h : Int64.ofNat (i : Nat) = Int64.ofInt z) (d : decode cc pc = .ok (.lconst i, 1)) (kk : V γ g cc nL own rm G k n (pc + 1) L (vJ z :: st)) : V γ g cc nL own rm G k n pc L (st) :=
  v_row (fun p l e R s m args below meth c Q H locs ls C hL q => lv_lconst C.1 C.2.1 d h q) kk
theorem v_ldc2 {idx : Nat} {z : Int} {x : Int64} (hw : Cond.constantLong own idx x ∈ WT) (hx : x = Int64.ofInt z) (d : decode cc pc = .ok (.ldc2_w idx, 3)) (kk : V γ g cc nL own rm G k n (pc + 3) L (vJ z :: st)) : V γ g cc nL own rm G k n pc L st :=
  v_row (fun p l e R s m args below meth c Q H locs ls C hL q => lv_ldc2 C.1 C.2.1 C.2.2.2.1 (C.2.2.2.2.1 _ hw) d (by rw [hx]; exact q)) kk
theorem v_iload_n {i : Fin 4} {z : Int} (h : L[(i : Nat)]? = some (some (vI z))) (d : decode cc pc = .ok (.iload_n i, 1)) (kk : V γ g cc nL own rm G k n (pc + 1) L (vI z :: st)) : V γ g cc nL own rm G k n pc L st :=
  v_row (fun p l e R s m args below meth c Q H locs ls C hL q => lv_iload_n C.1 C.2.1 d rfl (hL.2.2 _ _ h) q) kk
theorem v_iload {i : Nat} {z : Int} (h : L[i]? = some (some (vI z))) (d : decode cc pc = .ok (.iload i, 2)) (kk : V γ g cc nL own rm G k n (pc + 2) L (vI z :: st)) : V γ g cc nL own rm G k n pc L st :=
  v_row (fun p l e R s m args below meth c Q H locs ls C hL q => lv_iload C.1 C.2.1 d (hL.2.2 _ _ h) q) kk
theorem v_aload_n {i : Fin 4} {a : Nat} (h : L[(i : Nat)]? = some (some (.ref a))) (d : decode cc pc = .ok (.aload_n i, 1)) (kk : V γ g cc nL own rm G k n (pc + 1) L (.ref a :: st)) : V γ g cc nL own rm G k n pc L st :=
  v_row (fun p l e R s m args below meth c Q H locs ls C hL q => lv_aload_n C.1 C.2.1 d rfl (hL.2.2 _ _ h) q) kk
theorem v_aload {i : Nat} {a : Nat} (h : L[i]? = some (some (.ref a))) (d : decode cc pc = .ok (.aload i, 2)) (kk : V γ g cc nL own rm G k n (pc + 2) L (.ref a :: st)) : V γ g cc nL own rm G k n pc L st :=
  v_row (fun p l e R s m args below meth c Q H locs ls C hL q => lv_aload C.1 C.2.1 d (hL.2.2 _ _ h) q) kk
theorem v_lload_n {i : Fin 4} {z : Int} (h : L[(i : Nat)]? = some (some (vJ z))) (d : decode cc pc = .ok (.lload_n i, 1)) (kk : V γ g cc nL own rm G k n (pc + 1) L (vJ z :: st)) : V γ g cc nL own rm G k n pc L st :=
  v_row (fun p l e R s m args below meth c Q H locs ls C hL q => lv_lload_n C.1 C.2.1 d rfl (hL.2.2 _ _ h) q) kk
theorem v_lload {i : Nat} {z : Int} (h : L[i]? = some (some (vJ z))) (d : decode cc pc = .ok (.lload i, 2)) (kk : V γ g cc nL own rm G k n (pc + 2) L (vJ z :: st)) : V γ g cc nL own rm G k n pc L st :=
  v_row (fun p l e R s m args below meth c Q H locs ls C hL q => lv_lload C.1 C.2.1 d (hL.2.2 _ _ h) q) kk
theorem v_fload_n {i : Fin 4} {z : UInt32} (h : L[(i : Nat)]? = some (some (.float z))) (d : decode cc pc = .ok (.fload_n i, 1)) (kk : V γ g cc nL own rm G k n (pc + 1) L (.float z :: st)) : V γ g cc nL own rm G k n pc L st :=
  v_row (fun p l e R s m args below meth c Q H locs ls C hL q => lv_fload_n C.1 C.2.1 d rfl (hL.2.2 _ _ h) q) kk
theorem v_fload {i : Nat} {z : UInt32} (h : L[i]? = some (some (.float z))) (d : decode cc pc = .ok (.fload i, 2)) (kk : V γ g cc nL own rm G k n (pc + 2) L (.float z :: st)) : V γ g cc nL own rm G k n pc L st :=
  v_row (fun p l e R s m args below meth c Q H locs ls C hL q => lv_fload C.1 C.2.1 d (hL.2.2 _ _ h) q) kk
theorem v_dload_n {i : Fin 4} {z : UInt64} (h : L[(i : Nat)]? = some (some (.double z))) (d : decode cc pc = .ok (.dload_n i, 1)) (kk : V γ g cc nL own rm G k n (pc + 1) L (.double z :: st)) : V γ g cc nL own rm G k n pc L st :=
  v_row (fun p l e R s m args below meth c Q H locs ls C hL q => lv_dload_n C.1 C.2.1 d rfl (hL.2.2 _ _ h) q) kk
theorem v_dload {i : Nat} {z : UInt64} (h : L[i]? = some (some (.double z))) (d : decode cc pc = .ok (.dload i, 2)) (kk : V γ g cc nL own rm G k n (pc + 2) L (.double z :: st)) : V γ g cc nL own rm G k n pc L st :=
  v_row (fun p l e R s m args below meth c Q H locs ls C hL q => lv_dload C.1 C.2.1 d (hL.2.2 _ _ h) q) kk
theorem v_istore_n {i : Fin 4} {z : Int} (hn : (i : Nat) < nL) (ho : okst L (i : Nat) = true) (d : decode cc pc = .ok (.istore_n i, 1)) (kk : V γ g cc nL own rm G k n (pc + 1) (L.set (i : Nat) (some (vI z))) st) : V γ g cc nL own rm G k n pc L (vI z :: st) := by
  obtain ⟨p, l, e, R, s, m, args, below, meth, c, Q⟩ := γ
  exact fun C H locs ls hP hS hL => lv_istore_n C.1 C.2.1 d rfl (Lh_has hL) hn rfl (fun ls2 h2 => kk C H locs ls2 hP hS (Lh_st ho h2))
theorem v_astore_n {i : Fin 4} {a : Nat} (hn : (i : Nat) < nL) (ho : okst L (i : Nat) = true) (d : decode cc pc = .ok (.astore_n i, 1)) (kk : V γ g cc nL own rm G k n (pc + 1) (L.set (i : Nat) (some (.ref a))) st) : V γ g cc nL own rm G k n pc L (.ref a :: st) := by
  obtain ⟨p, l, e, R, s, m, args, below, meth, c, Q⟩ := γ
  exact fun C H locs ls hP hS hL => lv_astore_n C.1 C.2.1 d rfl (Lh_has hL) hn rfl (fun ls2 h2 => kk C H locs ls2 hP hS (Lh_st ho h2))
theorem v_lstore_n {i : Fin 4} {z : Int} (hn : (i : Nat) + 1 < nL) (ho : okst L (i : Nat) = true) (d : decode cc pc = .ok (.lstore_n i, 1)) (kk : V γ g cc nL own rm G k n (pc + 1) ((L.set (i : Nat) (some (vJ z))).set ((i : Nat) + 1) none) st) : V γ g cc nL own rm G k n pc L (vJ z :: st) := by
  obtain ⟨p, l, e, R, s, m, args, below, meth, c, Q⟩ := γ
  exact fun C H locs ls hP hS hL => lv_lstore_n C.1 C.2.1 d rfl (Lh_has hL) hn rfl (fun ls2 h2 => kk C H locs ls2 hP hS (Lh_st2 ho h2))
theorem v_fstore_n {i : Fin 4} {z : UInt32} (hn : (i : Nat) < nL) (ho : okst L (i : Nat) = true) (d : decode cc pc = .ok (.fstore_n i, 1)) (kk : V γ g cc nL own rm G k n (pc + 1) (L.set (i : Nat) (some (.float z))) st) : V γ g cc nL own rm G k n pc L (.float z :: st) := by
  obtain ⟨p, l, e, R, s, m, args, below, meth, c, Q⟩ := γ
  exact fun C H locs ls hP hS hL => lv_fstore_n C.1 C.2.1 d rfl (Lh_has hL) hn rfl (fun ls2 h2 => kk C H locs ls2 hP hS (Lh_st ho h2))
theorem v_dstore_n {i : Fin 4} {z : UInt64} (hn : (i : Nat) + 1 < nL) (ho : okst L (i : Nat) = true) (d : decode cc pc = .ok (.dstore_n i, 1)) (kk : V γ g cc nL own rm G k n (pc + 1) ((L.set (i : Nat) (some (.double z))).set ((i : Nat) + 1) none) st) : V γ g cc nL own rm G k n pc L (.double z :: st) := by
  obtain ⟨p, l, e, R, s, m, args, below, meth, c, Q⟩ := γ
  exact fun C H locs ls hP hS hL => lv_dstore_n C.1 C.2.1 d rfl (Lh_has hL) hn rfl (fun ls2 h2 => kk C H locs ls2 hP hS (Lh_st2 ho h2))
theorem v_istore {i : Nat} {z : Int} (hn : i < nL) (ho : okst L i = true) (d : decode cc pc = .ok (.istore i, 2)) (kk : V γ g cc nL own rm G k n (pc + 2) (L.set i (some (vI z))) st) : V γ g cc nL own rm G k n pc L (vI z :: st) := by
  obtain ⟨p, l, e, R, s, m, args, below, meth, c, Q⟩ := γ
  exact fun C H locs ls hP hS hL => lv_istore C.1 C.2.1 d (Lh_has hL) hn rfl (fun ls2 h2 => kk C H locs ls2 hP hS (Lh_st ho h2))
theorem v_astore {i : Nat} {a : Nat} (hn : i < nL) (ho : okst L i = true) (d : decode cc pc = .ok (.astore i, 2)) (kk : V γ g cc nL own rm G k n (pc + 2) (L.set i (some (.ref a))) st) : V γ g cc nL own rm G k n pc L (.ref a :: st) := by
  obtain ⟨p, l, e, R, s, m, args, below, meth, c, Q⟩ := γ
  exact fun C H locs ls hP hS hL => lv_astore C.1 C.2.1 d (Lh_has hL) hn rfl (fun ls2 h2 => kk C H locs ls2 hP hS (Lh_st ho h2))
theorem v_lstore {i : Nat} {z : Int} (hn : i + 1 < nL) (ho : okst L i = true) (d : decode cc pc = .ok (.lstore i, 2)) (kk : V γ g cc nL own rm G k n (pc + 2) ((L.set i (some (vJ z))).set (i + 1) none) st) : V γ g cc nL own rm G k n pc L (vJ z :: st) := by
  obtain ⟨p, l, e, R, s, m, args, below, meth, c, Q⟩ := γ
  exact fun C H locs ls hP hS hL => lv_lstore C.1 C.2.1 d (Lh_has hL) hn rfl (fun ls2 h2 => kk C H locs ls2 hP hS (Lh_st2 ho h2))
theorem v_fstore {i : Nat} {z : UInt32} (hn : i < nL) (ho : okst L i = true) (d : decode cc pc = .ok (.fstore i, 2)) (kk : V γ g cc nL own rm G k n (pc + 2) (L.set i (some (.float z))) st) : V γ g cc nL own rm G k n pc L (.float z :: st) := by
  obtain ⟨p, l, e, R, s, m, args, below, meth, c, Q⟩ := γ
  exact fun C H locs ls hP hS hL => lv_fstore C.1 C.2.1 d (Lh_has hL) hn rfl (fun ls2 h2 => kk C H locs ls2 hP hS (Lh_st ho h2))
theorem v_dstore {i : Nat} {z : UInt64} (hn : i + 1 < nL) (ho : okst L i = true) (d : decode cc pc = .ok (.dstore i, 2)) (kk : V γ g cc nL own rm G k n (pc + 2) ((L.set i (some (.double z))).set (i + 1) none) st) : V γ g cc nL own rm G k n pc L (.double z :: st) := by
  obtain ⟨p, l, e, R, s, m, args, below, meth, c, Q⟩ := γ
  exact fun C H locs ls hP hS hL => lv_dstore C.1 C.2.1 d (Lh_has hL) hn rfl (fun ls2 h2 => kk C H locs ls2 hP hS (Lh_st2 ho h2))
theorem v_iinc {i : Nat} {y z : Int} (h : L[i]? = some (some (vI z))) (hn : i < nL) (ho : okst L i = true) (d : decode cc pc = .ok (.iinc i y, 3)) (kk : V γ g cc nL own rm G k n (pc + 3) (L.set i (some (vI (z + y)))) st) : V γ g cc nL own rm G k n pc L st := by
  obtain ⟨p, l, e, R, s, m, args, below, meth, c, Q⟩ := γ
  intro C H locs ls hP hS hL
  obtain ⟨j, hj⟩ := List.getElem?_of_mem ((lvA_mem (q := (i, vI z))).mpr h)
  exact lv_iinc (k := j) C.1 C.2.1 d (Lh_has hL) hj (i32_add z y) hn rfl (fun ls2 h2 => kk C H locs ls2 hP hS (Lh_st ho h2))
theorem v_dup {v : Value} (h : v.category = 1) (d : decode cc pc = .ok (.dup, 1)) (kk : V γ g cc nL own rm G k n (pc + 1) L (v :: v :: st)) : V γ g cc nL own rm G k n pc L (v :: st) :=
  v_row (fun p l e R s m args below meth c Q H locs ls C hL q => lv_dup C.1 C.2.1 d h q) kk
theorem v_dup_x1 {v u : Value} (h : v.category = 1) (h2 : u.category = 1) (d : decode cc pc = .ok (.dup_x1, 1)) (kk : V γ g cc nL own rm G k n (pc + 1) L (v :: u :: v :: st)) : V γ g cc nL own rm G k n pc L (v :: u :: st) :=
  v_row (fun p l e R s m args below meth c Q H locs ls C hL q => lv_dup_x1 C.1 C.2.1 d h h2 q) kk
theorem v_pop {v : Value} (h : v.category = 1) (d : decode cc pc = .ok (.pop, 1)) (kk : V γ g cc nL own rm G k n (pc + 1) L (st)) : V γ g cc nL own rm G k n pc L (v :: st) :=
  v_row (fun p l e R s m args below meth c Q H locs ls C hL q => lv_pop C.1 C.2.1 d h q) kk
theorem v_dup2 {v u : Value} (h : v.category = 1) (h2 : u.category = 1) (d : decode cc pc = .ok (.dup2, 1)) (kk : V γ g cc nL own rm G k n (pc + 1) L (v :: u :: v :: u :: st)) : V γ g cc nL own rm G k n pc L (v :: u :: st) :=
  v_row (fun p l e R s m args below meth c Q H locs ls C hL q => lv_dup2_11 C.1 C.2.1 d h h2 q) kk
theorem v_iadd {a b : Int} (d : decode cc pc = .ok (.iadd, 1)) (kk : V γ g cc nL own rm G k n (pc + 1) L (vI (a + b) :: st)) : V γ g cc nL own rm G k n pc L (vI b :: vI a :: st) :=
  v_row (fun p l e R s m args below meth c Q H locs ls C hL q => lv_iadd C.1 C.2.1 d (by rw [i32_add]; exact q)) kk
theorem v_isub {a b : Int} (d : decode cc pc = .ok (.isub, 1)) (kk : V γ g cc nL own rm G k n (pc + 1) L (vI (a - b) :: st)) : V γ g cc nL own rm G k n pc L (vI b :: vI a :: st) :=
  v_row (fun p l e R s m args below meth c Q H locs ls C hL q => lv_isub C.1 C.2.1 d (by rw [i32_sub]; exact q)) kk
theorem v_imul {a b : Int} (d : decode cc pc = .ok (.imul, 1)) (kk : V γ g cc nL own rm G k n (pc + 1) L (vI (a * b) :: st)) : V γ g cc nL own rm G k n pc L (vI b :: vI a :: st) :=
  v_row (fun p l e R s m args below meth c Q H locs ls C hL q => lv_imul C.1 C.2.1 d (by rw [i32_mul]; exact q)) kk
theorem i32_div {a b : Int} (ha : 0 ≤ a ∧ a < 2147483648) (hb : 0 < b ∧ b < 2147483648) : Int32.ofInt a / Int32.ofInt b = Int32.ofInt (a / b) := by
  obtain ⟨x, rfl⟩ := Int.eq_ofNat_of_zero_le ha.1
  obtain ⟨y, rfl⟩ := Int.eq_ofNat_of_zero_le (Int.le_of_lt hb.1)
  exact pk_div (a := x) (d := y) (by omega) (by omega) (by omega)
theorem i32_ne {b : Int} (hb : 0 < b ∧ b < 2147483648) : ¬ Int32.ofInt b = 0 := by
  intro h
  have := (i32_ee (a := b) (b := 0) (by omega)).mp h
  omega
theorem i32_rem {a b : Int} (ha : 0 ≤ a ∧ a < 2147483648) (hb : 0 < b ∧ b < 2147483648) : Int32.ofInt a - Int32.ofInt a / Int32.ofInt b * Int32.ofInt b = Int32.ofInt (a % b) := by
  rw [i32_div ha hb, i32_mul, i32_sub]
  congr 1
  have := Int.emod_add_mul_ediv a b
  rw [Int.mul_comm] at this
  omega
theorem v_idiv {a b : Int} (ha : 0 ≤ a ∧ a < 2147483648) (hb : 0 < b ∧ b < 2147483648) (d : decode cc pc = .ok (.idiv, 1)) (kk : V γ g cc nL own rm G k n (pc + 1) L (vI (a / b) :: st)) : V γ g cc nL own rm G k n pc L (vI b :: vI a :: st) :=
  v_row (fun p l e R s m args below meth c Q H locs ls C hL q => lv_idiv C.1 C.2.1 d (i32_ne hb) (by rw [i32_div ha hb]; exact q)) kk
theorem v_irem {a b : Int} (ha : 0 ≤ a ∧ a < 2147483648) (hb : 0 < b ∧ b < 2147483648) (d : decode cc pc = .ok (.irem, 1)) (kk : V γ g cc nL own rm G k n (pc + 1) L (vI (a % b) :: st)) : V γ g cc nL own rm G k n pc L (vI b :: vI a :: st) :=
  v_row (fun p l e R s m args below meth c Q H locs ls C hL q => lv_irem C.1 C.2.1 d (i32_ne hb) (by first | (rw [i32_rem ha hb]; exact q) | (rw [← i32_rem ha hb] at q; exact q))) kk
theorem v_i2l {a : Int} (h : -2147483648 ≤ a ∧ a < 2147483648) (d : decode cc pc = .ok (.i2l, 1)) (kk : V γ g cc nL own rm G k n (pc + 1) L (vJ a :: st)) : V γ g cc nL own rm G k n pc L (vI a :: st) :=
  v_row (fun p l e R s m args below meth c Q H locs ls C hL q => lv_i2l C.1 C.2.1 d (i32_l h.1 h.2) q) kk
theorem i32_c (z : Int) : ((Int32.ofInt z).toUInt32 % 65536).toInt32 = Int32.ofInt (z % 65536) := by
  rw [pk_char]
  have h : (Int32.ofInt z).toBitVec.toNat = (z % 4294967296).toNat := by
    show (BitVec.ofInt 32 z).toNat = _
    rw [BitVec.toNat_ofInt]
    rfl
  rw [h]
  show Int32.ofInt (((z % 4294967296).toNat % 65536 : Nat) : Int) = _
  congr 1
  omega
theorem v_i2c {a : Int} (d : decode cc pc = .ok (.i2c, 1)) (kk : V γ g cc nL own rm G k n (pc + 1) L (vI (a % 65536) :: st)) : V γ g cc nL own rm G k n pc L (vI a :: st) :=
  v_row (fun p l e R s m args below meth c Q H locs ls C hL q => lv_i2c C.1 C.2.1 d (i32_c a) q) kk
theorem v_if_eq {a : Int} {off : Int} {tgt : Nat} (h : -2147483648 ≤ a ∧ a < 2147483648) (d : decode cc pc = .ok (.ifCond .eq off, 3)) (ht : (pc : Int) + off = (tgt : Int)) (kt : a = 0 → V γ g cc nL own rm G k n tgt L st) (kf : a ≠ 0 → V γ g cc nL own rm G k n (pc + 3) L st) : V γ g cc nL own rm G k n pc L (vI a :: st) := by
  have hq : -2147483648 ≤ a ∧ a < 2147483648 ∧ -2147483648 ≤ (0 : Int) ∧ (0 : Int) < 2147483648 := (⟨h.1, h.2, by decide, by decide⟩ : -2147483648 ≤ a ∧ a < 2147483648 ∧ -2147483648 ≤ (0 : Int) ∧ (0 : Int) < 2147483648)
  have hi := i32_ee (a := a) (b := 0) hq
  obtain ⟨p, l, e, R, s, m, args, below, meth, c, Q⟩ := γ
  intro C H locs ls hP hS hL
  refine lv_if_eq C.1 C.2.1 d ht (fun z => kt ?_ C H locs ls hP hS hL) (fun z => kf ?_ C H locs ls hP hS hL)
  · exact hi.mp z
  · exact fun q => z (hi.mpr q)
theorem v_icmp_eq {a b : Int} {off : Int} {tgt : Nat} (h : -2147483648 ≤ a ∧ a < 2147483648 ∧ -2147483648 ≤ b ∧ b < 2147483648) (d : decode cc pc = .ok (.if_icmp .eq off, 3)) (ht : (pc : Int) + off = (tgt : Int)) (kt : a = b → V γ g cc nL own rm G k n tgt L st) (kf : a ≠ b → V γ g cc nL own rm G k n (pc + 3) L st) : V γ g cc nL own rm G k n pc L (vI b :: vI a :: st) := by
  have hq : -2147483648 ≤ a ∧ a < 2147483648 ∧ -2147483648 ≤ (b : Int) ∧ (b : Int) < 2147483648 := h
  have hi := i32_ee (a := a) (b := b) hq
  obtain ⟨p, l, e, R, s, m, args, below, meth, c, Q⟩ := γ
  intro C H locs ls hP hS hL
  refine lv_icmp_eq C.1 C.2.1 d ht (fun z => kt ?_ C H locs ls hP hS hL) (fun z => kf ?_ C H locs ls hP hS hL)
  · exact hi.mp z
  · exact fun q => z (hi.mpr q)
theorem v_if_ne {a : Int} {off : Int} {tgt : Nat} (h : -2147483648 ≤ a ∧ a < 2147483648) (d : decode cc pc = .ok (.ifCond .ne off, 3)) (ht : (pc : Int) + off = (tgt : Int)) (kt : a ≠ 0 → V γ g cc nL own rm G k n tgt L st) (kf : a = 0 → V γ g cc nL own rm G k n (pc + 3) L st) : V γ g cc nL own rm G k n pc L (vI a :: st) := by
  have hq : -2147483648 ≤ a ∧ a < 2147483648 ∧ -2147483648 ≤ (0 : Int) ∧ (0 : Int) < 2147483648 := (⟨h.1, h.2, by decide, by decide⟩ : -2147483648 ≤ a ∧ a < 2147483648 ∧ -2147483648 ≤ (0 : Int) ∧ (0 : Int) < 2147483648)
  have hi := i32_ee (a := a) (b := 0) hq
  obtain ⟨p, l, e, R, s, m, args, below, meth, c, Q⟩ := γ
  intro C H locs ls hP hS hL
  refine lv_if_ne C.1 C.2.1 d ht (fun z => kt ?_ C H locs ls hP hS hL) (fun z => kf ?_ C H locs ls hP hS hL)
  · exact fun q => z (hi.mpr q)
  · exact hi.mp z
theorem v_icmp_ne {a b : Int} {off : Int} {tgt : Nat} (h : -2147483648 ≤ a ∧ a < 2147483648 ∧ -2147483648 ≤ b ∧ b < 2147483648) (d : decode cc pc = .ok (.if_icmp .ne off, 3)) (ht : (pc : Int) + off = (tgt : Int)) (kt : a ≠ b → V γ g cc nL own rm G k n tgt L st) (kf : a = b → V γ g cc nL own rm G k n (pc + 3) L st) : V γ g cc nL own rm G k n pc L (vI b :: vI a :: st) := by
  have hq : -2147483648 ≤ a ∧ a < 2147483648 ∧ -2147483648 ≤ (b : Int) ∧ (b : Int) < 2147483648 := h
  have hi := i32_ee (a := a) (b := b) hq
  obtain ⟨p, l, e, R, s, m, args, below, meth, c, Q⟩ := γ
  intro C H locs ls hP hS hL
  refine lv_icmp_ne C.1 C.2.1 d ht (fun z => kt ?_ C H locs ls hP hS hL) (fun z => kf ?_ C H locs ls hP hS hL)
  · exact fun q => z (hi.mpr q)
  · exact hi.mp z
theorem v_if_lt {a : Int} {off : Int} {tgt : Nat} (h : -2147483648 ≤ a ∧ a < 2147483648) (d : decode cc pc = .ok (.ifCond .lt off, 3)) (ht : (pc : Int) + off = (tgt : Int)) (kt : a < 0 → V γ g cc nL own rm G k n tgt L st) (kf : 0 ≤ a → V γ g cc nL own rm G k n (pc + 3) L st) : V γ g cc nL own rm G k n pc L (vI a :: st) := by
  have hq : -2147483648 ≤ a ∧ a < 2147483648 ∧ -2147483648 ≤ (0 : Int) ∧ (0 : Int) < 2147483648 := (⟨h.1, h.2, by decide, by decide⟩ : -2147483648 ≤ a ∧ a < 2147483648 ∧ -2147483648 ≤ (0 : Int) ∧ (0 : Int) < 2147483648)
  have hi := i32_lt (a := a) (b := 0) hq
  obtain ⟨p, l, e, R, s, m, args, below, meth, c, Q⟩ := γ
  intro C H locs ls hP hS hL
  refine lv_if_lt C.1 C.2.1 d ht (fun z => kt ?_ C H locs ls hP hS hL) (fun z => kf ?_ C H locs ls hP hS hL)
  · exact hi.mp z
  · exact Int.not_lt.mp (fun q => z (hi.mpr q))
theorem v_icmp_lt {a b : Int} {off : Int} {tgt : Nat} (h : -2147483648 ≤ a ∧ a < 2147483648 ∧ -2147483648 ≤ b ∧ b < 2147483648) (d : decode cc pc = .ok (.if_icmp .lt off, 3)) (ht : (pc : Int) + off = (tgt : Int)) (kt : a < b → V γ g cc nL own rm G k n tgt L st) (kf : b ≤ a → V γ g cc nL own rm G k n (pc + 3) L st) : V γ g cc nL own rm G k n pc L (vI b :: vI a :: st) := by
  have hq : -2147483648 ≤ a ∧ a < 2147483648 ∧ -2147483648 ≤ (b : Int) ∧ (b : Int) < 2147483648 := h
  have hi := i32_lt (a := a) (b := b) hq
  obtain ⟨p, l, e, R, s, m, args, below, meth, c, Q⟩ := γ
  intro C H locs ls hP hS hL
  refine lv_icmp_lt C.1 C.2.1 d ht (fun z => kt ?_ C H locs ls hP hS hL) (fun z => kf ?_ C H locs ls hP hS hL)
  · exact hi.mp z
  · exact Int.not_lt.mp (fun q => z (hi.mpr q))
theorem v_if_ge {a : Int} {off : Int} {tgt : Nat} (h : -2147483648 ≤ a ∧ a < 2147483648) (d : decode cc pc = .ok (.ifCond .ge off, 3)) (ht : (pc : Int) + off = (tgt : Int)) (kt : 0 ≤ a → V γ g cc nL own rm G k n tgt L st) (kf : a < 0 → V γ g cc nL own rm G k n (pc + 3) L st) : V γ g cc nL own rm G k n pc L (vI a :: st) := by
  have hq : -2147483648 ≤ a ∧ a < 2147483648 ∧ -2147483648 ≤ (0 : Int) ∧ (0 : Int) < 2147483648 := (⟨h.1, h.2, by decide, by decide⟩ : -2147483648 ≤ a ∧ a < 2147483648 ∧ -2147483648 ≤ (0 : Int) ∧ (0 : Int) < 2147483648)
  have hi := i32_le (a := 0) (b := a) (⟨hq.2.2.1, hq.2.2.2, hq.1, hq.2.1⟩)
  obtain ⟨p, l, e, R, s, m, args, below, meth, c, Q⟩ := γ
  intro C H locs ls hP hS hL
  refine lv_if_ge C.1 C.2.1 d ht (fun z => kt ?_ C H locs ls hP hS hL) (fun z => kf ?_ C H locs ls hP hS hL)
  · exact hi.mp z
  · exact Int.not_le.mp (fun q => z (hi.mpr q))
theorem v_icmp_ge {a b : Int} {off : Int} {tgt : Nat} (h : -2147483648 ≤ a ∧ a < 2147483648 ∧ -2147483648 ≤ b ∧ b < 2147483648) (d : decode cc pc = .ok (.if_icmp .ge off, 3)) (ht : (pc : Int) + off = (tgt : Int)) (kt : b ≤ a → V γ g cc nL own rm G k n tgt L st) (kf : a < b → V γ g cc nL own rm G k n (pc + 3) L st) : V γ g cc nL own rm G k n pc L (vI b :: vI a :: st) := by
  have hq : -2147483648 ≤ a ∧ a < 2147483648 ∧ -2147483648 ≤ (b : Int) ∧ (b : Int) < 2147483648 := h
  have hi := i32_le (a := b) (b := a) (⟨hq.2.2.1, hq.2.2.2, hq.1, hq.2.1⟩)
  obtain ⟨p, l, e, R, s, m, args, below, meth, c, Q⟩ := γ
  intro C H locs ls hP hS hL
  refine lv_icmp_ge C.1 C.2.1 d ht (fun z => kt ?_ C H locs ls hP hS hL) (fun z => kf ?_ C H locs ls hP hS hL)
  · exact hi.mp z
  · exact Int.not_le.mp (fun q => z (hi.mpr q))
theorem v_if_gt {a : Int} {off : Int} {tgt : Nat} (h : -2147483648 ≤ a ∧ a < 2147483648) (d : decode cc pc = .ok (.ifCond .gt off, 3)) (ht : (pc : Int) + off = (tgt : Int)) (kt : 0 < a → V γ g cc nL own rm G k n tgt L st) (kf : a ≤ 0 → V γ g cc nL own rm G k n (pc + 3) L st) : V γ g cc nL own rm G k n pc L (vI a :: st) := by
  have hq : -2147483648 ≤ a ∧ a < 2147483648 ∧ -2147483648 ≤ (0 : Int) ∧ (0 : Int) < 2147483648 := (⟨h.1, h.2, by decide, by decide⟩ : -2147483648 ≤ a ∧ a < 2147483648 ∧ -2147483648 ≤ (0 : Int) ∧ (0 : Int) < 2147483648)
  have hi := i32_lt (a := 0) (b := a) (⟨hq.2.2.1, hq.2.2.2, hq.1, hq.2.1⟩)
  obtain ⟨p, l, e, R, s, m, args, below, meth, c, Q⟩ := γ
  intro C H locs ls hP hS hL
  refine lv_if_gt C.1 C.2.1 d ht (fun z => kt ?_ C H locs ls hP hS hL) (fun z => kf ?_ C H locs ls hP hS hL)
  · exact hi.mp z
  · exact Int.not_lt.mp (fun q => z (hi.mpr q))
theorem v_icmp_gt {a b : Int} {off : Int} {tgt : Nat} (h : -2147483648 ≤ a ∧ a < 2147483648 ∧ -2147483648 ≤ b ∧ b < 2147483648) (d : decode cc pc = .ok (.if_icmp .gt off, 3)) (ht : (pc : Int) + off = (tgt : Int)) (kt : b < a → V γ g cc nL own rm G k n tgt L st) (kf : a ≤ b → V γ g cc nL own rm G k n (pc + 3) L st) : V γ g cc nL own rm G k n pc L (vI b :: vI a :: st) := by
  have hq : -2147483648 ≤ a ∧ a < 2147483648 ∧ -2147483648 ≤ (b : Int) ∧ (b : Int) < 2147483648 := h
  have hi := i32_lt (a := b) (b := a) (⟨hq.2.2.1, hq.2.2.2, hq.1, hq.2.1⟩)
  obtain ⟨p, l, e, R, s, m, args, below, meth, c, Q⟩ := γ
  intro C H locs ls hP hS hL
  refine lv_icmp_gt C.1 C.2.1 d ht (fun z => kt ?_ C H locs ls hP hS hL) (fun z => kf ?_ C H locs ls hP hS hL)
  · exact hi.mp z
  · exact Int.not_lt.mp (fun q => z (hi.mpr q))
theorem v_if_le {a : Int} {off : Int} {tgt : Nat} (h : -2147483648 ≤ a ∧ a < 2147483648) (d : decode cc pc = .ok (.ifCond .le off, 3)) (ht : (pc : Int) + off = (tgt : Int)) (kt : a ≤ 0 → V γ g cc nL own rm G k n tgt L st) (kf : 0 < a → V γ g cc nL own rm G k n (pc + 3) L st) : V γ g cc nL own rm G k n pc L (vI a :: st) := by
  have hq : -2147483648 ≤ a ∧ a < 2147483648 ∧ -2147483648 ≤ (0 : Int) ∧ (0 : Int) < 2147483648 := (⟨h.1, h.2, by decide, by decide⟩ : -2147483648 ≤ a ∧ a < 2147483648 ∧ -2147483648 ≤ (0 : Int) ∧ (0 : Int) < 2147483648)
  have hi := i32_le (a := a) (b := 0) hq
  obtain ⟨p, l, e, R, s, m, args, below, meth, c, Q⟩ := γ
  intro C H locs ls hP hS hL
  refine lv_if_le C.1 C.2.1 d ht (fun z => kt ?_ C H locs ls hP hS hL) (fun z => kf ?_ C H locs ls hP hS hL)
  · exact hi.mp z
  · exact Int.not_le.mp (fun q => z (hi.mpr q))
theorem v_icmp_le {a b : Int} {off : Int} {tgt : Nat} (h : -2147483648 ≤ a ∧ a < 2147483648 ∧ -2147483648 ≤ b ∧ b < 2147483648) (d : decode cc pc = .ok (.if_icmp .le off, 3)) (ht : (pc : Int) + off = (tgt : Int)) (kt : a ≤ b → V γ g cc nL own rm G k n tgt L st) (kf : b < a → V γ g cc nL own rm G k n (pc + 3) L st) : V γ g cc nL own rm G k n pc L (vI b :: vI a :: st) := by
  have hq : -2147483648 ≤ a ∧ a < 2147483648 ∧ -2147483648 ≤ (b : Int) ∧ (b : Int) < 2147483648 := h
  have hi := i32_le (a := a) (b := b) hq
  obtain ⟨p, l, e, R, s, m, args, below, meth, c, Q⟩ := γ
  intro C H locs ls hP hS hL
  refine lv_icmp_le C.1 C.2.1 d ht (fun z => kt ?_ C H locs ls hP hS hL) (fun z => kf ?_ C H locs ls hP hS hL)
  · exact hi.mp z
  · exact Int.not_le.mp (fun q => z (hi.mpr q))
theorem v_goto {off : Int} {tgt : Nat} (d : decode cc pc = .ok (.goto off, 3)) (ht : (pc : Int) + off = (tgt : Int)) (kk : V γ g cc nL own rm G k n tgt L st) : V γ g cc nL own rm G k n pc L st :=
  v_row (fun p l e R s m args below meth c Q H locs ls C hL q => lv_goto C.1 C.2.1 d ht q) kk
theorem v_table {dflt lo hi : Int} {offs : Array Int} {len : Nat} {z off : Int} {tgt : Nat} (hz : -2147483648 ≤ z ∧ z < 2147483648) (h1 : lo ≤ z) (h2 : z ≤ hi) (ho : offs[(z - lo).toNat]? = some off) (d : decode cc pc = .ok (.tableswitch dflt lo hi offs, len)) (ht : (pc : Int) + off = (tgt : Int)) (kk : V γ g cc nL own rm G k n tgt L st) : V γ g cc nL own rm G k n pc L (vI z :: st) :=
  v_row (fun p l e R s m args below meth c Q H locs ls C hL q => lv_tableIn C.1 C.2.1 d (by rw [i32_to hz.1 hz.2]; omega) (by rw [i32_to hz.1 hz.2]; omega) (by rw [i32_to hz.1 hz.2]; exact ho) ht q) kk
theorem v_tabled {dflt lo hi : Int} {offs : Array Int} {len : Nat} {z : Int} {tgt : Nat} (hz : -2147483648 ≤ z ∧ z < 2147483648) (h : z < lo ∨ hi < z) (d : decode cc pc = .ok (.tableswitch dflt lo hi offs, len)) (ht : (pc : Int) + dflt = (tgt : Int)) (kk : V γ g cc nL own rm G k n tgt L st) : V γ g cc nL own rm G k n pc L (vI z :: st) :=
  v_row (fun p l e R s m args below meth c Q H locs ls C hL q => lv_tableOut C.1 C.2.1 d (by rw [i32_to hz.1 hz.2]; omega) ht q) kk
/-- compare two longs -/
def cm (a b : Int) : Int := if b < a then 1 else if a = b then 0 else -1
theorem cm_r (a b : Int) : -2147483648 ≤ cm a b ∧ cm a b < 2147483648 := by
  unfold cm
  split
  · omega
  · split <;> omega
theorem lg_cm {a b : Int} (ha : -9223372036854775808 ≤ a ∧ a < 9223372036854775808) (hb : -9223372036854775808 ≤ b ∧ b < 9223372036854775808) : lg_cmp (Int64.ofInt a) (Int64.ofInt b) = Int32.ofInt (cm a b) := by
  unfold lg_cmp cm
  simp only [gt_iff_lt, Int64.lt_iff_toInt_lt, ← Int64.toInt_inj, i64_to ha.1 ha.2, i64_to hb.1 hb.2]
  split
  · rfl
  · split <;> rfl
theorem v_lcmp {a b : Int} (ha : -9223372036854775808 ≤ a ∧ a < 9223372036854775808) (hb : -9223372036854775808 ≤ b ∧ b < 9223372036854775808) (d : decode cc pc = .ok (.lcmp, 1)) (kk : V γ g cc nL own rm G k n (pc + 1) L (vI (cm a b) :: st)) : V γ g cc nL own rm G k n pc L (vJ b :: vJ a :: st) :=
  v_row (fun p l e R s m args below meth c Q H locs ls C hL q => W.lcmp C.1 C.2.1 d (by rw [lg_cm ha hb]; exact q)) kk
theorem v_lc_eq {a b : Int} {off : Int} {tgt : Nat} (ha : -9223372036854775808 ≤ a ∧ a < 9223372036854775808) (hb : -9223372036854775808 ≤ b ∧ b < 9223372036854775808) (d : decode cc pc = .ok (.lcmp, 1)) (d2 : decode cc (pc + 1) = .ok (.ifCond .eq off, 3)) (ht : ((pc + 1 : Nat) : Int) + off = (tgt : Int)) (kt : a = b → V γ g cc nL own rm G k n tgt L st) (kf : a ≠ b → V γ g cc nL own rm G k n (pc + 4) L st) : V γ g cc nL own rm G k n pc L (vJ b :: vJ a :: st) :=
  v_lcmp ha hb d (v_if_eq (cm_r a b) d2 ht (fun q => kt (by unfold cm at q; revert q; split <;> (try split) <;> omega)) (fun q => kf (by unfold cm at q; revert q; split <;> (try split) <;> omega)))
theorem v_lc_ne {a b : Int} {off : Int} {tgt : Nat} (ha : -9223372036854775808 ≤ a ∧ a < 9223372036854775808) (hb : -9223372036854775808 ≤ b ∧ b < 9223372036854775808) (d : decode cc pc = .ok (.lcmp, 1)) (d2 : decode cc (pc + 1) = .ok (.ifCond .ne off, 3)) (ht : ((pc + 1 : Nat) : Int) + off = (tgt : Int)) (kt : a ≠ b → V γ g cc nL own rm G k n tgt L st) (kf : a = b → V γ g cc nL own rm G k n (pc + 4) L st) : V γ g cc nL own rm G k n pc L (vJ b :: vJ a :: st) :=
  v_lcmp ha hb d (v_if_ne (cm_r a b) d2 ht (fun q => kt (by unfold cm at q; revert q; split <;> (try split) <;> omega)) (fun q => kf (by unfold cm at q; revert q; split <;> (try split) <;> omega)))
theorem v_lc_lt {a b : Int} {off : Int} {tgt : Nat} (ha : -9223372036854775808 ≤ a ∧ a < 9223372036854775808) (hb : -9223372036854775808 ≤ b ∧ b < 9223372036854775808) (d : decode cc pc = .ok (.lcmp, 1)) (d2 : decode cc (pc + 1) = .ok (.ifCond .lt off, 3)) (ht : ((pc + 1 : Nat) : Int) + off = (tgt : Int)) (kt : a < b → V γ g cc nL own rm G k n tgt L st) (kf : b ≤ a → V γ g cc nL own rm G k n (pc + 4) L st) : V γ g cc nL own rm G k n pc L (vJ b :: vJ a :: st) :=
  v_lcmp ha hb d (v_if_lt (cm_r a b) d2 ht (fun q => kt (by unfold cm at q; revert q; split <;> (try split) <;> omega)) (fun q => kf (by unfold cm at q; revert q; split <;> (try split) <;> omega)))
theorem v_lc_ge {a b : Int} {off : Int} {tgt : Nat} (ha : -9223372036854775808 ≤ a ∧ a < 9223372036854775808) (hb : -9223372036854775808 ≤ b ∧ b < 9223372036854775808) (d : decode cc pc = .ok (.lcmp, 1)) (d2 : decode cc (pc + 1) = .ok (.ifCond .ge off, 3)) (ht : ((pc + 1 : Nat) : Int) + off = (tgt : Int)) (kt : b ≤ a → V γ g cc nL own rm G k n tgt L st) (kf : a < b → V γ g cc nL own rm G k n (pc + 4) L st) : V γ g cc nL own rm G k n pc L (vJ b :: vJ a :: st) :=
  v_lcmp ha hb d (v_if_ge (cm_r a b) d2 ht (fun q => kt (by unfold cm at q; revert q; split <;> (try split) <;> omega)) (fun q => kf (by unfold cm at q; revert q; split <;> (try split) <;> omega)))
theorem v_lc_gt {a b : Int} {off : Int} {tgt : Nat} (ha : -9223372036854775808 ≤ a ∧ a < 9223372036854775808) (hb : -9223372036854775808 ≤ b ∧ b < 9223372036854775808) (d : decode cc pc = .ok (.lcmp, 1)) (d2 : decode cc (pc + 1) = .ok (.ifCond .gt off, 3)) (ht : ((pc + 1 : Nat) : Int) + off = (tgt : Int)) (kt : b < a → V γ g cc nL own rm G k n tgt L st) (kf : a ≤ b → V γ g cc nL own rm G k n (pc + 4) L st) : V γ g cc nL own rm G k n pc L (vJ b :: vJ a :: st) :=
  v_lcmp ha hb d (v_if_gt (cm_r a b) d2 ht (fun q => kt (by unfold cm at q; revert q; split <;> (try split) <;> omega)) (fun q => kf (by unfold cm at q; revert q; split <;> (try split) <;> omega)))
theorem v_lc_le {a b : Int} {off : Int} {tgt : Nat} (ha : -9223372036854775808 ≤ a ∧ a < 9223372036854775808) (hb : -9223372036854775808 ≤ b ∧ b < 9223372036854775808) (d : decode cc pc = .ok (.lcmp, 1)) (d2 : decode cc (pc + 1) = .ok (.ifCond .le off, 3)) (ht : ((pc + 1 : Nat) : Int) + off = (tgt : Int)) (kt : a ≤ b → V γ g cc nL own rm G k n tgt L st) (kf : b < a → V γ g cc nL own rm G k n (pc + 4) L st) : V γ g cc nL own rm G k n pc L (vJ b :: vJ a :: st) :=
  v_lcmp ha hb d (v_if_le (cm_r a b) d2 ht (fun q => kt (by unfold cm at q; revert q; split <;> (try split) <;> omega)) (fun q => kf (by unfold cm at q; revert q; split <;> (try split) <;> omega)))
end VL
