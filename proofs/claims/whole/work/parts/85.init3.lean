-- rows of references
section NVQ
variable {γ : gT} {g : GT} {A : Nat → Prop} {cc : ByteArray} {nL idx : Nat} {own : String} {rm : Room} {ws : va_W} {k n : Nat} {pc : Nat} {L : List (Option Value)} {st : List Value}
theorem n_newq {m : Int} (h0 : 0 ≤ m ∧ m ≤ 65536) (hcl : Cond.classLink own idx RX2 ∈ WT) (hk : k + 1 ≤ rm.cells) (hn : n + m.toNat ≤ rm.slots) (d : decode cc pc = .ok (.anewarray idx, 3))
    (kk : ∀ q : Nat, NV γ g A cc nL own rm (ws ++ [(q, .inl (gC g 4, m.toNat, .inr (.inr (.inr (.inr fun _ => none)))))]) (k + 1) (n + m.toNat) (pc + 3) L (.ref q :: st)) : NV γ g A cc nL own rm ws k n pc L (vI m :: st) := by
  obtain ⟨p, l, e, R, s, m9, args, below, meth, c, Q⟩ := γ
  intro C H locs ls hP hS hL
  obtain ⟨hx, hb, hml, ho, hts, rfl, hG, hlk, rfl, hA1, hA2⟩ := id C
  refine va_newq hx hb ho (hts _ hcl) (show va_AO RX2 s from hG.2.2.2.2.1.2.2.2.2.2.2.2.2.1) hG.1 hP.1 hP.2 hS hA1 (N' := m.toNat) (fun z => by have := (i32_lt (a := m) (b := 0) (by omega)).mp z; omega) (i32_nat h0.1 (by omega)) (by omega) hk hn d (fun q cA H1 hK1 hP1 hD1 hS1 => ?_)
  have e6 : cA = gC g 4 := by
    obtain ⟨k1, c1, -, -, -, a1⟩ := (hK1.2 (tyL g).length (cA, .object RX2) (by rw [List.getElem?_append_right (Nat.le_refl _), Nat.sub_self]; rfl)).2
    obtain ⟨k2, c2, -, -, -, a2⟩ := (hG.1.2 4 (gC g 4, .object RX2) rfl).2
    exact Option.some.inj (a1.symm.trans a2)
  rw [e6] at hP1 hD1
  exact kk q C H1 locs ls ⟨hP1, hD1⟩ hS1 hL
/-- cells at the heap's end -/
theorem wsD {ws xs : va_W} {N : Nat} (hD : va_D A ws) (h1 : ∀ (k : Nat) (q : Nat × va_E), ws[k]? = some q → q.1 < N) (h2 : ∀ (k : Nat) (q : Nat × va_E), xs[k]? = some q → q.1 = N + k) (hA : ∀ a : Nat, N ≤ a → A a) : va_D A (ws ++ xs) := by
  have key : ∀ (k : Nat) (q : Nat × va_E), (ws ++ xs)[k]? = some q → (ws[k]? = some q ∧ q.1 < N) ∨ (ws.length ≤ k ∧ q.1 = N + (k - ws.length)) := by
    intro k q hk
    by_cases hl : k < ws.length
    · rw [List.getElem?_append_left hl] at hk
      exact Or.inl ⟨hk, h1 k q hk⟩
    · rw [List.getElem?_append_right (by omega)] at hk
      exact Or.inr ⟨by omega, h2 _ q hk⟩
  refine ⟨fun i j x y hi hj hxy => ?_, fun k q hk => ?_⟩
  · rcases key i x hi with ⟨p1, l1⟩ | ⟨p1, l1⟩ <;> rcases key j y hj with ⟨p2, l2⟩ | ⟨p2, l2⟩
    · exact hD.1 i j x y p1 p2 hxy
    · omega
    · omega
    · omega
  · rcases key k q hk with ⟨p1, l1⟩ | ⟨p1, l1⟩
    · exact hD.2 k q p1
    · exact hA _ (by omega)
/-- a row of n rows of m ints, made at once -/
def mrow (g : GT) (q n m : Nat) : va_W := (q, .inl (gC g 5, n, .inr (.inr (.inr (.inr fun j => some (q + 1 + j)))))) :: (List.range n).map fun j => (q + 1 + j, .inl (gC g 0, m, .inl fun _ => 0))
/-- making them: the row of rows first, then row by row -/
def mz (T : State) (c d : ClassId) (N M : Nat) : Nat → State
  | 0 => T.pushCell (arrV c N (fun _ => .null))
  | i + 1 => ((mz T c d N M i).pushCell (arrV d M (fun _ => defaultValue .int))).setCell T.heap.size ((arrV c N (fun j => if j < i then .ref (T.heap.size + 1 + j) else .null)).setSlot i (.ref (T.heap.size + 1 + i)))
theorem mz_f (T : State) (c d : ClassId) (N M : Nat) : ∀ i, (mz T c d N M i).heap.size = T.heap.size + 1 + i ∧ (mz T c d N M i).heap[T.heap.size]? = some (arrV c N (fun j => if j < i then .ref (T.heap.size + 1 + j) else .null)) ∧ (mz T c d N M i).vm = T.vm ∧ (mz T c d N M i).slotsUsed = T.slotsUsed + N + i * M ∧
    (∀ j, j < i → (mz T c d N M i).heap[T.heap.size + 1 + j]? = some (arrV d M (fun _ => defaultValue .int))) ∧ ∀ a : Nat, a < T.heap.size → (mz T c d N M i).heap[a]? = T.heap[a]?
  | 0 => by
    refine ⟨by simp [mz], ?_, rfl, by simp [mz, arrV_size], fun j h => absurd h (Nat.not_lt_zero _), fun a h => State.heap_pushCell_of_lt _ _ h⟩
    show (T.pushCell _).heap[T.heap.size]? = _
    rw [State.heap_pushCell_size]
    exact congrArg some (congrArg (arrV c N) (funext fun j => (if_neg (Nat.not_lt_zero j)).symm))
  | i + 1 => by
    obtain ⟨f1, f2, f3, f4, f5, f6⟩ := mz_f T c d N M i
    have hlt : T.heap.size < (mz T c d N M i).heap.size := by rw [f1]; omega
    have hc : ((mz T c d N M i).pushCell (arrV d M (fun _ => defaultValue .int))).heap[T.heap.size]? = some (arrV c N (fun j => if j < i then .ref (T.heap.size + 1 + j) else .null)) := by rw [State.heap_pushCell_of_lt (h := hlt)]; exact f2
    refine ⟨?_, ?_, f3, ?_, fun j hj => ?_, fun a ha => ?_⟩
    · simp [mz, State.setCell, f1]; omega
    · show (State.setCell _ _ _).heap[T.heap.size]? = _
      rw [State.heap_setCell_self hc, arrV_store]
      refine congrArg some (congrArg (arrV c N) (funext fun j => ?_))
      unfold updV
      by_cases h1 : j = i
      · subst h1
        rw [if_pos rfl, if_pos (Nat.lt_succ_self _)]
      · rw [if_neg h1]
        dsimp only
        by_cases h2 : j < i
        · rw [if_pos h2, if_pos (Nat.lt_succ_of_lt h2)]
        · rw [if_neg h2, if_neg (by omega)]
    · show ((mz T c d N M i).pushCell _).slotsUsed = _
      rw [State.slotsUsed_pushCell, f4, arrV_size, Nat.succ_mul]
      omega
    · show (State.setCell _ _ _).heap[T.heap.size + 1 + j]? = _
      rw [State.heap_setCell_other (show T.heap.size ≠ T.heap.size + 1 + j by omega)]
      by_cases h1 : j = i
      · subst h1
        rw [← f1]
        exact State.heap_pushCell_size _ _
      · have hj2 : T.heap.size + 1 + j < (mz T c d N M i).heap.size := by rw [f1]; omega
        rw [State.heap_pushCell_of_lt (h := hj2)]
        exact f5 j (by omega)
    · show (State.setCell _ _ _).heap[a]? = _
      rw [State.heap_setCell_other (Nat.ne_of_gt ha), State.heap_pushCell_of_lt (h := Nat.lt_trans ha hlt)]
      exact f6 a ha
theorem mz_top (T : State) (f : JFrame) (c d : ClassId) (N M : Nat) : ∀ i, mz (T.setTop f) c d N M i = (mz T c d N M i).setTop f
  | 0 => rfl
  | i + 1 => by simp only [mz, mz_top T f c d N M i, State.heap_setTop, State.pushCell_setTop, State.setCell_setTop]
section MZS
variable {p : Program} {l : Launch} {e : Env} {R : Room} {s : State} {m : MethodId} {args : Array Value} {below : List Frame} {meth : Method} {c : Code} {T : State} {locs : List Loc} {cells slots : Nat}
theorem mz_stand (X : Stand p l e R s m args below meth c T locs cells slots) (cA d : ClassId) (N M : Nat) : ∀ i, Stand p l e R s m args below meth c (mz T cA d N M i) locs (cells + 1 + i) (slots + N + i * M)
  | 0 => by
    have h := X.pushed (arrV cA N (fun _ => .null))
    rw [arrV_size] at h
    simpa [mz] using h
  | i + 1 => by
    have Xi := mz_stand X cA d N M i
    obtain ⟨f1, f2, -⟩ := mz_f T cA d N M i
    have hlt : T.heap.size < (mz T cA d N M i).heap.size := by rw [f1]; omega
    have hc : ((mz T cA d N M i).pushCell (arrV d M (fun _ => defaultValue .int))).heap[T.heap.size]? = some (arrV cA N (fun j => if j < i then .ref (T.heap.size + 1 + j) else .null)) := by rw [State.heap_pushCell_of_lt (h := hlt)]; exact f2
    have h := (Xi.pushed (arrV d M (fun _ => defaultValue .int))).stored hc i (.ref (T.heap.size + 1 + i))
    rw [arrV_size] at h
    have h2 := Stand.dropFresh h (fun x hx => by rw [List.mem_singleton.mp hx]; exact X.heapGrown)
    have e3 : slots + N + (i + 1) * M = slots + N + i * M + M := by rw [Nat.succ_mul]; omega
    rw [e3]
    exact h2
end MZS
section MZW
variable {E : CtlPost} {e : Env} {d : Bool} {acts : List Action} {s : State}
theorem mz_new {c comp : ClassId} {k : Class} {ty : FieldType} {n : Nat} {x : Value} (hk : s.vm.classes[c]? = some k) (hkd : k.kind = .array comp ty) (hl : ¬ n > e.platform.arrayLengthLimit) (hh : ¬ n * componentBytes ty > e.platform.maxHeapBytes) (hf : fits ty x = true) (hd : x.isDefault = true) {Q : Addr → Pre} (h1 : s.heap.size < e.platform.maxCells) (h2 : s.slotsUsed + n ≤ e.platform.maxSlots)
    (hq : Q s.heap.size d acts (s.pushCell (arrV c n (fun _ => x)))) : wp (Jvm.newArray c n x) Q E e d acts s := by
  have hfits : ∀ i v, (Array.replicate n x)[i]? = some v → s.fitsSlot c .none i v = true := fun i v hv => by
    simp only [Array.getElem?_replicate] at hv
    split at hv
    · cases hv
      simp [State.fitsSlot, State.slotType?, hk, hkd, hf]
    · cases hv
  have ha : allocActs (Array.replicate n x) s.heap.size acts = acts := by
    unfold allocActs
    rw [if_pos (by rw [Array.all_replicate]; split <;> simp [hd])]
  rw [← arrV_new] at hq
  simp only [Jvm.newArray, Jvm.arrayFits, wp_bind', Jvm.W.ask, Jvm.W.ite, hl, if_false, wp_pure', Jvm.W.theClass, hk, hkd, hh, Jvm.W.alloc, Jvm.W.stop, Option.some.injEq, exists_eq_left', Array.size_replicate, ha]
  rw [if_neg (by omega)]
  exact ⟨h1, h2, hfits, hq⟩
theorem mz_make {c comp cc : ClassId} {k kc : Class} {n m : Int32} (hk : s.vm.classes[c]? = some k) (hkd : k.kind = .array comp (.array .int)) (hkc : s.vm.classes[comp]? = some kc) (hkdc : kc.kind = .array cc .int) (hn : ¬ n < 0) (hm : ¬ m < 0)
    (hl : ¬ n.toNatClampNeg > e.platform.arrayLengthLimit) (hh : ¬ n.toNatClampNeg * 4 > e.platform.maxHeapBytes) (hl2 : ¬ m.toNatClampNeg > e.platform.arrayLengthLimit) (hh2 : ¬ m.toNatClampNeg * 4 > e.platform.maxHeapBytes)
    (hc : s.heap.size + 1 + n.toNatClampNeg ≤ e.platform.maxCells) (hs : s.slotsUsed + n.toNatClampNeg + n.toNatClampNeg * m.toNatClampNeg ≤ e.platform.maxSlots)
    {Q : Addr → Pre} (hq : ∀ d' acts', Q s.heap.size d' acts' (mz s c comp n.toNatClampNeg m.toNatClampNeg n.toNatClampNeg)) : wp (multianewarray.make c [n, m]) Q E e d acts s := by
  have h9 : ([m].find? (· < 0)) = none := by simp [hm]
  rw [multianewarray.make]
  simp only [wp_bind', Jvm.W.ite, hn, if_false, wp_pure', Jvm.W.theClass, hk, hkd, Option.some.injEq, exists_eq_left']
  refine mz_new hk hkd hl hh rfl rfl (by omega) (by have := Nat.zero_le (n.toNatClampNeg * m.toNatClampNeg); omega) ?_
  simp only [h9]
  rw [ite_self, wp_bind', Std.Legacy.Range.forIn_eq_forIn_range']
  have hz : ([:n.toNatClampNeg] : Std.Legacy.Range).size = n.toNatClampNeg := by simp [Std.Legacy.Range.size]
  rw [hz]
  show wp (forIn (List.range' 0 n.toNatClampNeg 1) PUnit.unit _) _ E e d acts _
  refine wp_forIn_inv (fun rest s' => ∃ i, i ≤ n.toNatClampNeg ∧ rest = List.range' i (n.toNatClampNeg - i) ∧ s' = mz s c comp n.toNatClampNeg m.toNatClampNeg i) _ _ ⟨0, Nat.zero_le _, rfl, rfl⟩ ?_ ?_
  · rintro x rest s' d' acts' Q' ⟨i, hi, hl9, rfl⟩ hnext
    have hlt : i < n.toNatClampNeg := by
      rcases Nat.lt_or_ge i n.toNatClampNeg with h | h
      · exact h
      · rw [show n.toNatClampNeg - i = 0 from by omega] at hl9
        simp at hl9
    rw [show n.toNatClampNeg - i = (n.toNatClampNeg - (i + 1)) + 1 from by omega, List.range'_succ] at hl9
    obtain ⟨rfl, hrest⟩ : x = i ∧ rest = List.range' (i + 1) (n.toNatClampNeg - (i + 1)) := ⟨(List.cons.inj hl9).1, (List.cons.inj hl9).2⟩
    obtain ⟨f1, f2, f3, f4, -⟩ := mz_f s c comp n.toNatClampNeg m.toNatClampNeg x
    have hmul : x * m.toNatClampNeg + m.toNatClampNeg ≤ n.toNatClampNeg * m.toNatClampNeg := by
      have := Nat.mul_le_mul_right m.toNatClampNeg (show x + 1 ≤ n.toNatClampNeg from hlt)
      rw [Nat.succ_mul] at this
      exact this
    simp only [wp_bind']
    rw [multianewarray.make]
    simp only [wp_bind', Jvm.W.ite, hm, if_false, wp_pure', Jvm.W.theClass, f3, hkc, hkdc, Option.some.injEq, exists_eq_left']
    refine mz_new (by rw [f3]; exact hkc) hkdc hl2 hh2 rfl rfl (by rw [f1]; omega) (by rw [f4]; omega) ?_
    have hlt0 : s.heap.size < (mz s c comp n.toNatClampNeg m.toNatClampNeg x).heap.size := by rw [f1]; omega
    simp only [wp_bind', Jvm.W.writeLoc, wp_pure']
    refine ⟨arrV c n.toNatClampNeg (fun j => if j < x then .ref (s.heap.size + 1 + j) else .null), by rw [State.heap_pushCell_of_lt (h := hlt0)]; exact f2, by simp [arrV], by rw [arrV_size]; exact hlt, ?_, hnext _ _ _ ⟨x + 1, hlt, hrest, ?_⟩⟩
    · show State.fitsSlot _ c .none x (.ref _) = true
      simp [State.fitsSlot, State.slotType?, f3, hk, hkd, fits]
    · rw [f1]
      rfl
  · rintro s' d' acts' ⟨i, hi, hl9, rfl⟩
    have hiN : i = n.toNatClampNeg := by
      rcases Nat.lt_or_ge i n.toNatClampNeg with h | h
      · rw [show n.toNatClampNeg - i = (n.toNatClampNeg - (i + 1)) + 1 from by omega, List.range'_succ] at hl9
        cases hl9
      · omega
    subst hiN
    simp only [wp_pure']
    exact hq _ _
end MZW
/-- what the tables say of a row over rows -/
theorem over_t {args : Array Value} {s : State} {t : FieldType} (h : (Cond.arrayOver (.array t)).before args s = true) : ∃ (comp c : ClassId) (k : Class), s.vm.findClass (FieldType.array t).toString = some comp ∧ s.vm.classes[c]? = some k ∧ k.kind = .array comp (.array t) ∧ s.vm.findClass ("[" ++ (FieldType.array t).toString) = some c := by
  unfold Cond.before at h
  simp only [Cond.holds, Cond.value, beq_iff_eq] at h
  cases hc : s.vm.findClass (FieldType.array t).toString with
  | none => simp [hc] at h
  | some comp =>
    simp only [hc, Option.bind_some, Option.bind_eq_some_iff, Option.map_eq_some_iff] at h
    obtain ⟨c, hi, k, hk, hb⟩ := h
    obtain ⟨hlt, hp, -⟩ := Array.findIdx?_eq_some_iff_getElem.mp hi
    have hkk : s.vm.classes[c] = k := (Array.getElem?_eq_some_iff.mp hk).2
    rw [hkk] at hp
    cases hkd : k.kind with
    | array component ty =>
      rw [hkd] at hb hp
      simp at hb hp
      exact ⟨comp, c, k, rfl, hk, by rw [hkd, hp, hb.1], hb.2⟩
    | _ => rw [hkd] at hb; simp at hb
section MZI
variable {p : Program} {l : Launch} {e : Env} {R : Room} {s : State} {m : MethodId} {args : Array Value} {below : List Frame} {meth : Method} {c : Code} {T : State} {locs : List Loc} {cells slots : Nat}
/-- the instruction -/
theorem mz_ins (X : Stand p l e R s m args below meth c T locs cells slots) (hexec : p.tables.exec = Jvm.exec) {own : String} {index : Nat} (hown : s.vm.findClass own = some m.cls) (hclink : (Cond.classLink own index "[[I").before args s = true) (hover : (Cond.arrayOver (.array .int)).before args s = true) (harr : (Cond.arrayClass .int).before args s = true)
    {g : JFrame} (hg : g.method = m) (hdg : decode c.code g.pc = .ok (.multianewarray index 2, 4)) {n k : Int32} {rest : List Value} (hst : g.stack = .int k :: .int n :: rest) (hn : ¬ n < 0) (hk : ¬ k < 0) (hb1 : n.toNatClampNeg * 4 ≤ 536870912) (hb2 : k.toNatClampNeg * 4 ≤ 536870912)
    (hcells : cells + (1 + n.toNatClampNeg) ≤ R.cells) (hslots : slots + (n.toNatClampNeg + n.toNatClampNeg * k.toNatClampNeg) ≤ R.slots) :
    ∃ (vm₁ : Vm) (cA comp : ClassId), s.vm.findClass "[[I" = some cA ∧ s.vm.findClass "[I" = some comp ∧
      Stand p l e R s m args below meth c (mz (T.setVm vm₁) cA comp n.toNatClampNeg k.toNatClampNeg n.toNatClampNeg) locs (cells + 1 + n.toNatClampNeg) (slots + n.toNatClampNeg + n.toNatClampNeg * k.toNatClampNeg) ∧
      ∀ target, Steps p.tables e below ((mz (T.setVm vm₁) cA comp n.toNatClampNeg k.toNatClampNeg n.toNatClampNeg).setTop { g with pc := g.pc + 4, stack := .ref T.heap.size :: rest }) target → Steps p.tables e below (T.setTop g) target := by
  subst hg
  have hpl : e.platform.magicAccessors = ({} : Platform).magicAccessors := by rw [X.admits.platform]
  obtain ⟨comp, cA, kA, hcomp, hkA, hkindA, hnameA⟩ := over_t hover
  obtain ⟨comp', kC, cc, hcomp', hkC, hkindC⟩ := Cond.arrayClass_spec harr
  have ecomp : comp' = comp := Option.some.inj (hcomp'.symm.trans hcomp)
  subst ecomp
  obtain ⟨c0, hfc0, hcl⟩ := Cond.classLink_spec hown hclink e.platform hpl
  have e0 : c0 = cA := Option.some.inj (hfc0.symm.trans hnameA)
  subst e0
  obtain ⟨hg₁, hwarm₁, hready₁⟩ := State.classEntry (e := e) X.warmed hcl
  generalize T.vm.noted g.method.cls index (.cls c0) = vm₁ at hg₁ hwarm₁ hready₁
  have hal : s.vm.Alike vm₁ := hwarm₁.alike
  obtain ⟨kA₁, hkA₁, heA⟩ := hal.2.2 _ _ hkA
  obtain ⟨kC₁, hkC₁, heC⟩ := hal.2.2 _ _ hkC
  have hkindA₁ : kA₁.kind = .array comp' (.array .int) := by rw [heA]; exact hkindA
  have hkindC₁ : kC₁.kind = .array cc .int := by rw [heC]; exact hkindC
  have X₁ := X.noted hwarm₁
  obtain ⟨hr1, hr2⟩ := X.roomAbove hcells hslots
  have XF := mz_stand X₁ c0 comp' n.toNatClampNeg k.toNatClampNeg n.toNatClampNeg
  refine ⟨vm₁, c0, comp', hnameA, hcomp, XF, fun target hrest => ?_⟩
  have hl1 : ¬ n.toNatClampNeg > e.platform.arrayLengthLimit := by rw [Launch.admits_arrayLengthLimit X.admits]; omega
  have hh1 : ¬ n.toNatClampNeg * 4 > e.platform.maxHeapBytes := by rw [Launch.admits_maxHeapBytes X.admits]; omega
  have hl2 : ¬ k.toNatClampNeg > e.platform.arrayLengthLimit := by rw [Launch.admits_arrayLengthLimit X.admits]; omega
  have hh2 : ¬ k.toNatClampNeg * 4 > e.platform.maxHeapBytes := by rw [Launch.admits_maxHeapBytes X.admits]; omega
  jvm_step X.here [hexec, hdg]
  simp only [multianewarray.sem, wp_bind', Jvm.W.resolveClassAt_links (State.method?_setTop g X.here.top) hg₁]
  rw [Jvm.W.popN, if_neg (by decide)]
  refine ⟨g, State.topJava?_setTop' (s := T.setVm vm₁) g X.here.top, [.int n, .int k], rest, rfl, hst, ?_⟩
  simp only [List.mapM_cons, List.mapM_nil, wp_bind', wp_pure']
  have eS : ((T.setTop g).setVm vm₁).setTop { g with stack := rest } = (T.setVm vm₁).setTop { g with stack := rest } := by
    show ((T.setVm vm₁).setTop g).setTop _ = _
    rw [State.setTop_setTop]
  rw [eS]
  refine mz_make (k := kA₁) (kc := kC₁) (comp := comp') (cc := cc) hkA₁ hkindA₁ hkC₁ hkindC₁ hn hk hl1 hh1 hl2 hh2 (by show T.heap.size + 1 + _ ≤ _; omega) (by show T.slotsUsed + _ + _ ≤ _; omega) (fun d' acts' => ?_)
  rw [mz_top]
  simp only [wp_bind', Jvm.W.mark, Jvm.W.pushRef, State.topJava?_setTop' _ XF.here.top, Option.some.injEq, exists_eq_left', State.setTop_setTop, State.heap_setTop]
  intro acts
  simp [jvm, XF.here.top]
  exact hrest
end MZI
theorem arrV_ext {c : ClassId} {N : Nat} {f f' : Nat → Value} (h : ∀ j, j < N → f j = f' j) : arrV c N f = arrV c N f' := by
  unfold arrV
  congr 1
  apply Array.ext
  · simp
  · intro j h1 h2
    simp only [Array.getElem_ofFn]
    exact h j (by simpa using h1)
theorem n_newm {a b : Int} (h0 : 0 ≤ a ∧ a ≤ 65536) (h9 : 0 ≤ b ∧ b ≤ 65536) (hcl : Cond.classLink own idx "[[I" ∈ WT) (hk : k + (1 + a.toNat) ≤ rm.cells) (hn : n + (a.toNat + a.toNat * b.toNat) ≤ rm.slots) (d : decode cc pc = .ok (.multianewarray idx 2, 4))
    (kk : ∀ q : Nat, NV γ g A cc nL own rm (ws ++ mrow g q a.toNat b.toNat) (k + 1 + a.toNat) (n + a.toNat + a.toNat * b.toNat) (pc + 4) L (.ref q :: st)) : NV γ g A cc nL own rm ws k n pc L (vI b :: vI a :: st) := by
  obtain ⟨p, l, e, R, s, m9, args, below, meth, c, Q⟩ := γ
  intro C H locs ls hP hS hL T hT X
  obtain ⟨hx, hb, hml, ho, hts, rfl, hG, hlk, rfl, hA1, hA2⟩ := id C
  have na : (Int32.ofInt a).toNatClampNeg = a.toNat := i32_nat h0.1 (by omega)
  have nb : (Int32.ofInt b).toNatClampNeg = b.toNat := i32_nat h9.1 (by omega)
  obtain ⟨vm₁, cA, comp, hfA, hfC, X1, step⟩ := mz_ins X hx (own := own) (index := idx) ho (hts _ hcl) (show (Cond.arrayOver (.array .int)).before args s = true from hG.2.2.2.2.1.2.2.2.2.2.2.2.2.2) (hts _ wA_111)
    (g := F0 m9 pc ls (vI b :: vI a :: st)) rfl (by rw [hb]; exact d) (n := Int32.ofInt a) (k := Int32.ofInt b) (rest := st) rfl (fun z => by have := (i32_lt (a := a) (b := 0) (by omega)).mp z; omega) (fun z => by have := (i32_lt (a := b) (b := 0) (by omega)).mp z; omega)
    (by rw [na]; omega) (by rw [nb]; omega) (by rw [na]; exact hk) (by rw [na, nb]; exact hn)
  rw [na, nb] at X1 step
  have e5 : cA = gC g 5 := Option.some.inj (hfA.symm.trans (hG.1.2 5 (gC g 5, .array .int) rfl).2)
  have e0 : comp = gC g 0 := Option.some.inj (hfC.symm.trans (hG.1.2 0 (gC g 0, .int) rfl).2)
  subst hT
  obtain ⟨f1, f2, -, -, f3, f4⟩ := mz_f (T.setVm vm₁) cA comp a.toNat b.toNat a.toNat
  have o1 : ∀ (k : Nat) (x : Nat × va_E), ws[k]? = some x → x.1 < T.heap.size := fun k x hx => (hP.1 k x hx).lt
  have hx1 : ∀ (k : Nat) (x : Nat × va_E), (mrow g T.heap.size a.toNat b.toNat)[k]? = some x → x.1 = T.heap.size + k ∧ va_at (gD g) cls x (mz (T.setVm vm₁) cA comp a.toNat b.toNat a.toNat).heap := by
    intro k x hx
    cases k with
    | zero =>
      cases hx
      refine ⟨rfl, ?_⟩
      show (mz (T.setVm vm₁) cA comp a.toNat b.toNat a.toNat).heap[T.heap.size]? = some (vp_cell _ _)
      refine Eq.trans f2 (congrArg some ?_)
      rw [vp_cell_q, e5]
      refine arrV_ext fun j hj => ?_
      rw [if_pos hj]
      rfl
    | succ j =>
      have hx' : ((List.range a.toNat).map fun j => ((T.heap.size + 1 + j, .inl (gC g 0, b.toNat, .inl fun _ => 0)) : Nat × va_E))[j]? = some x := hx
      by_cases hj : j < a.toNat
      · rw [List.getElem?_map, List.getElem?_range hj] at hx'
        cases hx'
        refine ⟨by show T.heap.size + 1 + j = T.heap.size + (j + 1); omega, ?_⟩
        show (mz (T.setVm vm₁) cA comp a.toNat b.toNat a.toNat).heap[T.heap.size + 1 + j]? = some (vp_cell _ _)
        refine Eq.trans (f3 j hj) (congrArg some ?_)
        rw [e0]
        rfl
      · rw [List.getElem?_eq_none (by simp; omega)] at hx'
        cases hx'
  obtain ⟨t, a1, b1⟩ := kk T.heap.size C _ locs ls ⟨(hP.1.kept (fun k x hx => f4 x.1 (o1 k x hx))).app (fun k x hx => (hx1 k x hx).2), wsD hP.2 o1 (fun k x hx => (hx1 k x hx).1) (fun x h => hA1 x (Nat.le_trans hS.1 h))⟩
    ⟨by rw [f1]; exact Nat.le_trans hS.1 (by show T.heap.size ≤ T.heap.size + 1 + _; omega), fun x h1 h2 => Eq.trans (f4 x (Nat.lt_of_lt_of_le h1 hS.1)) (hS.2.1 x h1 h2), hS.2.2⟩ hL _ rfl X1
  exact ⟨t, step t a1, b1⟩
/-- a field read -/
theorem n_getf {ci N f q0 a : Nat} {cn : String} {T : u_T} {fs : List Value} {v : Value} (hc : cls[ci]? = some (cn, T, N)) (hin : ∀ w ∈ u_ws cn T N, w ∈ WT) (he : ws[q0]? = some (a, .inr (ci, fs))) (hf : f < N) (hl : Cond.fieldLink own idx cn (T f).2.1 (T f).2.2.1 ∈ WT) (hr : (T f).1 = cn) (hv : fs[f]? = some v) (d : decode cc pc = .ok (.getfield idx, 3))
    (kk : NV γ g A cc nL own rm ws k n (pc + 3) L (v :: st)) : NV γ g A cc nL own rm ws k n pc L (.ref a :: st) := by
  obtain ⟨p, l, e, R, s, m, args, below, meth, c, Q⟩ := γ
  intro C H locs ls hP hS hL
  have hG : Gc g s s.heap := C.2.2.2.2.2.2.1
  exact va_get C.1 C.2.1 C.2.2.2.2.1 hin C.2.2.2.1 hG.1 hP.1 q0 he hc f hf (C.2.2.2.2.1 _ hl) (fun x h => by rw [hr] at h; exact h) hv d (kk C H locs ls hP hS hL)
/-- a state put into the row of states -/
theorem n_astq {q0 qk a v N : Nat} {vs : List Value} {f : Nat → Option Nat} {z : Int} (ha : ws[q0]? = some (a, .inl (gC g 4, N, .inr (.inr (.inr (.inr f)))))) (hv : ws[qk]? = some (v, .inr (2, vs))) (hz : 0 ≤ z ∧ z < (N : Int)) (hN : N < 2147483648) (d : decode cc pc = .ok (.aastore, 1))
    (kk : NV γ g A cc nL own rm (ws.set q0 (a, .inl (gC g 4, N, .inr (.inr (.inr (.inr (va_up f z.toNat (some v)))))))) k n (pc + 1) L st) : NV γ g A cc nL own rm ws k n pc L (.ref v :: vI z :: .ref a :: st) := by
  obtain ⟨p, l, e, R, s, m, args, below, meth, c, Q⟩ := γ
  intro C H locs ls hP hS hL
  have hG : Gc g s s.heap := C.2.2.2.2.2.2.1
  refine va_astq C.1 C.2.1 hG.1 hP.1 hP.2 hS q0 4 qk 2 (r := (RX2, TX2, 16)) ha rfl hv rfl (i32_in hz.1 hz.2 hN) d (fun H1 locs1 hP1 hD1 hS1 => ?_)
  rw [i32_nat hz.1 (by omega)] at hP1 hD1
  exact kk C H1 locs1 ls ⟨hP1, hD1⟩ hS1 hL
end NVQ
def dX0 : List Value := [.null, .null, .null, .null, .int 0, .int 0]
def fX0 (q1 q2 q3 q4 : Nat) : List Value := [.ref q1, .ref q2, .ref q3, .ref q4, .int 0, .int 0]
def aX0 (g : GT) (q1 q2 q3 q4 : Nat) : va_W := [(q1, .inl (gC g 0, 5, .inl fun _ => 0))] ++ mrow g q2 6 100 ++ [(q3, .inl (gC g 1, 41, .inr (.inl fun _ => 0))), (q4, .inl (gC g 1, 41, .inr (.inl fun _ => 0)))]
set_option maxHeartbeats 4000000 in
set_option maxRecDepth 100000 in
theorem n_X0_init {g : GT} {A : Nat → Prop} {ws : va_W} {p b : Nat} (hp : ws[p]? = some (b, .inr (0, dX0))) : CtrN g A yX0_init cX0_init 1 none (rmL 1 10 693) [.ref b] ws (fun v w => v = none ∧ ∃ q1 q2 q3 q4 : Nat, w = ws.set p (b, .inr (0, fX0 q1 q2 q3 q4)) ++ aX0 g q1 q2 q3 q4) := by
  have hl : p < ws.length := (List.getElem?_eq_some_iff.mp hp).1
  refine ctrN_of [some (.ref b)] (by decide) (Nat.le_of_ble_eq_true rfl) rfl (fun γ E hi => ?_)
  show NV γ g A cX0_init 1 RX0 (rmL 1 10 693) ws 0 0 0 [some (.ref b)] []
  refine n_ws (wsi hp) ?_
  refine n_aload_n (pc := 0) rfl dX0_init_0 ?_
  refine n_obj (pc := 1) wM_X0_3 (Nat.le_of_ble_eq_true rfl) (Nat.le_of_ble_eq_true rfl) dX0_init_1 ?_
  refine n_aload_n (pc := 4) rfl dX0_init_4 ?_
  refine n_iconst (pc := 5) (z := 5) dX0_init_5 ?_
  refine n_newa (pc := 6) (m := 5) (at9 := .int) (ty := .int) (t0 := 0) (a0 := (5, .inl fun _ => 0)) rfl rfl (fun cA => rfl) (by decide) (Nat.le_of_ble_eq_true rfl) (Nat.le_of_ble_eq_true rfl) (by decide) (fun C h => by cases h) wA_111 dX0_init_6 (fun q1 => ?_)
  refine n_ws (ws' := ws.set p (b, .inr (0, dX0)) ++ [(q1, .inl (gC g 0, 5, .inl fun _ => 0))]) (by first | exact List.append_assoc _ _ _ | simp only [List.append_assoc] | rfl) ?_
  refine n_putF (pc := 8) (ci := 0) (f := 0) (q0 := p) (fs := dX0) (ty := .array .int) hi rfl in_X0 tyX0_ok nmX0 (wsg hl) (by decide) wF_X0_9 rfl rfl (by decide +kernel) rfl rfl (Nat.le_of_ble_eq_true rfl) dX0_init_8 ?_
  refine n_ws (ws' := ws.set p (b, .inr (0, [.ref q1, .null, .null, .null, .int 0, .int 0])) ++ [(q1, .inl (gC g 0, 5, .inl fun _ => 0))]) (wss hl) ?_
  refine n_aload_n (pc := 11) rfl dX0_init_11 ?_
  refine n_bipush (pc := 12) (z := 6) rfl dX0_init_12 ?_
  refine n_bipush (pc := 14) (z := 100) rfl dX0_init_14 ?_
  refine n_newm (pc := 16) (a := 6) (b := 100) (by decide) (by decide) wK_X0_15 (Nat.le_of_ble_eq_true rfl) (Nat.le_of_ble_eq_true rfl) dX0_init_16 (fun q2 => ?_)
  refine n_ws (ws' := ws.set p (b, .inr (0, [.ref q1, .null, .null, .null, .int 0, .int 0])) ++ ([(q1, .inl (gC g 0, 5, .inl fun _ => 0))] ++ mrow g q2 6 100)) (by first | exact List.append_assoc _ _ _ | simp only [List.append_assoc] | rfl) ?_
  refine n_putF (pc := 20) (ci := 0) (f := 1) (q0 := p) (fs := [.ref q1, .null, .null, .null, .int 0, .int 0]) (ty := .array (.array .int)) hi rfl in_X0 tyX0_ok nmX0 (wsg hl) (by decide) wF_X0_17 rfl rfl (by decide +kernel) rfl rfl (Nat.le_of_ble_eq_true rfl) dX0_init_20 ?_
  refine n_ws (ws' := ws.set p (b, .inr (0, [.ref q1, .ref q2, .null, .null, .int 0, .int 0])) ++ ([(q1, .inl (gC g 0, 5, .inl fun _ => 0))] ++ mrow g q2 6 100)) (wss hl) ?_
  refine n_aload_n (pc := 23) rfl dX0_init_23 ?_
  refine n_bipush (pc := 24) (z := 41) rfl dX0_init_24 ?_
  refine n_newa (pc := 26) (m := 41) (at9 := .long) (ty := .long) (t0 := 1) (a0 := (41, .inr (.inl fun _ => 0))) rfl rfl (fun cA => rfl) (by decide) (Nat.le_of_ble_eq_true rfl) (Nat.le_of_ble_eq_true rfl) (by decide) (fun C h => by cases h) wA_141 dX0_init_26 (fun q3 => ?_)
  refine n_ws (ws' := ws.set p (b, .inr (0, [.ref q1, .ref q2, .null, .null, .int 0, .int 0])) ++ ([(q1, .inl (gC g 0, 5, .inl fun _ => 0))] ++ mrow g q2 6 100 ++ [(q3, .inl (gC g 1, 41, .inr (.inl fun _ => 0)))])) (by first | exact List.append_assoc _ _ _ | simp only [List.append_assoc] | rfl) ?_
  refine n_putF (pc := 28) (ci := 0) (f := 2) (q0 := p) (fs := [.ref q1, .ref q2, .null, .null, .int 0, .int 0]) (ty := .array .long) hi rfl in_X0 tyX0_ok nmX0 (wsg hl) (by decide) wF_X0_20 rfl rfl (by decide +kernel) rfl rfl (Nat.le_of_ble_eq_true rfl) dX0_init_28 ?_
  refine n_ws (ws' := ws.set p (b, .inr (0, [.ref q1, .ref q2, .ref q3, .null, .int 0, .int 0])) ++ ([(q1, .inl (gC g 0, 5, .inl fun _ => 0))] ++ mrow g q2 6 100 ++ [(q3, .inl (gC g 1, 41, .inr (.inl fun _ => 0)))])) (wss hl) ?_
  refine n_aload_n (pc := 31) rfl dX0_init_31 ?_
  refine n_bipush (pc := 32) (z := 41) rfl dX0_init_32 ?_
  refine n_newa (pc := 34) (m := 41) (at9 := .long) (ty := .long) (t0 := 1) (a0 := (41, .inr (.inl fun _ => 0))) rfl rfl (fun cA => rfl) (by decide) (Nat.le_of_ble_eq_true rfl) (Nat.le_of_ble_eq_true rfl) (by decide) (fun C h => by cases h) wA_141 dX0_init_34 (fun q4 => ?_)
  refine n_ws (ws' := ws.set p (b, .inr (0, [.ref q1, .ref q2, .ref q3, .null, .int 0, .int 0])) ++ ([(q1, .inl (gC g 0, 5, .inl fun _ => 0))] ++ mrow g q2 6 100 ++ [(q3, .inl (gC g 1, 41, .inr (.inl fun _ => 0))), (q4, .inl (gC g 1, 41, .inr (.inl fun _ => 0)))])) (by first | exact List.append_assoc _ _ _ | simp only [List.append_assoc] | rfl) ?_
  refine n_putF (pc := 36) (ci := 0) (f := 3) (q0 := p) (fs := [.ref q1, .ref q2, .ref q3, .null, .int 0, .int 0]) (ty := .array .long) hi rfl in_X0 tyX0_ok nmX0 (wsg hl) (by decide) wF_X0_24 rfl rfl (by decide +kernel) rfl rfl (Nat.le_of_ble_eq_true rfl) dX0_init_36 ?_
  refine n_ws (ws' := ws.set p (b, .inr (0, [.ref q1, .ref q2, .ref q3, .ref q4, .int 0, .int 0])) ++ ([(q1, .inl (gC g 0, 5, .inl fun _ => 0))] ++ mrow g q2 6 100 ++ [(q3, .inl (gC g 1, 41, .inr (.inl fun _ => 0))), (q4, .inl (gC g 1, 41, .inr (.inl fun _ => 0)))])) (wss hl) ?_
  exact n_vret (pc := 39) E ⟨rfl, q1, q2, q3, q4, rfl⟩ (Nat.le_of_ble_eq_true rfl) (Nat.le_of_ble_eq_true rfl) dX0_init_39
