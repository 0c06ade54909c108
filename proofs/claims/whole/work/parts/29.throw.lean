-- exceptions
theorem WP_kept {g : GT} {G : Mem} {H H1 : Heap} (h : WP g G H) (hq : ∀ q : Nat, q < H.size → H1[q]? = H[q]?) : WP g G H1 := by
  obtain ⟨q, cap, ml, bf, hs, hP, hD⟩ := h
  exact ⟨q, cap, ml, bf, hs, hP.kept fun k x hk => hq _ (hP k x hk).lt, hD⟩
def XN : List String := ["java/lang/RuntimeException", "java/lang/Exception"]
def isDcl : Cond → Bool
  | .declares _ => true
  | _ => false
theorem decl_of {args : Array Value} {s : State} {x : MethodName} (h : va_Decl s x) : (Cond.declares x).before args s = true := by
  obtain ⟨r0, r, h1, h2, h3, h4⟩ := h
  simp [Cond.before, Cond.holds, Cond.value, h1, h2, h3, h4]
/-- what is declared: those that the exceptions' chains want -/
def DC : List MethodName := [Bundle.initS "java/lang/RuntimeException", Bundle.initS "java/lang/Exception", Bundle.initS Bundle.tN]
theorem dc_of {args : Array Value} {s : State} (h : ∀ w ∈ WT, w.before args s = true) : ∀ x ∈ DC, (Cond.declares x).before args s = true := by
  intro x hx
  rcases List.mem_cons.mp hx with rfl | hx
  · exact decl_of (va_Decl.of (h _ (show Cond.instanceMethod (Bundle.initS "java/lang/RuntimeException") ∈ WT by decide +kernel)) (h _ (show Cond.code (Bundle.initS "java/lang/RuntimeException") Bundle.six 2 none ∈ WT by decide +kernel)))
  · rcases List.mem_cons.mp hx with rfl | hx
    · exact decl_of (va_Decl.of (h _ (show Cond.instanceMethod (Bundle.initS "java/lang/Exception") ∈ WT by decide +kernel)) (h _ (show Cond.code (Bundle.initS "java/lang/Exception") Bundle.six 2 none ∈ WT by decide +kernel)))
    · rcases List.mem_cons.mp hx with rfl | hx
      · exact decl_of (va_Decl.of (h _ (show Cond.instanceMethod (Bundle.initS Bundle.tN) ∈ WT by decide +kernel)) (h _ (show Cond.code (Bundle.initS Bundle.tN) Jvm.LibCode.Throwable.InitS.code 2 none ∈ WT by decide +kernel)))
      · cases hx
def XOk (ik ic : Nat) (cls : String) : Prop := Bundle.fit cls = true ∧ Cond.classLink RX3 ik cls ∈ WT ∧ Cond.initialized cls ∈ WT ∧ (∀ w ∈ vx_atS RX3 ic cls XN, w ∈ WT ∨ w ∈ NT ∨ w ∈ DC.map Cond.declares) ∧ ∀ w ∈ Cond.classLink RX3 ik cls :: Cond.initialized cls :: vx_atS RX3 ic cls XN, vx_ot w = true
def eIB : String := "java/lang/IndexOutOfBoundsException"
def eIA : String := "java/lang/IllegalArgumentException"
def eIS : String := "java/lang/IllegalStateException"
def eUO : String := "java/lang/UnsupportedOperationException"
def eNE : String := "java/util/NoSuchElementException"
def eAR : String := "java/lang/ArithmeticException"
theorem xok_IB : XOk 216 220 eIB := ⟨by decide, by decide +kernel, by decide +kernel, by decide +kernel, by decide +kernel⟩
theorem xok_IA : XOk 225 229 eIA := ⟨by decide, by decide +kernel, by decide +kernel, by decide +kernel, by decide +kernel⟩
theorem xok_IS : XOk 75 79 eIS := ⟨by decide, by decide +kernel, by decide +kernel, by decide +kernel, by decide +kernel⟩
theorem xok_UO : XOk 157 161 eUO := ⟨by decide, by decide +kernel, by decide +kernel, by decide +kernel, by decide +kernel⟩
theorem xok_AR : XOk 183 187 eAR := ⟨by decide, by decide +kernel, by decide +kernel, by decide +kernel, by decide +kernel⟩
section VTHROW
variable {γ : gT} {g : GT} {cc : ByteArray} {nL : Nat} {rm : Room} {G : Mem} {k n : Nat} {pc : Nat} {L : List (Option Value)} {rest : List Value} {rt : Option FieldType} {Qp : Option Value → Mem → Prop} {Xp : String → Mem → Prop} {ik ic is : Nat} {cls' text : String}
theorem v_throw (O : XOk ik ic cls') (hs : (RX3, is, text) ∈ XS) (Q : EndQ γ g rm rt [] Qp Xp) (hx : Xp cls' G)
    (d0 : decode cc pc = .ok (.new ik, 3)) (d3 : decode cc (pc + 3) = .ok (.dup, 1)) (d4 : decode cc (pc + 4) = .ok (.ldc is, 2)) (d6 : decode cc (pc + 6) = .ok (.invokespecial ic, 3)) (d9 : decode cc (pc + 9) = .ok (.athrow, 1))
    (hr1 : 20 ≤ rm.frames) (hr2 : 1000 ≤ rm.locals) (hl : (rest.map fun v => v.category).sum ≤ 8) (hk : k + 1 ≤ rm.cells) (hn : n + 6 ≤ rm.slots) : V γ g cc nL RX3 rm G k n pc L rest := by
  obtain ⟨p, l, e, R, s, m, args, below, meth, c, Q0⟩ := γ
  obtain ⟨rfl, hr, ht⟩ := Q
  intro C H locs ls hP hS hL
  obtain ⟨o1, o2, o3, o4, o5⟩ := O
  obtain ⟨c1, c2, c3, c4, c5, rfl, hG, c8, rfl⟩ := C
  obtain ⟨sa, hsa⟩ := hG.2.2.1 _ hs
  exact vx_throwS c1 c2 hG.2.2.2.2.2.2 c4 o1 (by decide) (c5 _ o2) (c5 _ o3) hsa (fun w hw => (o4 w hw).elim (c5 w) (fun h => h.elim (fun h => va_Nw.use (nt_tab h) (hG.2.1 w h)) (fun h => by obtain ⟨x, hx, rfl⟩ := List.mem_map.mp h; exact dc_of c5 x hx))) o5 hG.2.2.2.2.1.1 hG.2.2.2.2.1.2.1 hS (hL.1.trans c3.symm) d0 d3 d4 d6 d9
    (fun x hx => by rw [ht] at hx; cases hx) (by show 5 < _; omega) (by show _ + (13 * 3 + 43) ≤ _; omega) hk hn c8
    (fun t _ h2 h3 => ⟨⟨G, hx, WP_kept hP h3⟩, Nat.le_trans hS.1 h2, fun q q1 q2 => (h3 q (Nat.lt_of_lt_of_le q1 hS.1)).trans (hS.2.1 q q1 q2)⟩) hS.2.2 hk hn
theorem v_throwW (O : XOk ik ic cls') (hs : (RX3, is, text) ∈ XS) (Q : EndQ γ g rm rt [] Qp Xp) (hx : Xp cls' G)
    (d0 : decode cc pc = .ok (.new ik, 3)) (d3 : decode cc (pc + 3) = .ok (.dup, 1)) (d4 : decode cc (pc + 4) = .ok (.ldc_w is, 3)) (d7 : decode cc (pc + 7) = .ok (.invokespecial ic, 3)) (d10 : decode cc (pc + 10) = .ok (.athrow, 1))
    (hr1 : 20 ≤ rm.frames) (hr2 : 1000 ≤ rm.locals) (hl : (rest.map fun v => v.category).sum ≤ 8) (hk : k + 1 ≤ rm.cells) (hn : n + 6 ≤ rm.slots) : V γ g cc nL RX3 rm G k n pc L rest := by
  obtain ⟨p, l, e, R, s, m, args, below, meth, c, Q0⟩ := γ
  obtain ⟨rfl, hr, ht⟩ := Q
  intro C H locs ls hP hS hL
  obtain ⟨o1, o2, o3, o4, o5⟩ := O
  obtain ⟨c1, c2, c3, c4, c5, rfl, hG, c8, rfl⟩ := C
  obtain ⟨sa, hsa⟩ := hG.2.2.1 _ hs
  exact vx_throwSW c1 c2 hG.2.2.2.2.2.2 c4 o1 (by decide) (c5 _ o2) (c5 _ o3) hsa (fun w hw => (o4 w hw).elim (c5 w) (fun h => h.elim (fun h => va_Nw.use (nt_tab h) (hG.2.1 w h)) (fun h => by obtain ⟨x, hx, rfl⟩ := List.mem_map.mp h; exact dc_of c5 x hx))) o5 hG.2.2.2.2.1.1 hG.2.2.2.2.1.2.1 hS (hL.1.trans c3.symm) d0 d3 d4 d7 d10
    (fun x hx => by rw [ht] at hx; cases hx) (by show 5 < _; omega) (by show _ + (13 * 3 + 43) ≤ _; omega) hk hn c8
    (fun t _ h2 h3 => ⟨⟨G, hx, WP_kept hP h3⟩, Nat.le_trans hS.1 h2, fun q q1 q2 => (h3 q (Nat.lt_of_lt_of_le q1 hS.1)).trans (hS.2.1 q q1 q2)⟩) hS.2.2 hk hn
end VTHROW

