-- NoSuchElementException is thrown
def sixN : ByteArray := ⟨#[0x2a, 0x2b, 0xb7, 0x00, 0x0d, 0xb1]⟩
def NL : List Cond := Bundle.throwableAtoms ++ (Bundle.throwableSAtoms ++ (Bundle.passSAtoms eNE "java/lang/RuntimeException" 13 sixN ++ (Bundle.chainSAtoms "java/lang/RuntimeException" ["java/lang/Exception"] ++ endAt RX3 93 eNE)))
theorem nl_w : ∀ w ∈ NL.filter vx_no, w ∈ WT ∨ w ∈ NT ∨ w ∈ DC.map Cond.declares := by decide +kernel
theorem nl_g : ∀ w ∈ Cond.classLink RX3 89 eNE :: Cond.initialized eNE :: NL.filter vx_no, vx_ot w = true := by decide +kernel
theorem nl_k : Cond.classLink RX3 89 eNE ∈ WT := by decide +kernel
theorem nl_i : Cond.initialized eNE ∈ WT := by decide +kernel
section VTHROWN
variable {γ : gT} {g : GT} {cc : ByteArray} {nL : Nat} {rm : Room} {G : Mem} {k n : Nat} {pc : Nat} {L : List (Option Value)} {rest : List Value} {rt : Option FieldType} {Qp : Option Value → Mem → Prop} {Xp : String → Mem → Prop} {is : Nat} {text : String}
set_option maxHeartbeats 4000000 in
theorem v_throwN (hs : (RX3, is, text) ∈ XS) (Q : EndQ γ g rm rt [] Qp Xp) (hx : Xp eNE G)
    (d0 : decode cc pc = .ok (.new 89, 3)) (d3 : decode cc (pc + 3) = .ok (.dup, 1)) (d4 : decode cc (pc + 4) = .ok (.ldc is, 2)) (d6 : decode cc (pc + 6) = .ok (.invokespecial 93, 3)) (d9 : decode cc (pc + 9) = .ok (.athrow, 1))
    (hr1 : 20 ≤ rm.frames) (hr2 : 1000 ≤ rm.locals) (hl : (rest.map fun v => v.category).sum ≤ 8) (hk : k + 1 ≤ rm.cells) (hn : n + 6 ≤ rm.slots) : V γ g cc nL RX3 rm G k n pc L rest := by
  obtain ⟨p, l, e, R, s, m, args, below, meth, c, Q0⟩ := γ
  obtain ⟨rfl, hr, ht⟩ := Q
  intro C H locs ls hP hS hL T hT X
  obtain ⟨c1, c2, c3, c4, c5, rfl, hG, c8, rfl⟩ := C
  obtain ⟨sa, hsa⟩ := hG.2.2.1 _ hs
  have htr : e.platform.stackTraces = false := (show e.platform.stackTraces = (gl g).stackTraces by rw [X.admits.platform]).trans hG.2.2.2.2.2.2
  have Y := vx_rebase X (R' := { frames := R.frames, locals := R.locals, cells := 1, slots := 6 }) (Nat.le_refl _) (Nat.le_refl _) hk hn
  obtain ⟨s', hA⟩ : ∃ z, z = (T.setVm s.vm).setFrames (.invoking m args :: below) := ⟨_, rfl⟩
  rw [← hA] at Y
  have hvm : s'.vm = s.vm := by rw [hA]; rfl
  have hhp : s'.heap = H := by rw [hA]; exact hT
  have hW0 : s.WarmedH s'.vm := by rw [hvm]; exact State.WarmedH.refl s
  have hat : ∀ w ∈ NL.filter vx_no, w.before args s = true := fun w hw => (nl_w w hw).elim (c5 w) (fun h => h.elim (fun h => va_Nw.use (nt_tab h) (hG.2.1 w h)) (fun h => by obtain ⟨x, hx, rfl⟩ := List.mem_map.mp h; exact dc_of c5 x hx))
  have hat' : ∀ w ∈ NL.filter vx_no, w.before args s' = true := fun w hw => vx_ot_at hW0 hvm.symm (nl_g w (List.mem_cons_of_mem _ (List.mem_cons_of_mem _ hw))) (hat w hw)
  have hU' : vx_Zq Bundle.tN "UNASSIGNED_STACK" Bundle.steD (AL g) s' s'.heap := by rw [hhp]; exact vx_Zq.moved hW0.alike (hG.2.2.2.2.1.1.kept hS.2.1)
  have hN' : vx_Zq Bundle.tN "SUPPRESSED_SENTINEL" Bundle.listD (AL g) s' s'.heap := by rw [hhp]; exact vx_Zq.moved hW0.alike (hG.2.2.2.2.1.2.1.kept hS.2.1)
  have h : ∀ w ∈ NL, w.before args s' = true := vx_own hat' (vx_isRefq hU'.1) (vx_isRefq hN'.1) hU'.2.word hN'.2.word
  have h1 : ∀ w ∈ Bundle.throwableAtoms, w.before args s' = true := fun w hw => h w (List.mem_append_left _ hw)
  have h2 : ∀ w ∈ Bundle.throwableSAtoms, w.before args s' = true := fun w hw => h w (List.mem_append_right _ (List.mem_append_left _ hw))
  have h3 : ∀ w ∈ Bundle.passSAtoms eNE "java/lang/RuntimeException" 13 sixN, w.before args s' = true := fun w hw => h w (List.mem_append_right _ (List.mem_append_right _ (List.mem_append_left _ hw)))
  have h4 : ∀ w ∈ Bundle.chainSAtoms "java/lang/RuntimeException" ["java/lang/Exception"], w.before args s' = true := fun w hw => h w (List.mem_append_right _ (List.mem_append_right _ (List.mem_append_right _ (List.mem_append_left _ hw))))
  have h5 : ∀ w ∈ endAt RX3 93 eNE, w.before args s' = true := fun w hw => h w (List.mem_append_right _ (List.mem_append_right _ (List.mem_append_right _ (List.mem_append_right _ hw))))
  have hown' : s'.vm.findClass RX3 = some m.cls := by rw [hvm]; exact c4
  have hk' : (Cond.classLink RX3 89 eNE).before args s' = true := vx_ot_at hW0 hvm.symm (nl_g _ List.mem_cons_self) (c5 _ nl_k)
  have hini' : (Cond.initialized eNE).before args s' = true := vx_ot_at hW0 hvm.symm (nl_g _ (List.mem_cons_of_mem _ List.mem_cons_self)) (c5 _ nl_i)
  have hins : (Cond.instantiable eNE 6).before args s' = true := h5 _ (by simp [endAt])
  obtain ⟨vm₁, cX, kX, hfX, hkX, -, -, X₁, st1⟩ := Y.newCold c1 (own := RX3) (C := eNE) (index := 89) (n := 6) hown' hk' hins hini'
    (g := F0 m pc ls rest) rfl (by rw [c2]; exact d0) (Nat.le_refl _) (Nat.le_refl _)
  generalize hT1 : (T.setVm vm₁).pushCell { cls := cX, slots := kX.instanceTypes.map defaultValue, vm := .none } = T1 at X₁ st1
  have hcat : (Value.ref T.heap.size).category = 1 := rfl
  have hcellA : T1.heap[T.heap.size]? = some (freshCell cX kX) := by rw [← hT1]; exact State.heap_pushCell_size _ _
  have d3' : decode c.code (pc + 3) = .ok (.dup, 1) := by rw [c2]; exact d3
  have d4' : decode c.code (pc + 4) = .ok (.ldc is, 2) := by rw [c2]; exact d4
  have hstr' : vk_R RX3 is text sa s' := vk_R.warm hW0 hsa
  obtain ⟨U, hsteps, hrun, hend, hW, hsame, ce, hce, hcv, hcl0⟩ := ctorN X₁ c1 htr (own := RX3) (cls' := eNE) (Y1 := "java/lang/RuntimeException") (names := ["java/lang/Exception"]) (ic := 93) (i1 := 13) (b1 := sixN) hown' (by decide) (by decide) (by decide)
    (by decide +kernel) (by decide +kernel) (by decide +kernel) (by decide +kernel) h1 h2 h3 h4 h5 (fun x hx => nomatch hx) hfX hkX hcellA (by rw [hhp, hT]; exact Nat.le_refl _) (msg := .ref sa) rfl
    (g := { method := m, pc := pc + 6, locals := ls, stack := .ref sa :: .ref T.heap.size :: .ref T.heap.size :: rest, locked := none }) rfl (hL.1.trans c3.symm) rfl rfl (rest := rest) rfl
    (by rw [c2]; exact d6) (by rw [c2]; exact d9) (fun x hx => by rw [ht] at hx; cases hx) (by show 5 < R.frames; omega) (by simp only [List.map_cons, List.sum_cons, hcat]; show 2 * 0 + (1 + (rest.map fun v => v.category).sum) + (13 * 3 + 42) ≤ R.locals; omega) c8
  obtain ⟨f1, f2⟩ := vx_frame hsame
  rw [hhp] at f1 f2
  have f2' : ∀ q : Nat, q < H.size → U.heap[q]? = H[q]? := fun q hq => f2 q hq (fun z hz => nomatch hz)
  have hWs : s.WarmedH U.vm := State.WarmedH.trans hW0 hW
  have hcl : s.vm.findClass eNE = some ce.cls := by
    rw [hvm] at hcl0
    exact hcl0
  have hall : s.sameButNew ({ U with vm := s.vm } : State) locs R.cells R.slots := by
    subst hA
    obtain ⟨e1, e2⟩ := hsame
    rw [State.setFrames_setFrames] at e1
    have h2 : (T.setVm s.vm).sameButNew ({ U with vm := s.vm } : State) [] (0 + 1) (0 + 6) := ⟨e1, e2⟩
    have h3 := X.same.trans h2
    rw [List.append_nil] at h3
    exact h3.mono hk hn
  refine ⟨U, ?_, .threw T.heap.size, hrun, hend, Or.inr ⟨T.heap.size, rfl, eNE, ce, locs, ⟨⟨G, hx, WP_kept hP f2'⟩, Nat.le_trans hS.1 f1, fun q q1 q2 => (f2' q (Nat.lt_of_lt_of_le q1 hS.1)).trans (hS.2.1 q q1 q2)⟩, hce, hcv, hcl, hWs, hall, hS.2.2⟩⟩
  refine st1 _ ?_
  show Steps p.tables e below (T1.setTop { method := m, pc := pc + 3, locals := ls, stack := .ref T.heap.size :: rest, locked := none }) _
  jvm_step X₁.here [X₁.here.top, c1, d3', Value.category]
  exact X₁.ldcString c1 (own := RX3) (text := text) (index := is) (a := sa) hown' hstr'.1 hstr'.2
    (g := { method := m, pc := pc + 4, locals := ls, stack := .ref T.heap.size :: .ref T.heap.size :: rest, locked := none }) rfl d4' _ hsteps
set_option maxHeartbeats 4000000 in
theorem v_throwNW (hs : (RX3, is, text) ∈ XS) (Q : EndQ γ g rm rt [] Qp Xp) (hx : Xp eNE G)
    (d0 : decode cc pc = .ok (.new 89, 3)) (d3 : decode cc (pc + 3) = .ok (.dup, 1)) (d4 : decode cc (pc + 4) = .ok (.ldc_w is, 3)) (d6 : decode cc (pc + 7) = .ok (.invokespecial 93, 3)) (d9 : decode cc (pc + 10) = .ok (.athrow, 1))
    (hr1 : 20 ≤ rm.frames) (hr2 : 1000 ≤ rm.locals) (hl : (rest.map fun v => v.category).sum ≤ 8) (hk : k + 1 ≤ rm.cells) (hn : n + 6 ≤ rm.slots) : V γ g cc nL RX3 rm G k n pc L rest := by
  obtain ⟨p, l, e, R, s, m, args, below, meth, c, Q0⟩ := γ
  obtain ⟨rfl, hr, ht⟩ := Q
  intro C H locs ls hP hS hL T hT X
  obtain ⟨c1, c2, c3, c4, c5, rfl, hG, c8, rfl⟩ := C
  obtain ⟨sa, hsa⟩ := hG.2.2.1 _ hs
  have htr : e.platform.stackTraces = false := (show e.platform.stackTraces = (gl g).stackTraces by rw [X.admits.platform]).trans hG.2.2.2.2.2.2
  have Y := vx_rebase X (R' := { frames := R.frames, locals := R.locals, cells := 1, slots := 6 }) (Nat.le_refl _) (Nat.le_refl _) hk hn
  obtain ⟨s', hA⟩ : ∃ z, z = (T.setVm s.vm).setFrames (.invoking m args :: below) := ⟨_, rfl⟩
  rw [← hA] at Y
  have hvm : s'.vm = s.vm := by rw [hA]; rfl
  have hhp : s'.heap = H := by rw [hA]; exact hT
  have hW0 : s.WarmedH s'.vm := by rw [hvm]; exact State.WarmedH.refl s
  have hat : ∀ w ∈ NL.filter vx_no, w.before args s = true := fun w hw => (nl_w w hw).elim (c5 w) (fun h => h.elim (fun h => va_Nw.use (nt_tab h) (hG.2.1 w h)) (fun h => by obtain ⟨x, hx, rfl⟩ := List.mem_map.mp h; exact dc_of c5 x hx))
  have hat' : ∀ w ∈ NL.filter vx_no, w.before args s' = true := fun w hw => vx_ot_at hW0 hvm.symm (nl_g w (List.mem_cons_of_mem _ (List.mem_cons_of_mem _ hw))) (hat w hw)
  have hU' : vx_Zq Bundle.tN "UNASSIGNED_STACK" Bundle.steD (AL g) s' s'.heap := by rw [hhp]; exact vx_Zq.moved hW0.alike (hG.2.2.2.2.1.1.kept hS.2.1)
  have hN' : vx_Zq Bundle.tN "SUPPRESSED_SENTINEL" Bundle.listD (AL g) s' s'.heap := by rw [hhp]; exact vx_Zq.moved hW0.alike (hG.2.2.2.2.1.2.1.kept hS.2.1)
  have h : ∀ w ∈ NL, w.before args s' = true := vx_own hat' (vx_isRefq hU'.1) (vx_isRefq hN'.1) hU'.2.word hN'.2.word
  have h1 : ∀ w ∈ Bundle.throwableAtoms, w.before args s' = true := fun w hw => h w (List.mem_append_left _ hw)
  have h2 : ∀ w ∈ Bundle.throwableSAtoms, w.before args s' = true := fun w hw => h w (List.mem_append_right _ (List.mem_append_left _ hw))
  have h3 : ∀ w ∈ Bundle.passSAtoms eNE "java/lang/RuntimeException" 13 sixN, w.before args s' = true := fun w hw => h w (List.mem_append_right _ (List.mem_append_right _ (List.mem_append_left _ hw)))
  have h4 : ∀ w ∈ Bundle.chainSAtoms "java/lang/RuntimeException" ["java/lang/Exception"], w.before args s' = true := fun w hw => h w (List.mem_append_right _ (List.mem_append_right _ (List.mem_append_right _ (List.mem_append_left _ hw))))
  have h5 : ∀ w ∈ endAt RX3 93 eNE, w.before args s' = true := fun w hw => h w (List.mem_append_right _ (List.mem_append_right _ (List.mem_append_right _ (List.mem_append_right _ hw))))
  have hown' : s'.vm.findClass RX3 = some m.cls := by rw [hvm]; exact c4
  have hk' : (Cond.classLink RX3 89 eNE).before args s' = true := vx_ot_at hW0 hvm.symm (nl_g _ List.mem_cons_self) (c5 _ nl_k)
  have hini' : (Cond.initialized eNE).before args s' = true := vx_ot_at hW0 hvm.symm (nl_g _ (List.mem_cons_of_mem _ List.mem_cons_self)) (c5 _ nl_i)
  have hins : (Cond.instantiable eNE 6).before args s' = true := h5 _ (by simp [endAt])
  obtain ⟨vm₁, cX, kX, hfX, hkX, -, -, X₁, st1⟩ := Y.newCold c1 (own := RX3) (C := eNE) (index := 89) (n := 6) hown' hk' hins hini'
    (g := F0 m pc ls rest) rfl (by rw [c2]; exact d0) (Nat.le_refl _) (Nat.le_refl _)
  generalize hT1 : (T.setVm vm₁).pushCell { cls := cX, slots := kX.instanceTypes.map defaultValue, vm := .none } = T1 at X₁ st1
  have hcat : (Value.ref T.heap.size).category = 1 := rfl
  have hcellA : T1.heap[T.heap.size]? = some (freshCell cX kX) := by rw [← hT1]; exact State.heap_pushCell_size _ _
  have d3' : decode c.code (pc + 3) = .ok (.dup, 1) := by rw [c2]; exact d3
  have d4' : decode c.code (pc + 4) = .ok (.ldc_w is, 3) := by rw [c2]; exact d4
  have hstr' : vk_R RX3 is text sa s' := vk_R.warm hW0 hsa
  obtain ⟨U, hsteps, hrun, hend, hW, hsame, ce, hce, hcv, hcl0⟩ := ctorN X₁ c1 htr (own := RX3) (cls' := eNE) (Y1 := "java/lang/RuntimeException") (names := ["java/lang/Exception"]) (ic := 93) (i1 := 13) (b1 := sixN) hown' (by decide) (by decide) (by decide)
    (by decide +kernel) (by decide +kernel) (by decide +kernel) (by decide +kernel) h1 h2 h3 h4 h5 (fun x hx => nomatch hx) hfX hkX hcellA (by rw [hhp, hT]; exact Nat.le_refl _) (msg := .ref sa) rfl
    (g := { method := m, pc := pc + 7, locals := ls, stack := .ref sa :: .ref T.heap.size :: .ref T.heap.size :: rest, locked := none }) rfl (hL.1.trans c3.symm) rfl rfl (rest := rest) rfl
    (by rw [c2]; exact d6) (by rw [c2]; exact d9) (fun x hx => by rw [ht] at hx; cases hx) (by show 5 < R.frames; omega) (by simp only [List.map_cons, List.sum_cons, hcat]; show 2 * 0 + (1 + (rest.map fun v => v.category).sum) + (13 * 3 + 42) ≤ R.locals; omega) c8
  obtain ⟨f1, f2⟩ := vx_frame hsame
  rw [hhp] at f1 f2
  have f2' : ∀ q : Nat, q < H.size → U.heap[q]? = H[q]? := fun q hq => f2 q hq (fun z hz => nomatch hz)
  have hWs : s.WarmedH U.vm := State.WarmedH.trans hW0 hW
  have hcl : s.vm.findClass eNE = some ce.cls := by
    rw [hvm] at hcl0
    exact hcl0
  have hall : s.sameButNew ({ U with vm := s.vm } : State) locs R.cells R.slots := by
    subst hA
    obtain ⟨e1, e2⟩ := hsame
    rw [State.setFrames_setFrames] at e1
    have h2 : (T.setVm s.vm).sameButNew ({ U with vm := s.vm } : State) [] (0 + 1) (0 + 6) := ⟨e1, e2⟩
    have h3 := X.same.trans h2
    rw [List.append_nil] at h3
    exact h3.mono hk hn
  refine ⟨U, ?_, .threw T.heap.size, hrun, hend, Or.inr ⟨T.heap.size, rfl, eNE, ce, locs, ⟨⟨G, hx, WP_kept hP f2'⟩, Nat.le_trans hS.1 f1, fun q q1 q2 => (f2' q (Nat.lt_of_lt_of_le q1 hS.1)).trans (hS.2.1 q q1 q2)⟩, hce, hcv, hcl, hWs, hall, hS.2.2⟩⟩
  refine st1 _ ?_
  show Steps p.tables e below (T1.setTop { method := m, pc := pc + 3, locals := ls, stack := .ref T.heap.size :: rest, locked := none }) _
  jvm_step X₁.here [X₁.here.top, c1, d3', Value.category]
  exact X₁.ldcStringW c1 (own := RX3) (text := text) (index := is) (a := sa) hown' hstr'.1 hstr'.2
    (g := { method := m, pc := pc + 4, locals := ls, stack := .ref T.heap.size :: .ref T.heap.size :: rest, locked := none }) rfl d4' _ hsteps
end VTHROWN
