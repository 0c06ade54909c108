section
variable {p : Program} {l : Launch} {e : Env} {R : Room} {s : State} {m : MethodId} {args : Array Value} {below : List Frame} {meth : Method} {c : Code} {H : Heap} {locs : List Loc} {cells slots : Nat}
variable {T : State}
theorem vx_callVN (X : Stand p l e R s m args below meth c T locs cells slots) (hexec : p.tables.exec = Jvm.exec) {own C : String} {index : Nat} {host : String} {y : MethodName} {bytes : ByteArray} {maxL : Nat} {ret : Option FieldType}
    (hown : s.vm.findClass own = some m.cls) (hlink : (Cond.methodLinkNest own index y host).before args s = true) (hinst : (Cond.instanceMethod y).before args s = true) (hsel : (Cond.selects C y y).before args s = true)
    (hcode : (Cond.code y bytes maxL ret).before args s = true) (hy : y.cls ≠ "java/lang/invoke/MethodHandle" ∧ y.cls ≠ "java/lang/invoke/VarHandle")
    {W : Nat} {Pre : Pt → Array Value → Prop} {Post : Pt → Array Value → Option Value → Pt → Prop} {PostX : Pt → Array Value → Addr → Pt → Prop} (hK : vx_Back l R p e below s args y 3 W Pre Post PostX)
    {b : Addr} {cellB : Cell} (hcell : T.heap[b]? = some cellB) (hobj : cellB.vm.isStatics = false) (hcls : s.vm.findClass C = some cellB.cls)
    {g : JFrame} (hg : g.method = m) (hsize : g.locals.size = c.maxLocals) {argsL rest : List Value} (hlen : ∀ sig, parseMethodDescriptor y.desc = some sig → argsL.length = sig.parameters.length)
    (hstack : g.stack = argsL.reverse ++ .ref b :: rest) (hW : 2 * g.monitorRoom + (rest.map fun v => v.category).sum ≤ W) (hdg : decode c.code g.pc = .ok (.invokevirtual index, 3))
    (hpre : ∀ vm₁, s.WarmedH vm₁ → Pre ⟨T.setVm vm₁, locs, cells, slots⟩ (Value.ref b :: argsL).toArray) :
    (∃ (v : Option Value) (vm₁ : Vm) (B : Pt), s.WarmedH vm₁ ∧ Stand p l e R s m args below meth c B.U B.locs B.cells B.slots ∧ Post ⟨T.setVm vm₁, locs, cells, slots⟩ (Value.ref b :: argsL).toArray v B ∧
      ∀ target, Steps p.tables e below (B.U.setTop { g with pc := g.pc + 3, stack := v.toList ++ rest }) target → Steps p.tables e below (T.setTop g) target) ∨
    (∃ (q : Addr) (vm₁ : Vm) (B : Pt), s.WarmedH vm₁ ∧ Stand p l e R s m args below meth c B.U B.locs B.cells B.slots ∧ PostX ⟨T.setVm vm₁, locs, cells, slots⟩ (Value.ref b :: argsL).toArray q B ∧
      Steps p.tables e below (T.setTop g) ((B.U.setTop { g with stack := rest }).pushFrame (.throwing q))) := by
  obtain ⟨mk, methM, hnamed, hmethM, hstM, habM⟩ := Cond.instanceMethod_spec hinst
  obtain ⟨methM', cM, hmethM', -, -, -, -, -, -, hsigM⟩ := Cond.code_spec hnamed hcode
  cases hmethM.symm.trans hmethM'
  obtain ⟨c2, r2, m2, q1, q2, q3, q4, kP, hkP, hkPi⟩ := Cond.selects_spec hsel
  cases hcls.symm.trans q1
  cases (State.methodFound?_of_named hnamed hy).symm.trans q2
  cases hnamed.symm.trans q3
  have hselP : selectMethod e.platform s.vm cellB.cls mk = .method mk := by rw [Launch.admits_selectMethod X.admits]; exact q4
  obtain ⟨vm₁, X₁, hstep₁⟩ := X.invokevirtualNest hexec hown hlink hnamed hmethM hstM hkP hkPi hy (a := b) (cell := cellB) hcell
    (fun z h => by rw [h] at hobj; cases hobj) hselP hmethM habM hkP hkPi (g := g) hg (argsL := argsL) (rest := rest) (hlen _ hsigM) hstack hdg
  rcases hK m meth c ⟨T.setVm vm₁, locs, cells, slots⟩ { g with stack := rest } (.invokevirtual index) mk (Value.ref b :: argsL).toArray X₁ hg hsize hdg hW (X₁.named hnamed) (hpre vm₁ X₁.warmed) with ⟨v, B, X', hpost, hsteps⟩ | ⟨q, B, X', hpost, hsteps⟩
  · exact Or.inl ⟨v, vm₁, B, X₁.warmed, X', hpost, fun target h => hstep₁ _ fun acts => by rw [doInvoke_state]; exact hsteps.trans h⟩
  · exact Or.inr ⟨q, vm₁, B, X₁.warmed, X', hpost, hstep₁ _ fun acts => by rw [doInvoke_state]; exact hsteps⟩
theorem vx_callSN (X : Stand p l e R s m args below meth c T locs cells slots) (hexec : p.tables.exec = Jvm.exec) {own : String} {index : Nat} {host : String} {y : MethodName} {bytes : ByteArray} {maxL : Nat} {ret : Option FieldType}
    (hown : s.vm.findClass own = some m.cls) (hlink : (Cond.methodLinkNest own index y host).before args s = true) (hstat : (Cond.static y).before args s = true) (hinit : (Cond.initialized y.cls).before args s = true)
    (hcode : (Cond.code y bytes maxL ret).before args s = true) (hy : y.cls ≠ "java/lang/invoke/MethodHandle" ∧ y.cls ≠ "java/lang/invoke/VarHandle")
    {W : Nat} {Pre : Pt → Array Value → Prop} {Post : Pt → Array Value → Option Value → Pt → Prop} {PostX : Pt → Array Value → Addr → Pt → Prop} (hK : vx_Back l R p e below s args y 3 W Pre Post PostX)
    {g : JFrame} (hg : g.method = m) (hsize : g.locals.size = c.maxLocals) {argsL rest : List Value} (hlen : ∀ sig, parseMethodDescriptor y.desc = some sig → argsL.length = sig.parameters.length)
    (hstack : g.stack = argsL.reverse ++ rest) (hW : 2 * g.monitorRoom + (rest.map fun v => v.category).sum ≤ W) (hdg : decode c.code g.pc = .ok (.invokestatic index, 3))
    (hpre : ∀ vm₁, s.WarmedH vm₁ → Pre ⟨T.setVm vm₁, locs, cells, slots⟩ argsL.toArray) :
    (∃ (v : Option Value) (vm₁ : Vm) (B : Pt), s.WarmedH vm₁ ∧ Stand p l e R s m args below meth c B.U B.locs B.cells B.slots ∧ Post ⟨T.setVm vm₁, locs, cells, slots⟩ argsL.toArray v B ∧
      ∀ target, Steps p.tables e below (B.U.setTop { g with pc := g.pc + 3, stack := v.toList ++ rest }) target → Steps p.tables e below (T.setTop g) target) ∨
    (∃ (q : Addr) (vm₁ : Vm) (B : Pt), s.WarmedH vm₁ ∧ Stand p l e R s m args below meth c B.U B.locs B.cells B.slots ∧ PostX ⟨T.setVm vm₁, locs, cells, slots⟩ argsL.toArray q B ∧
      Steps p.tables e below (T.setTop g) ((B.U.setTop { g with stack := rest }).pushFrame (.throwing q))) := by
  obtain ⟨mk, hnamed⟩ := Cond.code_named hcode
  obtain ⟨methM, cM, hmethM, -, -, -, -, -, -, hsigM⟩ := Cond.code_spec hnamed hcode
  have hstatic : methM.isStatic = true := Cond.static_spec hnamed hmethM hstat
  obtain ⟨kP, hkP, -⟩ := className_of_methodNamed hnamed
  have hinitP : kP.init = .initialized := Cond.initialized_spec (findClass_of_methodNamed hnamed) hkP hinit
  obtain ⟨vm₁, X₁, hstep₁⟩ := X.invokestaticNest hexec hown hlink hnamed hmethM hstatic hkP hinitP hy (g := g) hg (argsL := argsL) (rest := rest) (hlen _ hsigM) hstack hdg
  rcases hK m meth c ⟨T.setVm vm₁, locs, cells, slots⟩ { g with stack := rest } (.invokestatic index) mk argsL.toArray X₁ hg hsize hdg hW (X₁.named hnamed) (hpre vm₁ X₁.warmed) with ⟨v, B, X', hpost, hsteps⟩ | ⟨q, B, X', hpost, hsteps⟩
  · exact Or.inl ⟨v, vm₁, B, X₁.warmed, X', hpost, fun target h => hstep₁ _ fun acts => by rw [doInvoke_state]; exact hsteps.trans h⟩
  · exact Or.inr ⟨q, vm₁, B, X₁.warmed, X', hpost, hstep₁ _ fun acts => by rw [doInvoke_state]; exact hsteps⟩
theorem vx_runVN {y : MethodName} {bytes cc : ByteArray} {maxL nL mc ms n index : Nat} {ret : Option FieldType} {ws : List Cond} {rm : Room} {Pc : Array Value → State → Prop} {Qc : Array Value → State → Outcome → State → Prop} {XC : String → State → State → Prop} {free : Addr → Prop} {Ts : List Cond} {own C host : String} {b : Addr} {As rest : List Value} {g : JFrame}
    (S : CallFix p m c cc nL s args Ts own) (hM : vx_Met l y ws rm Pc Qc XC mc ms free) (cw : va_CN R s args own index y host bytes maxL ret ws rm mc ms n ∧ (Cond.instanceMethod y).before args s = true ∧ (Cond.selects C y y).before args s = true) (hp : PreV s H C b Pc As)
    (hg : g.method = m) (hn : As.length = n) (hsize : g.locals.size = nL) (hstack : g.stack = As.reverse ++ .ref b :: rest) (hW : 2 * g.monitorRoom + (rest.map fun v => v.category).sum ≤ 8) (hdg : decode cc g.pc = .ok (.invokevirtual index, 3)) (hf : cells + mc ≤ R.cells ∧ slots + ms ≤ R.slots) :
    vx_Run p l e R s m args below meth c H locs cells slots mc ms g rest (Qc (Value.ref b :: As).toArray) XC free := by
  obtain ⟨⟨⟨hrc, hrs, hfr, hlo, hws, hcw⟩, hcode, hini, hy, hlen, hl⟩, hx1, hx2⟩ := cw
  have hK : vx_Back l R p e below s args y 3 8 (PreOf R mc ms Pc) (PostOf Qc mc ms free) (vx_Post XC mc ms free) := vx_back (bytes := bytes) (maxL := maxL) (ret := ret) hM hp.1 hrc hrs hfr hlo hws hcw (fun a' U hW => word_at hW (Or.inl (by first | rfl | simp [Cond.onTables, Cond.keeps, Cond.steady])) hini)
  obtain ⟨hx, hb, hml, ho, -⟩ := S
  obtain ⟨-, ⟨cellB, hcB, hoB, hclB⟩, hPc⟩ := hp
  intro T hT X
  rcases vx_callVN X hx (C := C) (bytes := bytes) (maxL := maxL) (ret := ret) ho hl hx1 hx2 hcode hy hK (by rw [hT]; exact hcB) hoB hclB hg (hsize.trans hml.symm) (argsL := As) (rest := rest) (fun sig h => hn.trans (hlen sig h)) hstack hW (by rw [hb]; exact hdg)
    (fun vm₁ hW₁ => ⟨hf.1, hf.2, hPc (T.setVm vm₁) hT hW₁⟩) with ⟨v, vm₁, ⟨U', l2, c2, s2⟩, hW₁, X', ⟨g', mk, t, L, e1, e2, hq, h1, hL, h2, h3⟩, st⟩ | ⟨q, vm₁, ⟨U', l2, c2, s2⟩, hW₁, X', ⟨g', mk, t, L, E, ce, e1, e2, hq, hce, hcv, hcl, h1, hL, h2, h3⟩, st⟩
  · dsimp only [Pt.U, Pt.locs, Pt.cells, Pt.slots] at X' e1 e2 h1 h2 h3 st
    subst h1; subst h2; subst h3
    exact Or.inl ⟨v, (T.setVm vm₁).calling g' mk (Value.ref b :: As).toArray, t, U', L, hT, X', hL, e1, e2, hq, st⟩
  · dsimp only [Pt.U, Pt.locs, Pt.cells, Pt.slots] at X' e1 e2 h1 h2 h3 st hcl
    subst h1; subst h2; subst h3
    exact Or.inr ⟨q, (T.setVm vm₁).calling g' mk (Value.ref b :: As).toArray, t, U', L, E, ce, hT, X', hL, e1, e2, hq, hce, hcv, vx_cls hW₁ hcl, st⟩
theorem vx_runSN {y : MethodName} {bytes cc : ByteArray} {maxL nL mc ms n index : Nat} {ret : Option FieldType} {ws : List Cond} {rm : Room} {Pc : Array Value → State → Prop} {Qc : Array Value → State → Outcome → State → Prop} {XC : String → State → State → Prop} {free : Addr → Prop} {Ts : List Cond} {own host : String} {As rest : List Value} {g : JFrame}
    (S : CallFix p m c cc nL s args Ts own) (hM : vx_Met l y ws rm Pc Qc XC mc ms free) (cw : va_CN R s args own index y host bytes maxL ret ws rm mc ms n ∧ (Cond.static y).before args s = true ∧ True) (hp : PreS s H Pc As)
    (hg : g.method = m) (hn : As.length = n) (hsize : g.locals.size = nL) (hstack : g.stack = As.reverse ++ rest) (hW : 2 * g.monitorRoom + (rest.map fun v => v.category).sum ≤ 8) (hdg : decode cc g.pc = .ok (.invokestatic index, 3)) (hf : cells + mc ≤ R.cells ∧ slots + ms ≤ R.slots) :
    vx_Run p l e R s m args below meth c H locs cells slots mc ms g rest (Qc As.toArray) XC free := by
  obtain ⟨⟨⟨hrc, hrs, hfr, hlo, hws, hcw⟩, hcode, hini, hy, hlen, hl⟩, hx1, hx2⟩ := cw
  have hK : vx_Back l R p e below s args y 3 8 (PreOf R mc ms Pc) (PostOf Qc mc ms free) (vx_Post XC mc ms free) := vx_back (bytes := bytes) (maxL := maxL) (ret := ret) hM hp.1 hrc hrs hfr hlo hws hcw (fun a' U hW => word_at hW (Or.inl (by first | rfl | simp [Cond.onTables, Cond.keeps, Cond.steady])) hini)
  obtain ⟨hx, hb, hml, ho, -⟩ := S
  have hPc := hp.2
  intro T hT X
  rcases vx_callSN X hx (bytes := bytes) (maxL := maxL) (ret := ret) ho hl hx1 hini hcode hy hK hg (hsize.trans hml.symm) (argsL := As) (rest := rest) (fun sig h => hn.trans (hlen sig h)) hstack hW (by rw [hb]; exact hdg)
    (fun vm₁ hW₁ => ⟨hf.1, hf.2, hPc (T.setVm vm₁) hT hW₁⟩) with ⟨v, vm₁, ⟨U', l2, c2, s2⟩, hW₁, X', ⟨g', mk, t, L, e1, e2, hq, h1, hL, h2, h3⟩, st⟩ | ⟨q, vm₁, ⟨U', l2, c2, s2⟩, hW₁, X', ⟨g', mk, t, L, E, ce, e1, e2, hq, hce, hcv, hcl, h1, hL, h2, h3⟩, st⟩
  · dsimp only [Pt.U, Pt.locs, Pt.cells, Pt.slots] at X' e1 e2 h1 h2 h3 st
    subst h1; subst h2; subst h3
    exact Or.inl ⟨v, (T.setVm vm₁).calling g' mk As.toArray, t, U', L, hT, X', hL, e1, e2, hq, st⟩
  · dsimp only [Pt.U, Pt.locs, Pt.cells, Pt.slots] at X' e1 e2 h1 h2 h3 st hcl
    subst h1; subst h2; subst h3
    exact Or.inr ⟨q, (T.setVm vm₁).calling g' mk As.toArray, t, U', L, E, ce, hT, X', hL, e1, e2, hq, hce, hcv, vx_cls hW₁ hcl, st⟩
end
-- contracts over the memory
def Pc1 (g : GT) (as : List Value) (G : Mem) : Array Value → State → Prop := fun a U => a = as.toArray ∧ Gc g U U.heap ∧ WP g G U.heap
theorem Pc1_blind (g : GT) (as : List Value) (G : Mem) : FrameBlind (Pc1 g as G) := fun a _ f mk h => ⟨h.1, Gc_call f mk a h.2.1, h.2.2⟩
def Qc1 (g : GT) (Qp : Option Value → Mem → Prop) : Array Value → State → Outcome → State → Prop := fun _ st oc t => (∃ v G', oc = .returned v ∧ Qp v G' ∧ WP g G' t.heap) ∧ va_F (AL g) st t
def XC1 (g : GT) (Xp : String → Mem → Prop) : String → State → State → Prop := fun E st t => (∃ G', Xp E G' ∧ WP g G' t.heap) ∧ va_F (AL g) st t
/-- from the memory G, with the arguments as, the method returns a value with Qp, or throws an exception of a class with Xp -/
def Ctr (g : GT) (y : MethodName) (cc : ByteArray) (mL : Nat) (rt : Option FieldType) (rm : Room) (as : List Value) (G : Mem) (Qp : Option Value → Mem → Prop) (Xp : String → Mem → Prop) : Prop :=
  vx_Met (gl g) y (Cond.code y cc mL rt :: WT) rm (Pc1 g as G) (Qc1 g Qp) (XC1 g Xp) rm.cells rm.slots (AL g)
/-- .. a method with handlers -/
def CtrH (g : GT) (y : MethodName) (cc : ByteArray) (mL : Nat) (rt : Option FieldType) (hh : List (Nat × Nat × Nat × Nat)) (rm : Room) (as : List Value) (G : Mem) (Qp : Option Value → Mem → Prop) (Xp : String → Mem → Prop) : Prop :=
  vx_Met (gl g) y (Cond.codeWith y cc mL rt hh :: WT) rm (Pc1 g as G) (Qc1 g Qp) (XC1 g Xp) rm.cells rm.slots (AL g)
/-- what a body owes at its end; its handlers -/
def EndQ (γ : gT) (g : GT) (rm : Room) (rt : Option FieldType) (tb : List ExceptionTableEntry) (Qp : Option Value → Mem → Prop) (Xp : String → Mem → Prop) : Prop := match γ with
  | (_, _, _, _, s, _, args, below, meth, c, Q) => Q = vx_MQ below (Qc1 g Qp) (XC1 g Xp) args s rm.cells rm.slots (AL g) ∧ meth.sig.returnType = rt ∧ c.exceptionTable.toList = tb
def NoX : String → Mem → Prop := fun _ _ => False
theorem Lh_entry {as : List Value} {n : Nat} {L : List (Option Value)} (h : (lg_sl as).length ≤ n) (hL : lvA L = lv_args 0 as) : Lh ((lg_sl as ++ List.replicate (n - (lg_sl as).length) Slot.unset).toArray) n L := by
  obtain ⟨h1, h2, h3⟩ := lv_entry as h
  exact ⟨h1, h2, fun i v hi => h3 (i, v) (by rw [← hL]; exact lvA_mem.mpr hi)⟩
theorem ctr_of {g : GT} {y : MethodName} {cc : ByteArray} {mL : Nat} {rt : Option FieldType} {rm : Room} {as : List Value} {G : Mem} {Qp : Option Value → Mem → Prop} {Xp : String → Mem → Prop} (L : List (Option Value)) (hy : plainName y.cls = true) (hn : (lg_sl as).length ≤ mL) (hL : lvA L = lv_args 0 as)
    (body : ∀ γ : gT, EndQ γ g rm rt [] Qp Xp → V γ g cc mL y.cls rm G 0 0 0 L []) : Ctr g y cc mL rt rm as G Qp Xp := by
  refine vx_ofW (cc := cc) (maxL := mL) (ret := rt) hy rfl ?_
  intro p e s m args below meth c s₁ B hml ht hv
  obtain ⟨rfl, hG, hP⟩ := hv
  have hts := atoms_spec (ws := Cond.code y cc mL rt :: WT) B.pre
  have hb := body (p, gl g, e, (headSpec (Cond.code y cc mL rt :: WT) rm).room, s, m, as.toArray, below, meth, c, vx_MQ below (Qc1 g Qp) (XC1 g Xp) as.toArray s rm.cells rm.slots (AL g)) ⟨rfl, B.returns, List.eq_nil_iff_forall_not_mem.mpr (fun x hx => ht x hx)⟩
  rw [lg_entry_eq]
  exact hb ⟨B.exec, B.bytes, hml, findClass_of_methodNamed B.named, fun w hw => hts w (List.mem_cons_of_mem _ hw), rfl, hG, B.notSynchronized, rfl⟩ s.heap [] _ hP va_S.rf (Lh_entry hn hL)
theorem ctrH_of {g : GT} {y : MethodName} {cc : ByteArray} {mL : Nat} {rt : Option FieldType} {hh : List (Nat × Nat × Nat × Nat)} {rm : Room} {as : List Value} {G : Mem} {Qp : Option Value → Mem → Prop} {Xp : String → Mem → Prop} (L : List (Option Value)) (hy : plainName y.cls = true) (hn : (lg_sl as).length ≤ mL) (hL : lvA L = lv_args 0 as)
    (body : ∀ γ : gT, EndQ γ g rm rt (tableOf hh) Qp Xp → V γ g cc mL y.cls rm G 0 0 0 L []) : CtrH g y cc mL rt hh rm as G Qp Xp := by
  refine vx_ofWH (cc := cc) (maxL := mL) (ret := rt) (hh := hh) hy rfl ?_
  intro p e s m args below meth c s₁ B hml hv
  obtain ⟨rfl, hG, hP⟩ := hv
  have hts := atoms_spec (ws := Cond.codeWith y cc mL rt hh :: WT) B.pre
  have hb := body (p, gl g, e, (headSpec (Cond.codeWith y cc mL rt hh :: WT) rm).room, s, m, as.toArray, below, meth, c, vx_MQ below (Qc1 g Qp) (XC1 g Xp) as.toArray s rm.cells rm.slots (AL g)) ⟨rfl, B.returns, vx_table (x := y) B (hts _ List.mem_cons_self)⟩
  rw [lg_entry_eq]
  exact hb ⟨B.exec, B.bytes, hml, findClass_of_methodNamed B.named, fun w hw => hts w (List.mem_cons_of_mem _ hw), rfl, hG, B.notSynchronized, rfl⟩ s.heap [] _ hP va_S.rf (Lh_entry hn hL)
/-- weaker ends -/
theorem Ctr_mono {g : GT} {y : MethodName} {cc : ByteArray} {mL : Nat} {rt : Option FieldType} {rm : Room} {as : List Value} {G : Mem} {Qp Qp' : Option Value → Mem → Prop} {Xp Xp' : String → Mem → Prop} (h : Ctr g y cc mL rt rm as G Qp Xp) (hq : ∀ v G', Qp v G' → Qp' v G') (hx : ∀ E G', Xp E G' → Xp' E G') : Ctr g y cc mL rt rm as G Qp' Xp' := by
  intro p e ha hc hk s m args below hf hfit hP hK
  obtain ⟨t, o, h1, h2, h3, h4⟩ := h p e ha hc hk s m args below hf hfit hP hK
  refine ⟨t, o, h1, h2, h3, ?_⟩
  rcases h4 with ⟨⟨⟨v, G', a1, a2, a3⟩, a4⟩, a5⟩ | ⟨q, b1, E, ce, L, ⟨⟨G', b2, b3⟩, b4⟩, b5⟩
  · exact Or.inl ⟨⟨⟨v, G', a1, hq v G' a2, a3⟩, a4⟩, a5⟩
  · exact Or.inr ⟨q, b1, E, ce, L, ⟨⟨G', hx E G' b2, b3⟩, b4⟩, b5⟩
def WX (γ : gT) (H : Heap) (locs : List Loc) (k n : Nat) (pc : Nat) (ls : Array Slot) (st : List Value) (q : Addr) : Prop := match γ with
  | (p, l, e, R, s, m, args, below, meth, c, Q) => vx_W p l e R s m args below meth c H locs k n Q (F0 m pc ls st) q
/-- an exception of the class E is on its way, at pc -/
def VX (γ : gT) (g : GT) (cc : ByteArray) (nL : Nat) (own : String) (rm : Room) (G : Mem) (k n : Nat) (pc : Nat) (L : List (Option Value)) (st : List Value) (E : String) : Prop :=
  Cx γ g cc nL own rm → ∀ (H : Heap) (locs : List Loc) (ls : Array Slot) (q : Addr) (ce : Cell), WP g G H → va_S (AL g) (gS γ).heap H locs → Lh ls nL L → H[q]? = some ce → ce.vm = .none → (gS γ).vm.findClass E = some ce.cls → WX γ H locs k n pc ls st q
/-- what a call wants to know of the callee -/
def MOk (y : MethodName) (cc : ByteArray) (mL : Nat) (rt : Option FieldType) (n : Nat) : Prop := Cond.code y cc mL rt ∈ WT ∧ Cond.initialized y.cls ∈ WT ∧ y.cls ≠ "java/lang/invoke/MethodHandle" ∧ y.cls ≠ "java/lang/invoke/VarHandle" ∧ (parseMethodDescriptor y.desc).map (fun d => d.parameters.length) = some n
def IOk (y : MethodName) (cc : ByteArray) (mL : Nat) (rt : Option FieldType) (n : Nat) : Prop := MOk y cc mL rt n ∧ Cond.instanceMethod y ∈ WT ∧ Cond.selects y.cls y y ∈ WT
def SOk (y : MethodName) (cc : ByteArray) (mL : Nat) (rt : Option FieldType) (n : Nat) : Prop := MOk y cc mL rt n ∧ Cond.static y ∈ WT
def HOk (y : MethodName) (cc : ByteArray) (mL : Nat) (rt : Option FieldType) (hh : List (Nat × Nat × Nat × Nat)) (n : Nat) : Prop := (Cond.codeWith y cc mL rt hh ∈ WT ∧ Cond.initialized y.cls ∈ WT ∧ y.cls ≠ "java/lang/invoke/MethodHandle" ∧ y.cls ≠ "java/lang/invoke/VarHandle" ∧ (parseMethodDescriptor y.desc).map (fun d => d.parameters.length) = some n) ∧ Cond.static y ∈ WT
section VC
variable {γ : gT} {g : GT} {cc bs : ByteArray} {nL mL : Nat} {own : String} {rm rm' : Room} {G : Mem} {k n : Nat} {pc idx : Nat} {L : List (Option Value)} {st rest : List Value} {rt : Option FieldType} {tb : List ExceptionTableEntry} {Qp Qq : Option Value → Mem → Prop} {Xp Xq : String → Mem → Prop} {y : MethodName} {as : List Value}
-- ends
theorem v_iret {z : Int} (E : EndQ γ g rm (some .int) tb Qp Xp) (hq : Qp (some (vI z)) G) (hk : k ≤ rm.cells) (hn : n ≤ rm.slots) (d : decode cc pc = .ok (.ireturn, 1)) : V γ g cc nL own rm G k n pc L [vI z] := by
  obtain ⟨p, l, e, R, s, m, args, below, meth, c, Q⟩ := γ
  obtain ⟨rfl, hr, -⟩ := E
  intro C H locs ls hP hS hL
  exact vx_ret (W.widen hk hn (W.iret C.1 C.2.1 hr (fun t ht _ => ⟨⟨_, G, rfl, hq, by rw [ht]; exact hP⟩, hS.F ht⟩) hS.2.2 d C.2.2.2.2.2.2.2.1))
theorem v_zret {z : Int} {ty : FieldType} (E : EndQ γ g rm (some ty) tb Qp Xp) (hz : narrow ty (vI z) = vI z) (hq : Qp (some (vI z)) G) (hk : k ≤ rm.cells) (hn : n ≤ rm.slots) (d : decode cc pc = .ok (.ireturn, 1)) : V γ g cc nL own rm G k n pc L [vI z] := by
  obtain ⟨p, l, e, R, s, m, args, below, meth, c, Q⟩ := γ
  obtain ⟨rfl, hr, -⟩ := E
  intro C H locs ls hP hS hL
  exact vx_ret (W.widen hk hn (W.zret C.1 C.2.1 hr hz (fun t ht _ => ⟨⟨_, G, rfl, hq, by rw [ht]; exact hP⟩, hS.F ht⟩) hS.2.2 d C.2.2.2.2.2.2.2.1))
theorem v_bret {z : Int} (E : EndQ γ g rm (some .boolean) tb Qp Xp) (hz : z = 0 ∨ z = 1) (hq : Qp (some (vI z)) G) (hk : k ≤ rm.cells) (hn : n ≤ rm.slots) (d : decode cc pc = .ok (.ireturn, 1)) : V γ g cc nL own rm G k n pc L [vI z] :=
  v_zret E (by rcases hz with rfl | rfl <;> rfl) hq hk hn d
theorem v_cret {z : Int} (E : EndQ γ g rm (some .char) tb Qp Xp) (hz : 0 ≤ z ∧ z < 65536) (hq : Qp (some (vI z)) G) (hk : k ≤ rm.cells) (hn : n ≤ rm.slots) (d : decode cc pc = .ok (.ireturn, 1)) : V γ g cc nL own rm G k n pc L [vI z] :=
  v_zret E (by obtain ⟨w, rfl⟩ := Int.eq_ofNat_of_zero_le hz.1; exact (pk_charN (q := w) (by omega)).1) hq hk hn d
theorem v_vret (E : EndQ γ g rm none tb Qp Xp) (hq : Qp none G) (hk : k ≤ rm.cells) (hn : n ≤ rm.slots) (d : decode cc pc = .ok (.return_, 1)) : V γ g cc nL own rm G k n pc L [] := by
  obtain ⟨p, l, e, R, s, m, args, below, meth, c, Q⟩ := γ
  obtain ⟨rfl, hr, -⟩ := E
  intro C H locs ls hP hS hL
  exact vx_ret (W.widen hk hn (W.vret C.1 C.2.1 hr (fun t ht _ => ⟨⟨_, G, rfl, hq, by rw [ht]; exact hP⟩, hS.F ht⟩) hS.2.2 d C.2.2.2.2.2.2.2.1))
theorem v_dret {x : UInt64} (E : EndQ γ g rm (some .double) tb Qp Xp) (hq : Qp (some (.double x)) G) (hk : k ≤ rm.cells) (hn : n ≤ rm.slots) (d : decode cc pc = .ok (.dreturn, 1)) : V γ g cc nL own rm G k n pc L [.double x] := by
  obtain ⟨p, l, e, R, s, m, args, below, meth, c, Q⟩ := γ
  obtain ⟨rfl, hr, -⟩ := E
  intro C H locs ls hP hS hL
  have hlk : meth.locks = false := C.2.2.2.2.2.2.2.1
  exact vx_ret (W.widen hk hn (W.dret C.1 C.2.1 hr (fun t ht _ => ⟨⟨_, G, rfl, hq, by rw [ht]; exact hP⟩, hS.F ht⟩) hS.2.2 d hlk))
theorem v_fret {x : UInt32} (E : EndQ γ g rm (some .float) tb Qp Xp) (hq : Qp (some (.float x)) G) (hk : k ≤ rm.cells) (hn : n ≤ rm.slots) (d : decode cc pc = .ok (.freturn, 1)) : V γ g cc nL own rm G k n pc L [.float x] := by
  obtain ⟨p, l, e, R, s, m, args, below, meth, c, Q⟩ := γ
  obtain ⟨rfl, hr, -⟩ := E
  intro C H locs ls hP hS hL
  have hlk : meth.locks = false := C.2.2.2.2.2.2.2.1
  exact vx_ret (W.widen hk hn (W.fret C.1 C.2.1 hr (fun t ht _ => ⟨⟨_, G, rfl, hq, by rw [ht]; exact hP⟩, hS.F ht⟩) hS.2.2 d hlk))
theorem v_aret {a : Nat} {cn : String} (E : EndQ γ g rm (some (.object cn)) tb Qp Xp) (hq : Qp (some (.ref a)) G) (hk : k ≤ rm.cells) (hn : n ≤ rm.slots) (d : decode cc pc = .ok (.areturn, 1)) : V γ g cc nL own rm G k n pc L [.ref a] := by
  obtain ⟨p, l, e, R, s, m, args, below, meth, c, Q⟩ := γ
  obtain ⟨rfl, hr, -⟩ := E
  intro C H locs ls hP hS hL
  exact vx_ret (W.widen hk hn (W.aret C.1 C.2.1 hr (Or.inl ⟨cn, rfl⟩) (Or.inr ⟨a, rfl⟩) (fun t ht _ => ⟨⟨_, G, rfl, hq, by rw [ht]; exact hP⟩, hS.F ht⟩) hS.2.2 d C.2.2.2.2.2.2.2.1))
-- calls
theorem v_run {mc ms : Nat} (hr : ∀ (p : Program) (l : Launch) (e : Env) (R : Room) (s : State) (m : MethodId) (args : Array Value) (below : List Frame) (meth : Method) (c : Code) (Q : State → Prop) (H : Heap) (locs : List Loc) (ls : Array Slot), Cx (p, l, e, R, s, m, args, below, meth, c, Q) g cc nL own rm → WP g G H → va_S (AL g) s.heap H locs → Lh ls nL L → ∃ a : Array Value, vx_Run p l e R s m args below meth c H locs k n mc ms (F0 m pc ls st) rest (Qc1 g Qq a) (XC1 g Xq) (AL g))
    (kq : ∀ (v : Option Value) (G' : Mem), Qq v G' → V γ g cc nL own rm G' (k + mc) (n + ms) (pc + 3) L (v.toList ++ rest)) (kx : ∀ (E : String) (G' : Mem), Xq E G' → VX γ g cc nL own rm G' (k + mc) (n + ms) pc L rest E) : V γ g cc nL own rm G k n pc L st := by
  obtain ⟨p, l, e, R, s, m, args, below, meth, c, Q⟩ := γ
  intro C H locs ls hP hS hL
  obtain ⟨a, hr1⟩ := hr p l e R s m args below meth c Q H locs ls C hP hS hL
  intro T hT X
  rcases hr1 T hT X with ⟨v, st₀, t, T', L1, h0, X', hL1, e1, e2, ⟨⟨v', G', hv, hp, hb⟩, hF⟩, stp⟩ | ⟨q, st₀, t, T', L1, E, ce, h0, X', hL1, e1, e2, ⟨⟨G', hp, hb⟩, hF⟩, hce, hcv, hcl, stp⟩
  · cases hv
    obtain ⟨-, -, k3⟩ := vx_keep h0 e1 hS (fun q _ h => h) (fun q h => h) hL1 hF
    obtain ⟨t2, a1, b1⟩ := kq v G' hp C T'.heap (locs ++ L1) ls (by rw [e1]; exact hb) k3 hL T' rfl X'
    exact ⟨t2, stp t2 a1, b1⟩
  · obtain ⟨-, -, k3⟩ := vx_keep h0 e1 hS (fun q _ h => h) (fun q h => h) hL1 hF
    obtain ⟨t2, a1, b1⟩ := kx E G' hp C T'.heap (locs ++ L1) ls q ce (by rw [e1]; exact hb) k3 hL (by rw [e1]; exact hce) hcv hcl T' rfl X'
    exact ⟨t2, stp.trans a1, b1⟩
theorem pre_U {s : State} {H : Heap} {locs : List Loc} (hG : Gc g s s.heap) (hP : WP g G H) (hS : va_S (AL g) s.heap H locs) : ∀ U : State, U.heap = H → s.WarmedH U.vm → Pc1 g as G as.toArray U := fun U hU hW =>
  ⟨rfl, by rw [hU]; exact Gc_warm hG hW hS.1 hS.2.1, by rw [hU]; exact hP⟩
theorem recv {s : State} {H : Heap} {i c N : Nat} {cn : String} {T : u_T} (hK : va_K (gD g) cls (tyL g) s) (hP : WP g G H) (hk : kd i = c) (hc : c < 5) (hi : i < NP) (hcl : cls[c]? = some (cn, T, N)) : ∃ cell : Cell, H[gA g i]? = some cell ∧ cell.vm.isStatics = false ∧ s.vm.findClass cn = some cell.cls := by
  obtain ⟨q, cap, ml, bf, hs, hP1, hD1⟩ := hP
  exact va_recv hK hP1 hcl ((WL_get (g := g) (G := G) (q := q) (cap := cap) (ml := ml) (bf := bf) hi).trans (by rw [cel_o hk hc]))
abbrev RmOk (rm' rm : Room) (mL : Nat) : Prop := rm'.frames + 1 ≤ rm.frames ∧ 8 + (mL + 11) + rm'.locals ≤ rm.locals
theorem v_callV {i c N : Nat} {T : u_T} (hM : Ctr g y bs mL rt rm' (vR g i :: as) G Qq Xq) (O : IOk y bs mL rt as.length) (hl : Cond.methodLink own idx y ∈ WT) (hk : kd i = c) (hc : c < 5) (hi : i < NP) (hcl : cls[c]? = some (y.cls, T, N)) (hR : RmOk rm' rm mL) (hf : k + rm'.cells ≤ rm.cells ∧ n + rm'.slots ≤ rm.slots) (hs : (rest.map fun v => v.category).sum ≤ 8) (hst : st = as.reverse ++ vR g i :: rest) (d : decode cc pc = .ok (.invokevirtual idx, 3))
    (kq : ∀ (v : Option Value) (G' : Mem), Qq v G' → V γ g cc nL own rm G' (k + rm'.cells) (n + rm'.slots) (pc + 3) L (v.toList ++ rest)) (kx : ∀ (E : String) (G' : Mem), Xq E G' → VX γ g cc nL own rm G' (k + rm'.cells) (n + rm'.slots) pc L rest E) : V γ g cc nL own rm G k n pc L st := by
  refine v_run (fun p l e R s m args below meth c0 Q H locs ls C hP hS hL => ?_) kq kx
  obtain ⟨hx, hb, hml, ho, hts, rfl, hG, hlk, rfl⟩ := C
  obtain ⟨⟨o1, o2, o3⟩, o4, o5⟩ := O
  refine ⟨(vR g i :: as).toArray, ?_⟩
  have cw := cwV (R := R) (s := s) (args := args) (own := own) (index := idx) (C := y.cls) (mc := rm'.cells) (ms := rm'.slots) (rm := rm') as.length hts (wt_cons hl (wt_cons o4 (wt_cons o5 (wt_cons o2 (wt_cons o1 wt_GoodIn))))) rfl rfl rfl ⟨rfl, o3⟩ hR
  exact vx_runV (As := as) (rest := rest) ⟨hx, hb, hml, ho, hts⟩ hM cw ⟨Pc1_blind _ _ _, recv hG.1 hP hk hc hi hcl, pre_U hG hP hS⟩ rfl rfl hL.1 hst (lv_room hs) d hf
theorem v_callVN {i c N : Nat} {T : u_T} {host : String} (hM : Ctr g y bs mL rt rm' (vR g i :: as) G Qq Xq) (O : IOk y bs mL rt as.length) (hl : Cond.methodLinkNest own idx y host ∈ NT) (hk : kd i = c) (hc : c < 5) (hi : i < NP) (hcl : cls[c]? = some (y.cls, T, N)) (hR : RmOk rm' rm mL) (hf : k + rm'.cells ≤ rm.cells ∧ n + rm'.slots ≤ rm.slots) (hs : (rest.map fun v => v.category).sum ≤ 8) (hst : st = as.reverse ++ vR g i :: rest) (d : decode cc pc = .ok (.invokevirtual idx, 3))
    (kq : ∀ (v : Option Value) (G' : Mem), Qq v G' → V γ g cc nL own rm G' (k + rm'.cells) (n + rm'.slots) (pc + 3) L (v.toList ++ rest)) (kx : ∀ (E : String) (G' : Mem), Xq E G' → VX γ g cc nL own rm G' (k + rm'.cells) (n + rm'.slots) pc L rest E) : V γ g cc nL own rm G k n pc L st := by
  refine v_run (fun p l e R s m args below meth c0 Q H locs ls C hP hS hL => ?_) kq kx
  obtain ⟨hx, hb, hml, ho, hts, rfl, hG, hlk, rfl⟩ := C
  obtain ⟨⟨o1, o2, o3⟩, o4, o5⟩ := O
  refine ⟨(vR g i :: as).toArray, ?_⟩
  have cw := va_cnB (R := R) (s := s) (args := args) (own := own) (index := idx) (mc := rm'.cells) (ms := rm'.slots) (rm := rm') as.length hts (wt_cons o1 wt_GoodIn) rfl rfl rfl (hG.2.1 _ hl) (hts _ o2) o3 hR
  exact vx_runVN (C := y.cls) (As := as) (rest := rest) ⟨hx, hb, hml, ho, hts⟩ hM ⟨cw, hts _ o4, hts _ o5⟩ ⟨Pc1_blind _ _ _, recv hG.1 hP hk hc hi hcl, pre_U hG hP hS⟩ rfl rfl hL.1 hst (lv_room hs) d hf
theorem v_callS (hM : Ctr g y bs mL rt rm' as G Qq Xq) (O : SOk y bs mL rt as.length) (hl : Cond.methodLink own idx y ∈ WT) (hR : RmOk rm' rm mL) (hf : k + rm'.cells ≤ rm.cells ∧ n + rm'.slots ≤ rm.slots) (hs : (rest.map fun v => v.category).sum ≤ 8) (hst : st = as.reverse ++ rest) (d : decode cc pc = .ok (.invokestatic idx, 3))
    (kq : ∀ (v : Option Value) (G' : Mem), Qq v G' → V γ g cc nL own rm G' (k + rm'.cells) (n + rm'.slots) (pc + 3) L (v.toList ++ rest)) (kx : ∀ (E : String) (G' : Mem), Xq E G' → VX γ g cc nL own rm G' (k + rm'.cells) (n + rm'.slots) pc L rest E) : V γ g cc nL own rm G k n pc L st := by
  refine v_run (fun p l e R s m args below meth c0 Q H locs ls C hP hS hL => ?_) kq kx
  obtain ⟨hx, hb, hml, ho, hts, rfl, hG, hlk, rfl⟩ := C
  obtain ⟨⟨o1, o2, o3⟩, o4⟩ := O
  refine ⟨as.toArray, ?_⟩
  have cw := va_cwS (R := R) (s := s) (args := args) (own := own) (index := idx) (mc := rm'.cells) (ms := rm'.slots) (rm := rm') as.length hts (wt_cons hl (wt_cons o4 (wt_cons o2 (wt_cons o1 wt_GoodIn)))) rfl rfl rfl o3 hR
  exact vx_runS (As := as) (rest := rest) ⟨hx, hb, hml, ho, hts⟩ hM cw ⟨Pc1_blind _ _ _, pre_U hG hP hS⟩ rfl rfl hL.1 hst (lv_room hs) d hf
theorem v_callSN {host : String} (hM : Ctr g y bs mL rt rm' as G Qq Xq) (O : SOk y bs mL rt as.length) (hl : Cond.methodLinkNest own idx y host ∈ NT) (hR : RmOk rm' rm mL) (hf : k + rm'.cells ≤ rm.cells ∧ n + rm'.slots ≤ rm.slots) (hs : (rest.map fun v => v.category).sum ≤ 8) (hst : st = as.reverse ++ rest) (d : decode cc pc = .ok (.invokestatic idx, 3))
    (kq : ∀ (v : Option Value) (G' : Mem), Qq v G' → V γ g cc nL own rm G' (k + rm'.cells) (n + rm'.slots) (pc + 3) L (v.toList ++ rest)) (kx : ∀ (E : String) (G' : Mem), Xq E G' → VX γ g cc nL own rm G' (k + rm'.cells) (n + rm'.slots) pc L rest E) : V γ g cc nL own rm G k n pc L st := by
  refine v_run (fun p l e R s m args below meth c0 Q H locs ls C hP hS hL => ?_) kq kx
  obtain ⟨hx, hb, hml, ho, hts, rfl, hG, hlk, rfl⟩ := C
  obtain ⟨⟨o1, o2, o3⟩, o4⟩ := O
  refine ⟨as.toArray, ?_⟩
  have cw := va_cnB (R := R) (s := s) (args := args) (own := own) (index := idx) (mc := rm'.cells) (ms := rm'.slots) (rm := rm') as.length hts (wt_cons o1 wt_GoodIn) rfl rfl rfl (hG.2.1 _ hl) (hts _ o2) o3 hR
  exact vx_runSN (As := as) (rest := rest) ⟨hx, hb, hml, ho, hts⟩ hM ⟨cw, hts _ o4, trivial⟩ ⟨Pc1_blind _ _ _, pre_U hG hP hS⟩ rfl rfl hL.1 hst (lv_room hs) d hf
theorem v_callSH {hh : List (Nat × Nat × Nat × Nat)} (hM : CtrH g y bs mL rt hh rm' as G Qq Xq) (O : HOk y bs mL rt hh as.length) (hl : Cond.methodLink own idx y ∈ WT) (hR : RmOk rm' rm mL) (hf : k + rm'.cells ≤ rm.cells ∧ n + rm'.slots ≤ rm.slots) (hs : (rest.map fun v => v.category).sum ≤ 8) (hst : st = as.reverse ++ rest) (d : decode cc pc = .ok (.invokestatic idx, 3))
    (kq : ∀ (v : Option Value) (G' : Mem), Qq v G' → V γ g cc nL own rm G' (k + rm'.cells) (n + rm'.slots) (pc + 3) L (v.toList ++ rest)) (kx : ∀ (E : String) (G' : Mem), Xq E G' → VX γ g cc nL own rm G' (k + rm'.cells) (n + rm'.slots) pc L rest E) : V γ g cc nL own rm G k n pc L st := by
  refine v_run (fun p l e R s m args below meth c0 Q H locs ls C hP hS hL => ?_) kq kx
  obtain ⟨hx, hb, hml, ho, hts, rfl, hG, hlk, rfl⟩ := C
  obtain ⟨⟨o1, o2, o3⟩, o4⟩ := O
  refine ⟨as.toArray, ?_⟩
  have cw := vx_cwSW (R := R) (s := s) (args := args) (own := own) (index := idx) (mc := rm'.cells) (ms := rm'.slots) (rm := rm') as.length hts (wt_cons hl (wt_cons o4 (wt_cons o2 (wt_cons o1 wt_GoodIn)))) rfl rfl rfl o3 hR
  exact vx_runSX (As := as) (rest := rest) ⟨hx, hb, hml, ho, hts⟩ hM cw ⟨Pc1_blind _ _ _, pre_U hG hP hS⟩ rfl rfl hL.1 hst (lv_room hs) d hf
/-- an exception that isn't caught here -/
theorem vx_pass {E : String} (Q : EndQ γ g rm rt [] Qp Xp) (hx : Xp E G) (hk : k ≤ rm.cells) (hn : n ≤ rm.slots) : VX γ g cc nL own rm G k n pc L st E := by
  obtain ⟨p, l, e, R, s, m, args, below, meth, c, Q0⟩ := γ
  obtain ⟨rfl, hr, ht⟩ := Q
  intro C H locs ls q ce hP hS hL hce hcv hcl
  exact vx_out (fun x hx => by rw [ht] at hx; cases hx) C.2.2.2.2.2.2.2.1 hce hcv hcl (fun t h1 _ => ⟨⟨G, hx, by rw [h1]; exact hP⟩, hS.F h1⟩) hS.2.2 hk hn
end VC
