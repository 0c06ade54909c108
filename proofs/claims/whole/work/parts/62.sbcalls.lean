-- contracts in the builder's world
def PcU (g : GT) (A : Nat → Prop) (as : List Value) (B : Bw) : Array Value → State → Prop := fun a U => a = as.toArray ∧ Gc g U U.heap ∧ WB g A B U.heap ∧ (∀ a : Nat, U.heap.size ≤ a → A a) ∧ ∀ a : Nat, A a → AL g a
theorem PcU_blind (g : GT) (A : Nat → Prop) (as : List Value) (B : Bw) : FrameBlind (PcU g A as B) := fun a _ f mk h => ⟨h.1, Gc_call f mk a h.2.1, h.2.2.1, h.2.2.2.1, h.2.2.2.2⟩
def QcU (g : GT) (A : Nat → Prop) (Qp : Option Value → Bw → Prop) : Array Value → State → Outcome → State → Prop := fun _ st oc t => (∃ v B', oc = .returned v ∧ Qp v B' ∧ WB g A B' t.heap) ∧ va_F A st t
def CtrU (g : GT) (A : Nat → Prop) (y : MethodName) (cc : ByteArray) (mL : Nat) (rt : Option FieldType) (rm : Room) (as : List Value) (B : Bw) (Qp : Option Value → Bw → Prop) : Prop :=
  Met (gl g) y (Cond.code y cc mL rt :: WT) rm (PcU g A as B) (QcU g A Qp) rm.cells rm.slots A
def EndU (γ : gT) (g : GT) (A : Nat → Prop) (rm : Room) (rt : Option FieldType) (Qp : Option Value → Bw → Prop) : Prop := match γ with
  | (_, _, _, _, s, _, args, below, meth, _, Q) => Q = MQ below (QcU g A Qp) args s rm.cells rm.slots A ∧ meth.sig.returnType = rt
theorem ctrU_of {g : GT} {A : Nat → Prop} {y : MethodName} {cc : ByteArray} {mL : Nat} {rt : Option FieldType} {rm : Room} {as : List Value} {B : Bw} {Qp : Option Value → Bw → Prop} (L : List (Option Value)) (hy : plainName y.cls = true) (hn : (lg_sl as).length ≤ mL) (hL : lvA L = lv_args 0 as)
    (body : ∀ γ : gT, EndU γ g A rm rt Qp → UV γ g A cc mL y.cls rm B 0 0 0 L []) : CtrU g A y cc mL rt rm as B Qp := by
  refine Met.ofW (cc := cc) (maxL := mL) (ret := rt) hy rfl ?_
  intro p e s m args below meth c s₁ B9 hml hv
  obtain ⟨rfl, hG, hP, hA1, hA2⟩ := hv
  have hts := atoms_spec (ws := Cond.code y cc mL rt :: WT) B9.pre
  have hb := body (p, gl g, e, (headSpec (Cond.code y cc mL rt :: WT) rm).room, s, m, as.toArray, below, meth, c, MQ below (QcU g A Qp) as.toArray s rm.cells rm.slots A) ⟨rfl, B9.returns⟩
  rw [lg_entry_eq]
  exact hb ⟨B9.exec, B9.bytes, hml, findClass_of_methodNamed B9.named, fun w hw => hts w (List.mem_cons_of_mem _ hw), rfl, hG, B9.notSynchronized, rfl, hA1, hA2⟩ s.heap [] _ hP va_S.rf (Lh_entry hn hL)
section UVC
variable {γ : gT} {g : GT} {A : Nat → Prop} {cc bs : ByteArray} {nL mL : Nat} {own : String} {rm rm' : Room} {B : Bw} {k n : Nat} {pc idx : Nat} {L : List (Option Value)} {st rest : List Value} {rt : Option FieldType} {Qp Qq : Option Value → Bw → Prop} {y : MethodName} {as : List Value}
theorem u_iret {z : Int} (E : EndU γ g A rm (some .int) Qp) (hq : Qp (some (vI z)) B) (hk : k ≤ rm.cells) (hn : n ≤ rm.slots) (d : decode cc pc = .ok (.ireturn, 1)) : UV γ g A cc nL own rm B k n pc L [vI z] := by
  obtain ⟨p, l, e, R, s, m, args, below, meth, c, Q⟩ := γ
  obtain ⟨rfl, hr⟩ := E
  intro C H locs ls hP hS hL
  exact W.widen hk hn (W.iret C.1 C.2.1 hr (fun t ht _ => ⟨⟨_, B, rfl, hq, by rw [ht]; exact hP⟩, hS.F ht⟩) hS.2.2 d C.2.2.2.2.2.2.2.1)
theorem u_zret {z : Int} {ty : FieldType} (E : EndU γ g A rm (some ty) Qp) (hz : narrow ty (vI z) = vI z) (hq : Qp (some (vI z)) B) (hk : k ≤ rm.cells) (hn : n ≤ rm.slots) (d : decode cc pc = .ok (.ireturn, 1)) : UV γ g A cc nL own rm B k n pc L [vI z] := by
  obtain ⟨p, l, e, R, s, m, args, below, meth, c, Q⟩ := γ
  obtain ⟨rfl, hr⟩ := E
  intro C H locs ls hP hS hL
  exact W.widen hk hn (W.zret C.1 C.2.1 hr hz (fun t ht _ => ⟨⟨_, B, rfl, hq, by rw [ht]; exact hP⟩, hS.F ht⟩) hS.2.2 d C.2.2.2.2.2.2.2.1)
theorem u_bret {z : Int} (E : EndU γ g A rm (some .boolean) Qp) (hz : z = 0 ∨ z = 1) (hq : Qp (some (vI z)) B) (hk : k ≤ rm.cells) (hn : n ≤ rm.slots) (d : decode cc pc = .ok (.ireturn, 1)) : UV γ g A cc nL own rm B k n pc L [vI z] :=
  u_zret E (by rcases hz with rfl | rfl <;> rfl) hq hk hn d
theorem u_cret {z : Int} (E : EndU γ g A rm (some .char) Qp) (hz : 0 ≤ z ∧ z < 65536) (hq : Qp (some (vI z)) B) (hk : k ≤ rm.cells) (hn : n ≤ rm.slots) (d : decode cc pc = .ok (.ireturn, 1)) : UV γ g A cc nL own rm B k n pc L [vI z] :=
  u_zret E (by obtain ⟨w, rfl⟩ := Int.eq_ofNat_of_zero_le hz.1; exact (pk_charN (q := w) (by omega)).1) hq hk hn d
theorem u_vret (E : EndU γ g A rm none Qp) (hq : Qp none B) (hk : k ≤ rm.cells) (hn : n ≤ rm.slots) (d : decode cc pc = .ok (.return_, 1)) : UV γ g A cc nL own rm B k n pc L [] := by
  obtain ⟨p, l, e, R, s, m, args, below, meth, c, Q⟩ := γ
  obtain ⟨rfl, hr⟩ := E
  intro C H locs ls hP hS hL
  exact W.widen hk hn (W.vret C.1 C.2.1 hr (fun t ht _ => ⟨⟨_, B, rfl, hq, by rw [ht]; exact hP⟩, hS.F ht⟩) hS.2.2 d C.2.2.2.2.2.2.2.1)
theorem u_aret {a : Nat} {cn : String} (E : EndU γ g A rm (some (.object cn)) Qp) (hq : Qp (some (.ref a)) B) (hk : k ≤ rm.cells) (hn : n ≤ rm.slots) (d : decode cc pc = .ok (.areturn, 1)) : UV γ g A cc nL own rm B k n pc L [.ref a] := by
  obtain ⟨p, l, e, R, s, m, args, below, meth, c, Q⟩ := γ
  obtain ⟨rfl, hr⟩ := E
  intro C H locs ls hP hS hL
  exact W.widen hk hn (W.aret C.1 C.2.1 hr (Or.inl ⟨cn, rfl⟩) (Or.inr ⟨a, rfl⟩) (fun t ht _ => ⟨⟨_, B, rfl, hq, by rw [ht]; exact hP⟩, hS.F ht⟩) hS.2.2 d C.2.2.2.2.2.2.2.1)
theorem u_aretA {a : Nat} {ty : FieldType} (E : EndU γ g A rm (some (.array ty)) Qp) (hq : Qp (some (.ref a)) B) (hk : k ≤ rm.cells) (hn : n ≤ rm.slots) (d : decode cc pc = .ok (.areturn, 1)) : UV γ g A cc nL own rm B k n pc L [.ref a] := by
  obtain ⟨p, l, e, R, s, m, args, below, meth, c, Q⟩ := γ
  obtain ⟨rfl, hr⟩ := E
  intro C H locs ls hP hS hL
  exact W.widen hk hn (W.aret C.1 C.2.1 hr (Or.inr ⟨ty, rfl⟩) (Or.inr ⟨a, rfl⟩) (fun t ht _ => ⟨⟨_, B, rfl, hq, by rw [ht]; exact hP⟩, hS.F ht⟩) hS.2.2 d C.2.2.2.2.2.2.2.1)
-- calls
theorem u_run {mc ms : Nat} (hr : ∀ (p : Program) (l : Launch) (e : Env) (R : Room) (s : State) (m : MethodId) (args : Array Value) (below : List Frame) (meth : Method) (c : Code) (Q : State → Prop) (H : Heap) (locs : List Loc) (ls : Array Slot), CU (p, l, e, R, s, m, args, below, meth, c, Q) g A cc nL own rm → WB g A B H → va_S A s.heap H locs → Lh ls nL L → ∃ a : Array Value, va_Run p l e R s m args below meth c H locs k n mc ms (F0 m pc ls st) rest (QcU g A Qq a) A)
    (kq : ∀ (v : Option Value) (B' : Bw), Qq v B' → UV γ g A cc nL own rm B' (k + mc) (n + ms) (pc + 3) L (v.toList ++ rest)) : UV γ g A cc nL own rm B k n pc L st := by
  obtain ⟨p, l, e, R, s, m, args, below, meth, c, Q⟩ := γ
  intro C H locs ls hP hS hL
  obtain ⟨a, hr1⟩ := hr p l e R s m args below meth c Q H locs ls C hP hS hL
  intro T hT X
  obtain ⟨v, st₀, t, T', L1, h0, X', hL1, e1, e2, ⟨⟨v', B', hv, hp, hb⟩, hF⟩, stp⟩ := hr1 T hT X
  cases hv
  obtain ⟨-, -, k3⟩ := vx_keep h0 e1 hS (fun q _ h => h) (fun q h => h) hL1 hF
  obtain ⟨t2, a1, b1⟩ := kq v B' hp C T'.heap (locs ++ L1) ls (by rw [e1]; exact hb) k3 hL T' rfl X'
  exact ⟨t2, stp t2 a1, b1⟩
theorem preU {s : State} {H : Heap} {locs : List Loc} (hG : Gc g s s.heap) (hP : WB g A B H) (hS : va_S A s.heap H locs) (hA1 : ∀ a : Nat, s.heap.size ≤ a → A a) (hA2 : ∀ a : Nat, A a → AL g a) : ∀ U : State, U.heap = H → s.WarmedH U.vm → PcU g A as B as.toArray U := fun U hU hW =>
  ⟨rfl, by rw [hU]; exact Gc_warm hG hW hS.1 (fun a h1 h2 => hS.2.1 a h1 (fun z => h2 (hA2 a z))), by rw [hU]; exact hP, fun a h => hA1 a (by rw [hU] at h; exact Nat.le_trans hS.1 h), hA2⟩
theorem recvU {s : State} {H : Heap} (hK : va_K (gD g) cls (tyL g) s) (hP : WB g A B H) : ∃ cell : Cell, H[gA g 121]? = some cell ∧ cell.vm.isStatics = false ∧ s.vm.findClass RJ4 = some cell.cls :=
  va_recv (ci := 5) (q0 := 0) (q := (RJ4, TJ4, 4)) hK hP.1 rfl rfl
theorem u_callS (hM : CtrU g A y bs mL rt rm' as B Qq) (O : SOk y bs mL rt as.length) (hl : Cond.methodLink own idx y ∈ WT) (hR : RmOk rm' rm mL) (hf : k + rm'.cells ≤ rm.cells ∧ n + rm'.slots ≤ rm.slots) (hs : (rest.map fun v => v.category).sum ≤ 8) (hst : st = as.reverse ++ rest) (d : decode cc pc = .ok (.invokestatic idx, 3))
    (kq : ∀ (v : Option Value) (B' : Bw), Qq v B' → UV γ g A cc nL own rm B' (k + rm'.cells) (n + rm'.slots) (pc + 3) L (v.toList ++ rest)) : UV γ g A cc nL own rm B k n pc L st := by
  refine u_run (fun p l e R s m args below meth c0 Q H locs ls C hP hS hL => ?_) kq
  obtain ⟨hx, hb, hml, ho, hts, rfl, hG, hlk, rfl, hA1, hA2⟩ := C
  obtain ⟨⟨o1, o2, o3⟩, o4⟩ := O
  refine ⟨as.toArray, ?_⟩
  have cw := va_cwS (R := R) (s := s) (args := args) (own := own) (index := idx) (mc := rm'.cells) (ms := rm'.slots) (rm := rm') as.length hts (wt_cons hl (wt_cons o4 (wt_cons o2 (wt_cons o1 wt_GoodIn)))) rfl rfl rfl o3 hR
  exact va_runS (As := as) (rest := rest) ⟨hx, hb, hml, ho, hts⟩ hM cw ⟨PcU_blind _ _ _ _, preU hG hP hS hA1 hA2⟩ rfl rfl hL.1 hst (lv_room hs) d hf
/-- what a call wants to know of an inherited method -/
def UOk (y : MethodName) (bs : ByteArray) (mL : Nat) (rt : Option FieldType) (n : Nat) : Prop := (Cond.code y bs mL rt ∈ WT ∧ y.cls = RJ5 ∧ (parseMethodDescriptor y.desc).map (fun d => d.parameters.length) = some n ∧ Cond.instanceMethod y ∈ WT ∧ Cond.sameMethod RJ5 RJ5 y.name y.desc ∈ WT) ∧ Cond.selects RJ4 y y ∈ WT
theorem u_callU (hM : CtrU g A y bs mL rt rm' (vR g 121 :: as) B Qq) (O : UOk y bs mL rt as.length) (hl : Cond.methodLink own idx y ∈ WT) (hR : RmOk rm' rm mL) (hf : k + rm'.cells ≤ rm.cells ∧ n + rm'.slots ≤ rm.slots) (hs : (rest.map fun v => v.category).sum ≤ 8) (hst : st = as.reverse ++ vR g 121 :: rest) (d : decode cc pc = .ok (.invokevirtual idx, 3))
    (kq : ∀ (v : Option Value) (B' : Bw), Qq v B' → UV γ g A cc nL own rm B' (k + rm'.cells) (n + rm'.slots) (pc + 3) L (v.toList ++ rest)) : UV γ g A cc nL own rm B k n pc L st := by
  refine u_run (fun p l e R s m args below meth c0 Q H locs ls C hP hS hL => ?_) kq
  obtain ⟨hx, hb, hml, ho, hts, rfl, hG, hlk, rfl, hA1, hA2⟩ := C
  obtain ⟨⟨o1, o2, o3, o4, o5⟩, o6⟩ := O
  refine ⟨(vR g 121 :: as).toArray, ?_⟩
  have hd : RJ5 ≠ "java/lang/invoke/MethodHandle" ∧ RJ5 ≠ "java/lang/invoke/VarHandle" := by decide
  have hsel : (Cond.selects RJ4 y y).before args s = true := hts _ o6
  have hyy : y = ⟨RJ5, y.name, y.desc⟩ := by rw [← o2]
  have cw : va_CU R s args own RJ4 RJ5 idx y y bs mL rt (Cond.code y bs mL rt :: WT) rm' rm'.cells rm'.slots as.length := by
    refine ⟨⟨rfl, rfl, hR.1, hR.2, pay_in hts (wt_cons o1 wt_GoodIn), List.mem_cons_self⟩, hts _ o1, by rw [o2]; exact hts _ wN_J5, hd, fun sig h => ?_, hts _ hl, by rw [o2]; exact hts _ o5, ?_, hsel, hts _ o4⟩
    · rw [h] at o3
      exact (Option.some.inj o3).symm
    · rw [← hyy]
      exact va_Decl.of (hts _ o4) (hts _ o1)
  exact va_runU (C := RJ4) (As := as) (rest := rest) ⟨hx, hb, hml, ho, hts⟩ hM cw ⟨PcU_blind _ _ _ _, recvU hG.1 hP, preU hG hP hS hA1 hA2⟩ rfl rfl hL.1 hst (lv_room hs) d hf
/-- what a call super.m() wants to know -/
def POk (y : MethodName) (bs : ByteArray) (mL : Nat) (rt : Option FieldType) (n : Nat) : Prop := Cond.code y bs mL rt ∈ WT ∧ y.cls = RJ5 ∧ (y.name ≠ "<init>" ∧ (parseMethodDescriptor y.desc).map (fun d => d.parameters.length) = some n) ∧ Cond.instanceMethod y ∈ WT ∧ Cond.sameMethod RJ5 RJ5 y.name y.desc ∈ WT
theorem wSup : Cond.superclass RJ4 RJ5 ∈ WT := by decide +kernel
theorem u_callP (hM : CtrU g A y bs mL rt rm' (vR g 121 :: as) B Qq) (O : POk y bs mL rt as.length) (hl : Cond.methodLink RJ4 idx y ∈ WT) (hR : RmOk rm' rm mL) (hf : k + rm'.cells ≤ rm.cells ∧ n + rm'.slots ≤ rm.slots) (hs : (rest.map fun v => v.category).sum ≤ 8) (hst : st = as.reverse ++ vR g 121 :: rest) (d : decode cc pc = .ok (.invokespecial idx, 3))
    (kq : ∀ (v : Option Value) (B' : Bw), Qq v B' → UV γ g A cc nL RJ4 rm B' (k + rm'.cells) (n + rm'.slots) (pc + 3) L (v.toList ++ rest)) : UV γ g A cc nL RJ4 rm B k n pc L st := by
  refine u_run (fun p l e R s m args below meth c0 Q H locs ls C hP hS hL => ?_) kq
  obtain ⟨hx, hb, hml, ho, hts, rfl, hG, hlk, rfl, hA1, hA2⟩ := C
  obtain ⟨o1, o2, o3, o4, o5⟩ := O
  refine ⟨(vR g 121 :: as).toArray, ?_⟩
  obtain ⟨cC, hat⟩ := classAt_of (hts _ wB_J4)
  have cw : va_CS R s args RJ4 idx y bs mL rt (Cond.code y bs mL rt :: WT) rm' rm'.cells rm'.slots as.length := by
    refine ⟨⟨rfl, rfl, hR.1, hR.2, pay_in hts (wt_cons o1 wt_GoodIn), List.mem_cons_self⟩, hts _ hl, by rw [o2]; exact hts _ o5, by rw [o2]; exact hts _ wSup, hts _ o4, by rw [o2]; exact hts _ wN_J5, hts _ o1, o3.1, fun sig h => ?_⟩
    have o32 := o3.2
    rw [h] at o32
    exact (Option.some.inj o32).symm
  exact va_runSU hat (As := as) (rest := rest) ⟨hx, hb, hml, ho, hts⟩ hM cw ⟨PcU_blind _ _ _ _, recvU hG.1 hP, preU hG hP hS hA1 hA2⟩ rfl rfl hL.1 hst (lv_room hs) d hf
theorem u_mmin {a b : Int} (h : -2147483648 ≤ a ∧ a < 2147483648 ∧ -2147483648 ≤ b ∧ b < 2147483648) (hl : Cond.methodLink own idx yJ9_min_7cf53 ∈ WT) (h1 : 1 ≤ rm.frames) (h2 : (st.map fun v => v.category).sum ≤ 8) (h3 : 21 ≤ rm.locals) (h4 : k ≤ rm.cells) (h5 : n ≤ rm.slots) (d : decode cc pc = .ok (.invokestatic idx, 3)) (kk : UV γ g A cc nL own rm B k n (pc + 3) L (vI (mnI a b) :: st)) : UV γ g A cc nL own rm B k n pc L (vI b :: vI a :: st) := by
  obtain ⟨p, l, e, R, s, m, args, below, meth, c, Q⟩ := γ
  intro C H locs ls hP hS hL
  obtain ⟨hx, hb, hml, ho, hts, rfl, hG, hlk, rfl, -⟩ := id C
  refine va_mmin hx hb (hml.trans hL.1.symm) ho (hts _ hl) (hts _ wT_J9_min_7cf53) (hts _ wN_J9) (hts _ wC_J9_min_7cf53) h1 (by omega) h4 h5 d ?_
  have h' : -2147483648 ≤ b ∧ b < 2147483648 ∧ -2147483648 ≤ a ∧ a < 2147483648 := ⟨h.2.2.1, h.2.2.2, h.1, h.2.1⟩
  have e1 : (if Int32.ofInt b < Int32.ofInt a then Int32.ofInt b else Int32.ofInt a) = Int32.ofInt (mnI a b) := by
    unfold mnI
    by_cases q : b < a
    · rw [if_pos ((i32_lt h').mpr q), if_pos q]
    · rw [if_neg (fun z => q ((i32_lt h').mp z)), if_neg q]
  rw [e1]
  exact kk C H locs ls hP hS hL
theorem u_mmax {a b : Int} (h : -2147483648 ≤ a ∧ a < 2147483648 ∧ -2147483648 ≤ b ∧ b < 2147483648) (hl : Cond.methodLink own idx yJ9_max_7cf53 ∈ WT) (h1 : 1 ≤ rm.frames) (h2 : (st.map fun v => v.category).sum ≤ 8) (h3 : 21 ≤ rm.locals) (h4 : k ≤ rm.cells) (h5 : n ≤ rm.slots) (d : decode cc pc = .ok (.invokestatic idx, 3)) (kk : UV γ g A cc nL own rm B k n (pc + 3) L (vI (mxI a b) :: st)) : UV γ g A cc nL own rm B k n pc L (vI b :: vI a :: st) := by
  obtain ⟨p, l, e, R, s, m, args, below, meth, c, Q⟩ := γ
  intro C H locs ls hP hS hL
  obtain ⟨hx, hb, hml, ho, hts, rfl, hG, hlk, rfl, -⟩ := id C
  refine va_mmax hx hb (hml.trans hL.1.symm) ho (hts _ hl) (hts _ wT_J9_max_7cf53) (hts _ wN_J9) (hts _ wC_J9_max_7cf53) h1 (by omega) h4 h5 d ?_
  have e1 : (if Int32.ofInt a < Int32.ofInt b then Int32.ofInt b else Int32.ofInt a) = Int32.ofInt (mxI a b) := by
    unfold mxI
    by_cases q : a < b
    · rw [if_pos ((i32_lt h).mpr q), if_pos q]
    · rw [if_neg (fun z => q ((i32_lt h).mp z)), if_neg q]
  rw [e1]
  exact kk C H locs ls hP hS hL
-- a new row
theorem u_newa {m : Int} (h0 : 0 ≤ m ∧ m ≤ 65536) (hx : B.2.2.2.2.2 = []) (hk : k + 1 ≤ rm.cells) (hn : n + m.toNat ≤ rm.slots) (hl : Cond.arrayClass .byte ∈ WT) (d : decode cc pc = .ok (.newarray .byte, 2)) (kk : ∀ q : Nat, UV γ g A cc nL own rm (B.1, B.2.1, B.2.2.1, B.2.2.2.1, B.2.2.2.2.1, [(q, .inl (gC g 6, m.toNat, .inl fun _ => 0))]) (k + 1) (n + m.toNat) (pc + 2) L (.ref q :: st)) : UV γ g A cc nL own rm B k n pc L (vI m :: st) := by
  obtain ⟨p, l, e, R, s, m9, args, below, meth, c, Q⟩ := γ
  obtain ⟨q0, cap, ml, cnt, bf, ex⟩ := B
  dsimp only at hx kk
  subst hx
  intro C H locs ls hP hS hL
  have hG : Gc g s s.heap := C.2.2.2.2.2.2.1
  have hR : R = rm := C.2.2.2.2.2.1
  have hA1 := C.2.2.2.2.2.2.2.2.2.1
  refine va_newa (atype := .byte) C.1 C.2.1 (C.2.2.2.2.1 _ hl) (ty := .byte) rfl hG.1 hP.1 hP.2 hS hA1 (N' := m.toNat) (a0 := (m.toNat, .inl fun _ => 0)) (fun cA => rfl) (fun z => by have := (i32_lt (a := m) (b := 0) (by omega)).mp z; omega) (i32_nat h0.1 (by omega)) (by show m.toNat * 1 ≤ _; omega) (by rw [hR]; exact hk) (by rw [hR]; exact hn) d (fun q cA H1 hK1 hP1 hD1 hS1 => ?_)
  have e6 : cA = gC g 6 := by
    have a1 := (hK1.2 7 (cA, .byte) rfl).2
    have a2 := (hG.1.2 6 (gC g 6, .byte) rfl).2
    exact Option.some.inj (a1.symm.trans a2)
  rw [e6] at hP1 hD1
  exact kk q C H1 locs ls ⟨hP1, hD1⟩ hS1 hL
/-- the bytes are copied into the new row -/
theorem u_copy {q N : Nat} {f : Nat → Int32} {m : Int} (hx : B.2.2.2.2.2 = [(q, .inl (gC g 6, N, .inl f))]) (hm : 0 ≤ m ∧ m ≤ (B.2.1 : Int) ∧ m ≤ (N : Int)) (hN : B.2.1 ≤ 65536) (hfit : sb_Fit B.2.2.2.2.1) (hl : Cond.methodLink own idx arraycopyName ∈ WT) (h1 : 1 ≤ rm.frames) (h2 : (st.map fun v => v.category).sum + (nativeFrameWords "java/lang/System" "arraycopy" 5 + 11) ≤ rm.locals) (d : decode cc pc = .ok (.invokestatic idx, 3)) (kk : UV γ g A cc nL own rm (B.1, B.2.1, B.2.2.1, B.2.2.2.1, B.2.2.2.2.1, [(q, .inl (gC g 6, N, .inl (va_cpy B.2.2.2.2.1 f 0 0 m.toNat)))]) k n (pc + 3) L st) : UV γ g A cc nL own rm B k n pc L (vI m :: vI 0 :: .ref q :: vI 0 :: .ref B.1 :: st) := by
  obtain ⟨p, l, e, R, s, mm, args, below, meth, c0, Q⟩ := γ
  obtain ⟨q0, cap, ml, cnt, bf, ex⟩ := B
  dsimp only at hx kk hm hN hfit
  subst hx
  intro C H locs ls hP hS hL
  obtain ⟨hx, hb, hml, ho, hts, rfl, hG, hlk, rfl, -⟩ := id C
  have z0 : (Int32.ofInt 0).toNatClampNeg = 0 := rfl
  have zm : (Int32.ofInt m).toNatClampNeg = m.toNat := i32_nat hm.1 (by omega)
  refine va_copyi (ty := .byte) hx hb (hml.trans hL.1.symm) ho (hts _ hl) (hts _ wV_arraycopyName) (hts _ wT_arraycopyName) (hts _ wN_J10) hG.1 hP.1 hP.2 hS 1 2 6 6 (n0 := cap) (n1 := N) (f := bf) (g := f) rfl rfl rfl rfl rfl (by decide) (by decide) (fun z => by have := (i32_lt (a := m) (b := 0) (by omega)).mp z; omega) (by rw [z0, zm]; omega) (by rw [z0, zm]; omega) (fun i _ => hfit _) h1 h2 d (fun H1 locs1 hP2 hD2 hS2 => ?_)
  rw [z0, zm] at hP2 hD2
  exact kk C H1 locs1 ls ⟨hP2, hD2⟩ hS2 hL
end UVC
