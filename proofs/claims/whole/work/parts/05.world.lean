-- numbers
theorem i32_eq {x y : Int32} (h : x.toInt = y.toInt) : x = y := Int32.toInt_inj.mp h
theorem i32_rng (x : Int32) : -2147483648 ≤ x.toInt ∧ x.toInt < 2147483648 := by
  have h1 := Int32.le_toInt x
  have h2 := Int32.toInt_lt x
  omega
theorem i32_bm {z : Int} (h1 : -2147483648 ≤ z) (h2 : z < 2147483648) : z.bmod (2 ^ 32) = z := by
  rw [Int.bmod_eq_of_le (by omega) (by omega)]
theorem i32_to {z : Int} (h1 : -2147483648 ≤ z) (h2 : z < 2147483648) : (Int32.ofInt z).toInt = z := by
  rw [Int32.toInt_ofInt, i32_bm h1 h2]
theorem i32_add (a b : Int) : Int32.ofInt a + Int32.ofInt b = Int32.ofInt (a + b) := by
  apply i32_eq
  rw [Int32.toInt_add, Int32.toInt_ofInt, Int32.toInt_ofInt, Int32.toInt_ofInt]
  simp
theorem i32_sub (a b : Int) : Int32.ofInt a - Int32.ofInt b = Int32.ofInt (a - b) := by
  apply i32_eq
  rw [Int32.toInt_sub, Int32.toInt_ofInt, Int32.toInt_ofInt, Int32.toInt_ofInt]
  simp
theorem i32_mul (a b : Int) : Int32.ofInt a * Int32.ofInt b = Int32.ofInt (a * b) := by
  apply i32_eq
  rw [Int32.toInt_mul, Int32.toInt_ofInt, Int32.toInt_ofInt, Int32.toInt_ofInt]
  simp
theorem i32_lt {a b : Int} (h : -2147483648 ≤ a ∧ a < 2147483648 ∧ -2147483648 ≤ b ∧ b < 2147483648) : Int32.ofInt a < Int32.ofInt b ↔ a < b := by
  rw [Int32.lt_iff_toInt_lt, i32_to h.1 h.2.1, i32_to h.2.2.1 h.2.2.2]
theorem i32_le {a b : Int} (h : -2147483648 ≤ a ∧ a < 2147483648 ∧ -2147483648 ≤ b ∧ b < 2147483648) : Int32.ofInt a ≤ Int32.ofInt b ↔ a ≤ b := by
  rw [Int32.le_iff_toInt_le, i32_to h.1 h.2.1, i32_to h.2.2.1 h.2.2.2]
theorem i32_ee {a b : Int} (h : -2147483648 ≤ a ∧ a < 2147483648 ∧ -2147483648 ≤ b ∧ b < 2147483648) : Int32.ofInt a = Int32.ofInt b ↔ a = b := by
  rw [← Int32.toInt_inj, i32_to h.1 h.2.1, i32_to h.2.2.1 h.2.2.2]
theorem i32_nat {z : Int} (h0 : 0 ≤ z) (h : z < 2147483648) : (Int32.ofInt z).toNatClampNeg = z.toNat := by
  show ((Int32.ofInt z).toInt.toNat) = z.toNat
  rw [i32_to (by omega) h]
theorem i32_in {z : Int} {n : Nat} (h0 : 0 ≤ z) (h1 : z < n) (hn : n < 2147483648) : vp_in (Int32.ofInt z) n := by
  rw [vp_in_iff, i32_to (by omega) (by omega)]
  exact ⟨h0, h1⟩
theorem i64_to {z : Int} (h1 : -9223372036854775808 ≤ z) (h2 : z < 9223372036854775808) : (Int64.ofInt z).toInt = z := by
  have hs : (Int64.size : Int) = 18446744073709551616 := rfl
  rw [Int64.toInt_ofInt, Int.bmod_eq_of_le (by omega) (by omega)]
theorem i32_l {z : Int} (h1 : -2147483648 ≤ z) (h2 : z < 2147483648) : (Int32.ofInt z).toInt64 = Int64.ofInt z := by
  apply Int64.toInt_inj.mp
  rw [Int32.toInt_toInt64, i32_to h1 h2, i64_to (by omega) (by omega)]
-- values
/-- an int, a long, as values -/
def vI (z : Int) : Value := .int (Int32.ofInt z)
def vJ (z : Int) : Value := .long (Int64.ofInt z)
/-- what a truth value is as an int -/
noncomputable def bI (p : Prop) : Int := @ite _ p (Classical.propDecidable p) 1 0
theorem bI_t {p : Prop} (h : p) : bI p = 1 := if_pos h
theorem bI_f {p : Prop} (h : ¬ p) : bI p = 0 := if_neg h
theorem bI_rng (p : Prop) : bI p = 0 ∨ bI p = 1 := (Classical.em p).elim (fun h => Or.inr (bI_t h)) (fun h => Or.inl (bI_f h))
theorem bI_eq0 {p : Prop} : bI p = 0 ↔ ¬ p := ⟨fun h hp => absurd (h.symm.trans (bI_t hp)) (by decide), bI_f⟩
theorem bI_eq1 {p : Prop} : bI p = 1 ↔ p := ⟨fun h => Classical.byContradiction fun hp => absurd (h.symm.trans (bI_f hp)) (by decide), bI_t⟩
theorem bI_congr {p q : Prop} (h : p ↔ q) : bI p = bI q := congrArg bI (propext h)
-- the memory: what a place holds at an index (a field of an object, an element of a row)
abbrev Mem : Type := Nat → Int → Int
def upd2 (G : Mem) (i : Nat) (z v : Int) : Mem := fun j w => if j = i ∧ w = z then v else G j w
theorem upd2_s (G : Mem) (i : Nat) (z v : Int) : upd2 G i z v i z = v := if_pos ⟨rfl, rfl⟩
theorem upd2_i {G : Mem} {i j : Nat} {z w v : Int} (h : j ≠ i) : upd2 G i z v j w = G j w := if_neg fun q => h q.1
theorem upd2_z {G : Mem} {i j : Nat} {z w v : Int} (h : w ≠ z) : upd2 G i z v j w = G j w := if_neg fun q => h q.2
/-- what stays the same in all claims of a run: addresses of the places, tables, the heap's size at the start, the launch -/
abbrev GT : Type := va_G × (Nat → Nat) × (Nat → ClassId) × Nat × Launch × (Nat → Nat) × (Nat → Nat)
def gD (g : GT) : va_G := g.1
def gA (g : GT) : Nat → Nat := g.2.1
def gC (g : GT) : Nat → ClassId := g.2.2.1
def gL (g : GT) : Nat := g.2.2.2.1
def gl (g : GT) : Launch := g.2.2.2.2.1
def gK (g : GT) : Nat → Nat := g.2.2.2.2.2.1
def gV (g : GT) : Nat → Nat := g.2.2.2.2.2.2
def AL (g : GT) : Nat → Prop := fun a => gL g ≤ a
def vR (g : GT) (i : Nat) : Value := .ref (gA g i)
-- the places
def cls : List vw_C := [(RX0, TX0, 6), (RX1, TX1, 7), (RX2, TX2, 16), (RX3, TX3, 11), (RX4, TX4, 23), (RJ4, TJ4, 4)]
def tyL (g : GT) : List (ClassId × FieldType) := [(gC g 0, .int), (gC g 1, .long), (gC g 2, .char), (gC g 3, .double), (gC g 4, .object RX2), (gC g 5, .array .int), (gC g 6, .byte)]
abbrev NP : Nat := 121
/-- the kind of a place: 0 to 4 an object of that class, 10 to 15 a row -/
def kd (i : Nat) : Nat :=
  if i < 4 then (if i = 0 then 3 else if i = 1 then 0 else if i = 2 then 1 else 14)
  else if i < 92 then (if (i - 4) % 8 = 0 then 2 else 10)
  else if i = 93 then 15 else if i = 100 ∨ i = 101 ∨ i = 119 then 11 else if i = 102 ∨ i = 116 then 12 else if i = 106 then 4 else if i = 120 then 13 else 10
/-- how long a row is -/
def ln (i : Nat) : Nat :=
  if i < 4 then 8 else if i < 92 then (if (i - 4) % 8 < 5 then 5 else 40)
  else if i = 92 then 5 else if i = 93 then 6 else if i < 100 then 100 else if i < 102 then 41 else if i < 106 then 60
  else if i < 110 then 144 else if i = 110 then 1152 else if i = 111 then 60 else if i = 112 then 5 else if i = 113 then 600 else if i = 114 then 5
  else if i = 115 then 80 else if i = 116 then 39 else if i = 117 then 8 else if i = 118 then 183 else 1
/-- the place that the field k of the object at a place names -/
def tg (i k : Nat) : Option Nat :=
  if kd i = 2 then (if k = 1 ∨ k = 2 ∨ k = 3 ∨ k = 4 then some (i + k) else if k = 6 ∨ k = 7 ∨ k = 8 then some (i + k - 1) else none)
  else if i = 0 then (([4, 12, 20, 3, 1, 2, 121] : List Nat)[k]?)
  else if i = 1 then (([92, 93, 100, 101] : List Nat)[k]?)
  else if i = 2 then (([some 102, none, none, none, some 103, some 104, some 105] : List (Option Nat)).getD k none)
  else (([some 107, some 108, some 109, none, some 110, none, none, none, none, some 111, none, some 112, some 113, some 114, some 115, none, some 116, some 117, some 118] : List (Option Nat)).getD k none)
def nf (c : Nat) : Nat := ([6, 7, 16, 11, 23] : List Nat).getD c 0
def fl (g : GT) (i k : Nat) (f : Int → Int) : Value := match tg i k with
  | some j => vR g j
  | none => vI (f k)
/-- what lies at a place -/
def cel (g : GT) (i : Nat) (f : Int → Int) : va_E :=
  if kd i < 5 then .inr (kd i, (List.range (nf (kd i))).map fun k => fl g i k f)
  else if kd i = 10 then .inl (gC g 0, ln i, .inl (fun j => Int32.ofInt (f j)))
  else if kd i = 11 then .inl (gC g 1, ln i, .inr (.inl (fun j => Int64.ofInt (f j))))
  else if kd i = 12 then .inl (gC g 2, ln i, .inl (fun j => Int32.ofInt (f j)))
  else if kd i = 13 then .inl (gC g 3, ln i, .inr (.inr (.inr (.inl (fun j => UInt64.ofNat (f j).toNat)))))
  else if kd i = 14 then .inl (gC g 4, ln i, .inr (.inr (.inr (.inr (fun j => some (gA g (f j).toNat))))))
  else .inl (gC g 5, ln i, .inr (.inr (.inr (.inr (fun j => some (gA g (94 + j)))))))
theorem cel_o {g : GT} {i c : Nat} {f : Int → Int} (h : kd i = c) (hc : c < 5) : cel g i f = .inr (c, (List.range (nf c)).map fun k => fl g i k f) := by
  unfold cel; rw [h, if_pos hc]
theorem cel_i {g : GT} {i : Nat} {f : Int → Int} (h : kd i = 10) : cel g i f = .inl (gC g 0, ln i, .inl (fun j => Int32.ofInt (f j))) := by
  unfold cel; rw [h]; rfl
theorem cel_j {g : GT} {i : Nat} {f : Int → Int} (h : kd i = 11) : cel g i f = .inl (gC g 1, ln i, .inr (.inl (fun j => Int64.ofInt (f j)))) := by
  unfold cel; rw [h]; rfl
theorem cel_c {g : GT} {i : Nat} {f : Int → Int} (h : kd i = 12) : cel g i f = .inl (gC g 2, ln i, .inl (fun j => Int32.ofInt (f j))) := by
  unfold cel; rw [h]; rfl
theorem cel_d {g : GT} {i : Nat} {f : Int → Int} (h : kd i = 13) : cel g i f = .inl (gC g 3, ln i, .inr (.inr (.inr (.inl (fun j => UInt64.ofNat (f j).toNat))))) := by
  unfold cel; rw [h]; rfl
theorem cel_q {g : GT} {i : Nat} {f : Int → Int} (h : kd i = 14) : cel g i f = .inl (gC g 4, ln i, .inr (.inr (.inr (.inr (fun j => some (gA g (f j).toNat)))))) := by
  unfold cel; rw [h]; rfl
theorem cel_t {g : GT} {i : Nat} {f : Int → Int} (h : kd i = 15) : cel g i f = .inl (gC g 5, ln i, .inr (.inr (.inr (.inr (fun j => some (gA g (94 + j))))))) := by
  unfold cel; rw [h]; rfl
/-- the places as a list of cells -/
def wl (g : GT) (G : Mem) : va_W := (List.range NP).map fun i => (gA g i, cel g i (G i))
theorem wl_len (g : GT) (G : Mem) : (wl g G).length = NP := by simp [wl]
theorem wl_get {g : GT} {G : Mem} {i : Nat} (h : i < NP) : (wl g G)[i]? = some (gA g i, cel g i (G i)) := by
  simp [wl, h]
theorem wl_set {g : GT} {G G' : Mem} {i : Nat} {e : va_E} (h : i < NP) (he : e = cel g i (G' i)) (ho : ∀ j, j < NP → j ≠ i → cel g j (G' j) = cel g j (G j)) : (wl g G).set i (gA g i, e) = wl g G' := by
  apply List.ext_getElem?
  intro j
  by_cases hj : j < NP
  · by_cases hji : j = i
    · subst hji
      rw [List.getElem?_set_self (by rw [wl_len]; exact hj), wl_get hj, he]
    · rw [List.getElem?_set_ne (Ne.symm hji), wl_get hj, wl_get hj, ho j hj hji]
  · rw [List.getElem?_eq_none (by rw [List.length_set, wl_len]; omega), List.getElem?_eq_none (by rw [wl_len]; omega)]
/-- the builder of the output text, its bytes -/
def sbw (g : GT) (G : Mem) (q cap : Nat) (ml : Int32) (bf : Nat → Int32) : va_W := [(gA g 121, .inr (5, [.ref q, .int 0, .int ml, vI (G 122 0)])), (q, .inl (gC g 6, cap, .inl bf))]
def WL (g : GT) (G : Mem) (q cap : Nat) (ml : Int32) (bf : Nat → Int32) : va_W := wl g G ++ sbw g G q cap ml bf
theorem WL_get {g : GT} {G : Mem} {q cap : Nat} {ml : Int32} {bf : Nat → Int32} {i : Nat} (h : i < NP) : (WL g G q cap ml bf)[i]? = some (gA g i, cel g i (G i)) := by
  unfold WL
  rw [List.getElem?_append_left (by rw [wl_len]; exact h), wl_get h]
theorem WL_set {g : GT} {G G' : Mem} {q cap : Nat} {ml : Int32} {bf : Nat → Int32} {i : Nat} {e : va_E} (h : i < NP) (he : e = cel g i (G' i)) (ho : ∀ j, j < NP → j ≠ i → cel g j (G' j) = cel g j (G j)) (hs : G' 122 0 = G 122 0) : (WL g G q cap ml bf).set i (gA g i, e) = WL g G' q cap ml bf := by
  unfold WL
  rw [List.set_append_left _ _ (by rw [wl_len]; exact h), wl_set h he ho]
  unfold sbw
  rw [hs]
/-- what the builder's bytes say of the text -/
def SbOk (G : Mem) (cap : Nat) (bf : Nat → Int32) : Prop := 0 ≤ G 122 0 ∧ G 122 0 ≤ cap ∧ cap ≤ 65536 ∧ sb_Fit bf ∧ ∀ j : Nat, (j : Int) < G 122 0 → 0 ≤ G 121 j ∧ G 121 j < 256 ∧ bf j = sb_b (G 121 j).toNat
/-- the heap holds the memory -/
def WP (g : GT) (G : Mem) (H : Heap) : Prop := ∃ (q cap : Nat) (ml : Int32) (bf : Nat → Int32), SbOk G cap bf ∧ va_P (gD g) cls (WL g G q cap ml bf) H ∧ va_D (AL g) (WL g G q cap ml bf)
theorem WP_ext {g : GT} {G G' : Mem} {H : Heap} (h : WP g G H) (e : ∀ i z, G' i z = G i z) : WP g G' H := by
  have : G' = G := funext fun i => funext fun z => e i z
  rw [this]; exact h
/-- strings of exceptions -/
def XS : List (String × Nat × String) := [(RX3, 334, "no such die"), (RX3, 336, "an argument is out of its range"), (RX3, 338, "the state of the mint does not allow this"), (RX3, 340, "the mint cannot do this"), (RX3, 342, "no coin of this year"), (RX3, 77, "the die is worn out"), (RX3, 91, "no such rank"), (RX3, 353, "no die has this value"), (RX3, 355, "no such grade"), (RX3, 357, "the amount is out of its range"), (RX3, 159, "the amount cannot be paid"), (RX3, 185, "there are no dies"), (RX3, 188, "the vault is empty"), (RX3, 218, "no such index in the output text"), (RX3, 227, "the character cannot be typed"), (RX3, 232, "the script buffer is full"), (RX3, 243, "the script does not have the required form"), (RX3, 264, "a command of the script fails"), (RX3, 272, "no script without the required form"), (RX3, 274, "no script with a failed command"), (RX3, 279, "there is nothing to undo"), (RX3, 285, "there is no snapshot")]
/-- the words of the commands, by their places -/
def VS : List (Nat × String) := [(81, "die "), (83, "sharpen "), (85, "leaf "), (87, "strike "), (89, "year"), (91, "recall "), (93, "pay ")]
def VB : List (List Int32) := [[100, 105, 101, 32], [115, 104, 97, 114, 112, 101, 110, 32], [108, 101, 97, 102, 32], [115, 116, 114, 105, 107, 101, 32], [121, 101, 97, 114], [114, 101, 99, 97, 108, 108, 32], [112, 97, 121, 32]]
def VL : List Nat := [4, 8, 5, 7, 4, 7, 4]
/-- pairs of exceptions of which the statement says that the one is not the other -/
def exN : List String := ["java/lang/IllegalArgumentException", "java/lang/IllegalStateException", "java/lang/UnsupportedOperationException", "java/lang/IndexOutOfBoundsException", "java/util/NoSuchElementException", "java/lang/ArithmeticException"]
def NC : List (String × String) := exN.flatMap fun a => (exN.filter fun b => a != b).map fun b => (a, b)
/-- a row over a class of rows or of objects can be made -/
def va_AOt (ty : FieldType) (U : State) : Prop := (Cond.arrayOver ty).before #[] U = true
theorem va_AOt.moved {ty : FieldType} {u U : State} (hvm : u.vm.Alike U.vm) (h : va_AOt ty u) : va_AOt ty U := by
  have e := Cond.arrayOver_setVmC (args := #[]) hvm ty
  have e2 : (Cond.arrayOver ty).before #[] (u.setVm U.vm) = (Cond.arrayOver ty).before #[] U := rfl
  unfold va_AOt at *
  rw [← e2, e]
  exact h
def ncF (U : State) : Prop := (∀ p ∈ NC, va_Nc p.1 p.2 U) ∧ va_AOt (.object RX2) U ∧ va_AOt (.array .int) U
theorem ncF.moved {u U : State} (hvm : u.vm.Alike U.vm) (h : ncF u) : ncF U := ⟨fun p hp => (h.1 p hp).moved hvm, h.2.1.moved hvm, h.2.2.moved hvm⟩
/-- the statics that the run reads, below the memory -/
def Stt (g : GT) (U : State) (H : Heap) : Prop :=
  vx_Zq Bundle.tN "UNASSIGNED_STACK" Bundle.steD (AL g) U H ∧ vx_Zq Bundle.tN "SUPPRESSED_SENTINEL" Bundle.listD (AL g) U H ∧ vk_S 7 VL VB (gK g) (gV g) (AL g) U H ∧
  va_Z RJ0 "COMPACT_STRINGS" "Z" (.int 1) (AL g) U H ∧
  (∃ t, va_Z RJ6 "DigitTens" "[B" (.ref t) (AL g) U H ∧ va_T .byte t 100 (fun j => .int (Int32.ofNat (48 + j / 10))) (AL g) U H) ∧
  (∃ t, va_Z RJ6 "DigitOnes" "[B" (.ref t) (AL g) U H ∧ va_T .byte t 100 (fun j => .int (Int32.ofNat (48 + j % 10))) (AL g) U H) ∧
  va_Zq RJ3 "SIOOBE_FORMATTER" "Ljava/util/function/BiFunction;" (AL g) U H ∧ ncF U
theorem Stt_moved {g : GT} {u U : State} {H : Heap} (hv : u.vm.Alike U.vm) (h : Stt g u H) : Stt g U H := by
  obtain ⟨h1, h2, h3, h4, ⟨t5, h5, h6⟩, ⟨t7, h7, h8⟩, h9, hA⟩ := h
  exact ⟨h1.moved hv, h2.moved hv, h3.moved hv, h4.moved hv, ⟨t5, h5.moved hv, h6.moved hv⟩, ⟨t7, h7.moved hv, h8.moved hv⟩, h9.moved hv, hA.moved hv⟩
theorem Stt_kept {g : GT} {U : State} {H H1 : Heap} (h : Stt g U H) (hq : ∀ a : Nat, a < H.size → ¬ AL g a → H1[a]? = H[a]?) : Stt g U H1 := by
  obtain ⟨h1, h2, h3, h4, ⟨t5, h5, h6⟩, ⟨t7, h7, h8⟩, h9, hA⟩ := h
  exact ⟨h1.kept hq, h2.kept hq, h3.kept hq, h4.kept hq, ⟨t5, h5.kept hq, h6.kept hq⟩, ⟨t7, h7.kept hq, h8.kept hq⟩, h9.kept hq, hA⟩
/-- what every state of the run keeps beside the words WT -/
def Gc (g : GT) (U : State) (H : Heap) : Prop :=
  va_K (gD g) cls (tyL g) U ∧ (∀ w ∈ NT, va_Nw w U) ∧ (∀ q ∈ XS, ∃ a, vk_R q.1 q.2.1 q.2.2 a U) ∧ (∀ i, i < 7 → ∀ q, VS[i]? = some q → vk_R RX1 q.1 q.2 (gK g i) U) ∧ Stt g U H ∧ gL g ≤ H.size ∧ (gl g).stackTraces = false
theorem Gc_warm {g : GT} {s U : State} {H H1 : Heap} (h : Gc g s H) (hW : s.WarmedH U.vm) (hz : H.size ≤ H1.size) (hq : ∀ a : Nat, a < H.size → ¬ AL g a → H1[a]? = H[a]?) : Gc g U H1 := by
  obtain ⟨h1, h2, h3, h4, h5, h6, h7⟩ := h
  refine ⟨va_K.moved hW.alike h1, fun w hw => nt_warm hw hW (h2 w hw), fun q hq => ?_, fun i hi q hq => vk_R.warm hW (h4 i hi q hq), Stt_moved hW.alike (Stt_kept h5 hq), Nat.le_trans h6 hz, h7⟩
  obtain ⟨a, ha⟩ := h3 q hq
  exact ⟨a, vk_R.warm hW ha⟩
theorem Gc_call {g : GT} {U : State} {H : Heap} (f : JFrame) (mk : MethodId) (a : Array Value) (h : Gc g U H) : Gc g (U.calling f mk a) H := by
  obtain ⟨h1, h2, h3, h4, h5, h6, h7⟩ := h
  have hv : U.vm.Alike (U.calling f mk a).vm := Vm.Alike.refl U.vm
  have he : U.vm = (U.calling f mk a).vm := rfl
  refine ⟨va_K.moved hv h1, fun w hw => va_Nw.same (nt_tab hw) he (h2 w hw), fun q hq => ?_, fun i hi q hq => vk_R.same he.symm (h4 i hi q hq), Stt_moved hv h5, h6, h7⟩
  obtain ⟨b, hb⟩ := h3 q hq
  exact ⟨b, vk_R.same he.symm hb⟩
theorem in_X0 : ∀ w ∈ u_ws RX0 TX0 6, w ∈ WT := by decide +kernel
theorem in_X1 : ∀ w ∈ u_ws RX1 TX1 7, w ∈ WT := by decide +kernel
theorem in_X2 : ∀ w ∈ u_ws RX2 TX2 16, w ∈ WT := by decide +kernel
theorem in_X3 : ∀ w ∈ u_ws RX3 TX3 11, w ∈ WT := by decide +kernel
theorem in_X4 : ∀ w ∈ u_ws RX4 TX4 23, w ∈ WT := by decide +kernel
theorem in_J4 : ∀ w ∈ u_ws RJ4 TJ4 4, w ∈ WT := by decide +kernel
