-- the State objects: their places
def isS (b : Nat) : Prop := ∃ k, k < 11 ∧ b = 4 + 8 * k
theorem isS_mk {k : Nat} (h : k < 11) : isS (4 + 8 * k) := ⟨k, h, rfl⟩
theorem isS_lt {b : Nat} (h : isS b) : 4 ≤ b ∧ b + 7 < 92 := by obtain ⟨k, h1, rfl⟩ := h; omega
theorem kdS {b : Nat} (h : isS b) : kd b = 2 := by
  obtain ⟨k, h1, rfl⟩ := h
  unfold kd
  rw [if_neg (by omega), if_pos (by omega), if_pos (by omega)]
theorem kdS_i {b : Nat} (h : isS b) (j : Nat) (h1 : 1 ≤ j ∧ j ≤ 7) : kd (b + j) = 10 := by
  obtain ⟨k, h2, rfl⟩ := h
  unfold kd
  rw [if_neg (by omega), if_pos (by omega), if_neg (by omega)]
theorem lnS_5 {b : Nat} (h : isS b) (j : Nat) (h1 : 1 ≤ j ∧ j ≤ 4) : ln (b + j) = 5 := by
  obtain ⟨k, h2, rfl⟩ := h
  unfold ln
  rw [if_neg (by omega), if_pos (by omega), if_pos (by omega)]
theorem lnS_40 {b : Nat} (h : isS b) (j : Nat) (h1 : 5 ≤ j ∧ j ≤ 7) : ln (b + j) = 40 := by
  obtain ⟨k, h2, rfl⟩ := h
  unfold ln
  rw [if_neg (by omega), if_pos (by omega), if_neg (by omega)]
theorem ltS {b : Nat} (h : isS b) (j : Nat) (h1 : j ≤ 7) : b + j < NP := by have := isS_lt h; show b + j < 121; omega
theorem tgS {b : Nat} (h : isS b) (k : Nat) (o : Option Nat) (e : (if k = 1 ∨ k = 2 ∨ k = 3 ∨ k = 4 then some (b + k) else if k = 6 ∨ k = 7 ∨ k = 8 then some (b + k - 1) else none) = o) : tg b k = o := by
  unfold tg
  rw [if_pos (kdS h)]
  exact e
/-- the pool's entry idx of the code's own file names the field k of the objects of number c -/
def Fdx (own : String) (idx c k : Nat) : Prop := ∃ (C : String) (T : u_T) (N : Nat), cls[c]? = some (C, T, N) ∧ k < N ∧ nf c = N ∧ c < 5 ∧ (∀ w ∈ u_ws C T N, w ∈ WT) ∧ (T k).1 = C ∧ ((Cond.fieldLink own idx C (T k).2.1 (T k).2.2.1 ∈ WT) ∨ ∃ host, Cond.fieldLinkNest own idx C (T k).2.1 (T k).2.2.1 host ∈ NT)
/-- .. and it may be written -/
def Pdx (own : String) (idx c k : Nat) (ds : String) : Prop := ∃ (C : String) (T : u_T) (N : Nat) (ty : Nat → FieldType), cls[c]? = some (C, T, N) ∧ k < N ∧ nf c = N ∧ c < 5 ∧ (∀ w ∈ u_ws C T N, w ∈ WT) ∧ (T k).1 = C ∧ ((Cond.fieldLink own idx C (T k).2.1 (T k).2.2.1 ∈ WT) ∨ ∃ host, Cond.fieldLinkNest own idx C (T k).2.1 (T k).2.2.1 host ∈ NT) ∧
  (∀ k, k < N → parseFieldDescriptor (T k).2.2.1 = some (ty k)) ∧ (∀ a, a < N → ∀ b, b < N → a ≠ b → (T a).2.1 ≠ (T b).2.1) ∧ (T k).2.2.2 = false ∧ (T k).2.2.1 = ds
theorem SbOk_o {G G' : Mem} {cap : Nat} {bf : Nat → Int32} (h : SbOk G cap bf) (h1 : G' 121 = G 121) (h2 : G' 122 = G 122) : SbOk G' cap bf := by
  unfold SbOk at *
  rw [h1, h2]; exact h
theorem WP_mk {g : GT} {G G' : Mem} {H1 : Heap} {q cap : Nat} {ml : Int32} {bf : Nat → Int32} {i : Nat} {e : va_E} (hi : i < NP) (he : e = cel g i (G' i)) (ho : ∀ j, j ≠ i → G' j = G j) (hs : SbOk G cap bf) (hP : va_P (gD g) cls ((WL g G q cap ml bf).set i (gA g i, e)) H1) (hD : va_D (AL g) ((WL g G q cap ml bf).set i (gA g i, e))) : WP g G' H1 := by
  have h121 : (121 : Nat) ≠ i := by intro h; rw [← h] at hi; exact absurd hi (by decide)
  have h122 : (122 : Nat) ≠ i := by intro h; rw [← h] at hi; exact absurd hi (by decide)
  have hw := WL_set (g := g) (G := G) (G' := G') (q := q) (cap := cap) (ml := ml) (bf := bf) hi he (fun j _ hj => by rw [ho j hj]) (by rw [ho 122 h122])
  rw [hw] at hP hD
  exact ⟨q, cap, ml, bf, SbOk_o hs (ho 121 h121) (ho 122 h122), hP, hD⟩
theorem upd2_o (G : Mem) (i : Nat) (z v : Int) : ∀ j, j ≠ i → upd2 G i z v j = G j := fun j hj => funext fun w => upd2_i hj
section VH
variable {γ : gT} {g : GT} {cc : ByteArray} {nL : Nat} {own : String} {rm : Room} {G : Mem} {k n : Nat} {pc : Nat} {L : List (Option Value)} {st : List Value}
theorem fl_at {g : GT} {i c f : Nat} {G : Mem} (hf : f < nf c) : ((List.range (nf c)).map fun k => fl g i k (G i))[f]? = some (fl g i f (G i)) := by simp [hf]
theorem v_getX {i c f idx : Nat} (F : Fdx own idx c f) (hk : kd i = c) (hi : i < NP) (d : decode cc pc = .ok (.getfield idx, 3)) (kk : V γ g cc nL own rm G k n (pc + 3) L (fl g i f (G i) :: st)) : V γ g cc nL own rm G k n pc L (vR g i :: st) := by
  obtain ⟨p, l, e, R, s, m, args, below, meth, c0, Q⟩ := γ
  obtain ⟨C', T, N, h1, h2, h3, h4, h5, h6, h7⟩ := F
  intro C H locs ls hP hS hL
  obtain ⟨q, cap, ml, bf, hs, hP1, hD1⟩ := id hP
  have hts := C.2.2.2.2.1
  have hG := C.2.2.2.2.2.2.1
  have he := (WL_get (g := g) (G := G) (q := q) (cap := cap) (ml := ml) (bf := bf) hi).trans (by rw [cel_o hk h4])
  rcases h7 with h7 | ⟨host, h7⟩
  · exact va_get C.1 C.2.1 hts h5 C.2.2.2.1 hG.1 hP1 i he h1 f h2 (hts _ h7) (by rw [h6]; exact fun _ h => h) (fl_at (by rw [h3]; exact h2)) d (kk C H locs ls hP hS hL)
  · exact va_getN C.1 C.2.1 hts h5 C.2.2.2.1 hG.1 hP1 i he h1 f h2 (va_Nw.use (nt_tab h7) (hG.2.1 _ h7)) (by rw [h6]; exact fun _ h => h) (fl_at (by rw [h3]; exact h2)) d (kk C H locs ls hP hS hL)
theorem v_get {i c f idx : Nat} (z : Int) (F : Fdx own idx c f) (hk : kd i = c) (hi : i < NP) (ht : tg i f = none) (hz : (f : Int) = z) (d : decode cc pc = .ok (.getfield idx, 3)) (kk : V γ g cc nL own rm G k n (pc + 3) L (vI (G i z) :: st)) : V γ g cc nL own rm G k n pc L (vR g i :: st) :=
  v_getX F hk hi d (v_stk (by unfold fl; rw [ht, ← hz]) kk)
theorem v_getR {i c f idx j : Nat} (F : Fdx own idx c f) (hk : kd i = c) (hi : i < NP) (ht : tg i f = some j) (d : decode cc pc = .ok (.getfield idx, 3)) (kk : V γ g cc nL own rm G k n (pc + 3) L (vR g j :: st)) : V γ g cc nL own rm G k n pc L (vR g i :: st) :=
  v_getX F hk hi d (v_stk (by unfold fl; rw [ht]) kk)
theorem fl_set {g : GT} {i c f : Nat} {G : Mem} {z v : Int} (hf : f < nf c) (ht : tg i f = none) (hz : (f : Int) = z) : ((List.range (nf c)).map fun k => fl g i k (G i)).set f (vI v) = (List.range (nf c)).map fun k => fl g i k (upd2 G i z v i) := by
  apply List.ext_getElem?
  intro j
  by_cases hj : j < nf c
  · by_cases hjf : j = f
    · subst hjf
      rw [List.getElem?_set_self (by simp; exact hj)]
      simp [hj]
      unfold fl
      rw [ht, ← hz, upd2_s]
    · rw [List.getElem?_set_ne (Ne.symm hjf)]
      simp [hj]
      unfold fl
      have hz2 : (j : Int) ≠ z := by omega
      rw [upd2_z hz2]
  · rw [List.getElem?_eq_none (by simp; omega), List.getElem?_eq_none (by simp; omega)]
theorem v_putT {i c f idx : Nat} {z v : Int} {ds : String} {ty : FieldType} (F : Pdx own idx c f ds) (hd : parseFieldDescriptor ds = some ty) (hv : narrow ty (vI v) = vI v) (hv2 : fits ty (vI v) = true) (hk : kd i = c) (hi : i < NP) (ht : tg i f = none) (hz : (f : Int) = z) (d : decode cc pc = .ok (.putfield idx, 3)) (kk : V γ g cc nL own rm (upd2 G i z v) k n (pc + 3) L st) : V γ g cc nL own rm G k n pc L (vI v :: vR g i :: st) := by
  obtain ⟨p, l, e, R, s, m, args, below, meth, c0, Q⟩ := γ
  obtain ⟨C', T, N, ty0, h1, h2, h3, h4, h5, h6, h7, h8, h9, h10, h11⟩ := F
  intro C H locs ls hP hS hL
  obtain ⟨q, cap, ml, bf, hs, hP1, hD1⟩ := id hP
  have hts := C.2.2.2.2.1
  have hG := C.2.2.2.2.2.2.1
  have he := (WL_get (g := g) (G := G) (q := q) (cap := cap) (ml := ml) (bf := bf) hi).trans (by rw [cel_o hk h4])
  have hlen : f < ((List.range (nf c)).map fun k => fl g i k (G i)).length := by simp; rw [h3]; exact h2
  have hd' : parseFieldDescriptor (T f).2.2.1 = some ty := by rw [h11]; exact hd
  have fin : ∀ (H1 : Heap) (locs1 : List Loc), va_P (gD g) cls ((WL g G q cap ml bf).set i (gA g i, .inr (c, ((List.range (nf c)).map fun k => fl g i k (G i)).set f (vI v)))) H1 → va_D (AL g) ((WL g G q cap ml bf).set i (gA g i, .inr (c, ((List.range (nf c)).map fun k => fl g i k (G i)).set f (vI v)))) → va_S (AL g) s.heap H1 locs1 → W p l e R s m args below meth c0 H1 locs1 k n Q (F0 m (pc + 3) ls st) := fun H1 locs1 hP2 hD2 hS2 =>
    kk C H1 locs1 ls (WP_mk hi (by rw [cel_o hk h4, fl_set (by rw [h3]; exact h2) ht hz]) (upd2_o G i z v) hs hP2 hD2) hS2 hL
  rcases h7 with h7 | ⟨host, h7⟩
  · exact va_put C.1 C.2.1 hts h5 ty0 h8 h9 C.2.2.2.1 hG.1 hP1 hD1 hS i he h1 f h2 (hts _ h7) (by rw [h6]; exact fun _ h => h) h10 hd' hv hv2 hlen d fin
  · exact va_putN C.1 C.2.1 hts h5 ty0 h8 h9 C.2.2.2.1 hG.1 hP1 hD1 hS i he h1 f h2 (va_Nw.use (nt_tab h7) (hG.2.1 _ h7)) (by rw [h6]; exact fun _ h => h) h10 hd' hv hv2 hlen d fin
theorem v_put {i c f idx : Nat} (z : Int) {v : Int} (F : Pdx own idx c f "I") (hk : kd i = c) (hi : i < NP) (ht : tg i f = none) (hz : (f : Int) = z) (d : decode cc pc = .ok (.putfield idx, 3)) (kk : V γ g cc nL own rm (upd2 G i z v) k n (pc + 3) L st) : V γ g cc nL own rm G k n pc L (vI v :: vR g i :: st) :=
  v_putT (ty := .int) F (by decide +kernel) rfl rfl hk hi ht hz d kk
theorem v_putZ {i c f idx : Nat} (z : Int) {v : Int} (hb : v = 0 ∨ v = 1) (F : Pdx own idx c f "Z") (hk : kd i = c) (hi : i < NP) (ht : tg i f = none) (hz : (f : Int) = z) (d : decode cc pc = .ok (.putfield idx, 3)) (kk : V γ g cc nL own rm (upd2 G i z v) k n (pc + 3) L st) : V γ g cc nL own rm G k n pc L (vI v :: vR g i :: st) :=
  v_putT (ty := .boolean) F (by decide +kernel) (by rcases hb with rfl | rfl <;> rfl) (by rcases hb with rfl | rfl <;> rfl) hk hi ht hz d kk

theorem z_toNat {z : Int} (h : 0 ≤ z) : ((z.toNat : Nat) : Int) = z := by omega
theorem v_iald {i N : Nat} {z : Int} (hk : kd i = 10) (hn : ln i = N) (hi : i < NP) (hz : 0 ≤ z ∧ z < (N : Int)) (hN : N < 2147483648) (d : decode cc pc = .ok (.iaload, 1)) (kk : V γ g cc nL own rm G k n (pc + 1) L (vI (G i z) :: st)) : V γ g cc nL own rm G k n pc L (vI z :: vR g i :: st) := by
  obtain ⟨p, l, e, R, s, m, args, below, meth, c0, Q⟩ := γ
  intro C H locs ls hP hS hL
  obtain ⟨q, cap, ml, bf, hs, hP1, hD1⟩ := id hP
  have he := (WL_get (g := g) (G := G) (q := q) (cap := cap) (ml := ml) (bf := bf) hi).trans (by rw [cel_i hk])
  refine va_iald C.1 C.2.1 C.2.2.2.2.2.2.1.1 hP1 i 0 he rfl (i32_in hz.1 (by rw [hn]; exact hz.2) (by rw [hn]; exact hN)) d ?_
  rw [i32_nat hz.1 (by omega), z_toNat hz.1]
  exact kk C H locs ls hP hS hL
theorem v_cald {i N : Nat} {z : Int} (hk : kd i = 12) (hn : ln i = N) (hi : i < NP) (hz : 0 ≤ z ∧ z < (N : Int)) (hN : N < 2147483648) (d : decode cc pc = .ok (.caload, 1)) (kk : V γ g cc nL own rm G k n (pc + 1) L (vI (G i z) :: st)) : V γ g cc nL own rm G k n pc L (vI z :: vR g i :: st) := by
  obtain ⟨p, l, e, R, s, m, args, below, meth, c0, Q⟩ := γ
  intro C H locs ls hP hS hL
  obtain ⟨q, cap, ml, bf, hs, hP1, hD1⟩ := id hP
  have he := (WL_get (g := g) (G := G) (q := q) (cap := cap) (ml := ml) (bf := bf) hi).trans (by rw [cel_c hk])
  refine va_cald C.1 C.2.1 C.2.2.2.2.2.2.1.1 hP1 i 2 he rfl (i32_in hz.1 (by rw [hn]; exact hz.2) (by rw [hn]; exact hN)) d ?_
  rw [i32_nat hz.1 (by omega), z_toNat hz.1]
  exact kk C H locs ls hP hS hL
theorem v_lald {i N : Nat} {z : Int} (hk : kd i = 11) (hn : ln i = N) (hi : i < NP) (hz : 0 ≤ z ∧ z < (N : Int)) (hN : N < 2147483648) (d : decode cc pc = .ok (.laload, 1)) (kk : V γ g cc nL own rm G k n (pc + 1) L (vJ (G i z) :: st)) : V γ g cc nL own rm G k n pc L (vI z :: vR g i :: st) := by
  obtain ⟨p, l, e, R, s, m, args, below, meth, c0, Q⟩ := γ
  intro C H locs ls hP hS hL
  obtain ⟨q, cap, ml, bf, hs, hP1, hD1⟩ := id hP
  have he := (WL_get (g := g) (G := G) (q := q) (cap := cap) (ml := ml) (bf := bf) hi).trans (by rw [cel_j hk])
  refine va_lald C.1 C.2.1 C.2.2.2.2.2.2.1.1 hP1 i 1 he rfl (i32_in hz.1 (by rw [hn]; exact hz.2) (by rw [hn]; exact hN)) d ?_
  rw [i32_nat hz.1 (by omega), z_toNat hz.1]
  exact kk C H locs ls hP hS hL
theorem v_dald {i N : Nat} {z : Int} (hk : kd i = 13) (hn : ln i = N) (hi : i < NP) (hz : 0 ≤ z ∧ z < (N : Int)) (hN : N < 2147483648) (d : decode cc pc = .ok (.daload, 1)) (kk : V γ g cc nL own rm G k n (pc + 1) L (.double (UInt64.ofNat (G i z).toNat) :: st)) : V γ g cc nL own rm G k n pc L (vI z :: vR g i :: st) := by
  obtain ⟨p, l, e, R, s, m, args, below, meth, c0, Q⟩ := γ
  intro C H locs ls hP hS hL
  obtain ⟨q, cap, ml, bf, hs, hP1, hD1⟩ := id hP
  have he := (WL_get (g := g) (G := G) (q := q) (cap := cap) (ml := ml) (bf := bf) hi).trans (by rw [cel_d hk])
  refine va_dald C.1 C.2.1 C.2.2.2.2.2.2.1.1 hP1 i 3 he rfl (i32_in hz.1 (by rw [hn]; exact hz.2) (by rw [hn]; exact hN)) d ?_
  rw [i32_nat hz.1 (by omega), z_toNat hz.1]
  exact kk C H locs ls hP hS hL
theorem v_aldq {i N : Nat} {z : Int} (hk : kd i = 14) (hn : ln i = N) (hi : i < NP) (hz : 0 ≤ z ∧ z < (N : Int)) (hN : N < 2147483648) (d : decode cc pc = .ok (.aaload, 1)) (kk : V γ g cc nL own rm G k n (pc + 1) L (vR g (G i z).toNat :: st)) : V γ g cc nL own rm G k n pc L (vI z :: vR g i :: st) := by
  obtain ⟨p, l, e, R, s, m, args, below, meth, c0, Q⟩ := γ
  intro C H locs ls hP hS hL
  obtain ⟨q, cap, ml, bf, hs, hP1, hD1⟩ := id hP
  have he := (WL_get (g := g) (G := G) (q := q) (cap := cap) (ml := ml) (bf := bf) hi).trans (by rw [cel_q hk])
  refine va_aldq C.1 C.2.1 C.2.2.2.2.2.2.1.1 hP1 i 4 he rfl (i32_in hz.1 (by rw [hn]; exact hz.2) (by rw [hn]; exact hN)) d ?_
  rw [i32_nat hz.1 (by omega), z_toNat hz.1]
  exact kk C H locs ls hP hS hL
theorem v_aldt {i N : Nat} {z : Int} (hk : kd i = 15) (hn : ln i = N) (hi : i < NP) (hz : 0 ≤ z ∧ z < (N : Int)) (hN : N < 2147483648) (d : decode cc pc = .ok (.aaload, 1)) (kk : V γ g cc nL own rm G k n (pc + 1) L (vR g (94 + z.toNat) :: st)) : V γ g cc nL own rm G k n pc L (vI z :: vR g i :: st) := by
  obtain ⟨p, l, e, R, s, m, args, below, meth, c0, Q⟩ := γ
  intro C H locs ls hP hS hL
  obtain ⟨q, cap, ml, bf, hs, hP1, hD1⟩ := id hP
  have he := (WL_get (g := g) (G := G) (q := q) (cap := cap) (ml := ml) (bf := bf) hi).trans (by rw [cel_t hk])
  have hin := i32_in (n := ln i) hz.1 (by rw [hn]; exact hz.2) (by rw [hn]; exact hN)
  have hlt : (Int32.ofInt z).toNatClampNeg < ln i := Nat.not_le.mp fun q => hin (Or.inr q)
  refine W.aald (v := vR g (94 + z.toNat)) (ty := .array .int) C.1 C.2.1 (hP1 i _ he) ((C.2.2.2.2.2.2.1.1.2 5 _ rfl).1 (ln i) (fun j => va_rf (some (gA g (94 + j))))) rfl (fun q => by cases q) (by show ¬ ((Int32.ofInt z) < 0 ∨ (arrV _ _ _).slots.size ≤ _); rw [arrV_size]; exact hin) (by show (arrV _ _ _).slots[_]? = _; rw [arrV_read _ _ hlt, i32_nat hz.1 (by omega)]; rfl) rfl rfl d (kk C H locs ls hP hS hL)
theorem updf {f : Int → Int} {z v : Int} (h : 0 ≤ z) (c : Int → Int32) : upd (fun j : Nat => c (f j)) z.toNat (c v) = fun j : Nat => c ((fun w => if w = z then v else f w) j) := by
  funext j
  by_cases hj : j = z.toNat
  · subst hj
    show (if z.toNat = z.toNat then c v else _) = c (if ((z.toNat : Nat) : Int) = z then v else f _)
    rw [if_pos rfl, if_pos (z_toNat h)]
  · show (if j = z.toNat then c v else _) = c (if (j : Int) = z then v else f j)
    rw [if_neg hj, if_neg (by omega)]
theorem upd2_self (G : Mem) (i : Nat) (z v : Int) : upd2 G i z v i = fun w => if w = z then v else G i w := by
  funext w
  by_cases h : w = z
  · subst h; rw [upd2_s, if_pos rfl]
  · rw [upd2_z h, if_neg h]
theorem v_iast {i N : Nat} {z v : Int} (hk : kd i = 10) (hn : ln i = N) (hi : i < NP) (hz : 0 ≤ z ∧ z < (N : Int)) (hN : N < 2147483648) (d : decode cc pc = .ok (.iastore, 1)) (kk : V γ g cc nL own rm (upd2 G i z v) k n (pc + 1) L st) : V γ g cc nL own rm G k n pc L (vI v :: vI z :: vR g i :: st) := by
  obtain ⟨p, l, e, R, s, m, args, below, meth, c0, Q⟩ := γ
  intro C H locs ls hP hS hL
  obtain ⟨q, cap, ml, bf, hs, hP1, hD1⟩ := id hP
  have he := (WL_get (g := g) (G := G) (q := q) (cap := cap) (ml := ml) (bf := bf) hi).trans (by rw [cel_i hk])
  refine va_iast C.1 C.2.1 C.2.2.2.2.2.2.1.1 hP1 hD1 hS i 0 he rfl (i32_in hz.1 (by rw [hn]; exact hz.2) (by rw [hn]; exact hN)) d (fun H1 locs1 hP2 hD2 hS2 => ?_)
  rw [i32_nat hz.1 (by omega), updf hz.1 Int32.ofInt] at hP2 hD2
  exact kk C H1 locs1 ls (WP_mk hi (by rw [cel_i hk, upd2_self]) (upd2_o G i z v) hs hP2 hD2) hS2 hL
theorem v_cast {i N : Nat} {z v : Int} (hk : kd i = 12) (hn : ln i = N) (hi : i < NP) (hz : 0 ≤ z ∧ z < (N : Int)) (hN : N < 2147483648) (hv : 0 ≤ v ∧ v < 65536) (d : decode cc pc = .ok (.castore, 1)) (kk : V γ g cc nL own rm (upd2 G i z v) k n (pc + 1) L st) : V γ g cc nL own rm G k n pc L (vI v :: vI z :: vR g i :: st) := by
  obtain ⟨p, l, e, R, s, m, args, below, meth, c0, Q⟩ := γ
  intro C H locs ls hP hS hL
  obtain ⟨q, cap, ml, bf, hs, hP1, hD1⟩ := id hP
  have he := (WL_get (g := g) (G := G) (q := q) (cap := cap) (ml := ml) (bf := bf) hi).trans (by rw [cel_c hk])
  refine va_cast C.1 C.2.1 C.2.2.2.2.2.2.1.1 hP1 hD1 hS i 2 he rfl (i32_in hz.1 (by rw [hn]; exact hz.2) (by rw [hn]; exact hN)) d (fun H1 locs1 hP2 hD2 hS2 => ?_)
  have hnar : vp_nar .char (Int32.ofInt v) = Int32.ofInt v := by
    obtain ⟨w, rfl⟩ := Int.eq_ofNat_of_zero_le hv.1
    have := (pk_charN (q := w) (by omega)).1
    have h2 : vp_nar .char (nI w) = nI w := by simp only [vp_nar, this]
    exact h2
  rw [i32_nat hz.1 (by omega), hnar, updf hz.1 Int32.ofInt] at hP2 hD2
  exact kk C H1 locs1 ls (WP_mk hi (by rw [cel_c hk, upd2_self]) (upd2_o G i z v) hs hP2 hD2) hS2 hL
theorem v_last {i N : Nat} {z v : Int} (hk : kd i = 11) (hn : ln i = N) (hi : i < NP) (hz : 0 ≤ z ∧ z < (N : Int)) (hN : N < 2147483648) (d : decode cc pc = .ok (.lastore, 1)) (kk : V γ g cc nL own rm (upd2 G i z v) k n (pc + 1) L st) : V γ g cc nL own rm G k n pc L (vJ v :: vI z :: vR g i :: st) := by
  obtain ⟨p, l, e, R, s, m, args, below, meth, c0, Q⟩ := γ
  intro C H locs ls hP hS hL
  obtain ⟨q, cap, ml, bf, hs, hP1, hD1⟩ := id hP
  have he := (WL_get (g := g) (G := G) (q := q) (cap := cap) (ml := ml) (bf := bf) hi).trans (by rw [cel_j hk])
  refine va_last C.1 C.2.1 C.2.2.2.2.2.2.1.1 hP1 hD1 hS i 1 he rfl (i32_in hz.1 (by rw [hn]; exact hz.2) (by rw [hn]; exact hN)) d (fun H1 locs1 hP2 hD2 hS2 => ?_)
  rw [i32_nat hz.1 (by omega)] at hP2 hD2
  have hu : vp_updL (fun j : Nat => Int64.ofInt (G i j)) z.toNat (Int64.ofInt v) = fun j : Nat => Int64.ofInt (upd2 G i z v i j) := by
    funext j
    by_cases hj : j = z.toNat
    · subst hj
      rw [pk_uLs, z_toNat hz.1, upd2_s]
    · rw [pk_uLn hj, upd2_z (by omega)]
  rw [hu] at hP2 hD2
  exact kk C H1 locs1 ls (WP_mk hi (by rw [cel_j hk]) (upd2_o G i z v) hs hP2 hD2) hS2 hL
theorem v_dast {i N : Nat} {z : Int} {x : UInt64} (hk : kd i = 13) (hn : ln i = N) (hi : i < NP) (hz : 0 ≤ z ∧ z < (N : Int)) (hN : N < 2147483648) (d : decode cc pc = .ok (.dastore, 1)) (kk : V γ g cc nL own rm (upd2 G i z (x.toNat : Int)) k n (pc + 1) L st) : V γ g cc nL own rm G k n pc L (.double x :: vI z :: vR g i :: st) := by
  obtain ⟨p, l, e, R, s, m, args, below, meth, c0, Q⟩ := γ
  intro C H locs ls hP hS hL
  obtain ⟨q, cap, ml, bf, hs, hP1, hD1⟩ := id hP
  have he := (WL_get (g := g) (G := G) (q := q) (cap := cap) (ml := ml) (bf := bf) hi).trans (by rw [cel_d hk])
  refine va_dast C.1 C.2.1 C.2.2.2.2.2.2.1.1 hP1 hD1 hS i 3 he rfl (i32_in hz.1 (by rw [hn]; exact hz.2) (by rw [hn]; exact hN)) d (fun H1 locs1 hP2 hD2 hS2 => ?_)
  rw [i32_nat hz.1 (by omega)] at hP2 hD2
  have hu : vf_upd (fun j : Nat => UInt64.ofNat (G i j).toNat) z.toNat x = fun j : Nat => UInt64.ofNat (upd2 G i z (x.toNat : Int) i j).toNat := by
    funext j
    by_cases hj : j = z.toNat
    · subst hj
      rw [z_toNat hz.1, upd2_s]
      show (if z.toNat = z.toNat then x else _) = _
      rw [if_pos rfl]; simp
    · rw [upd2_z (by omega)]
      show (if j = z.toNat then x else _) = _
      rw [if_neg hj]
  rw [hu] at hP2 hD2
  exact kk C H1 locs1 ls (WP_mk hi (by rw [cel_d hk]) (upd2_o G i z _) hs hP2 hD2) hS2 hL
theorem v_astq {i N b : Nat} {z : Int} (hk : kd i = 14) (hn : ln i = N) (hi : i < NP) (hz : 0 ≤ z ∧ z < (N : Int)) (hN : N < 2147483648) (hb : isS b) (d : decode cc pc = .ok (.aastore, 1)) (kk : V γ g cc nL own rm (upd2 G i z (b : Int)) k n (pc + 1) L st) : V γ g cc nL own rm G k n pc L (vR g b :: vI z :: vR g i :: st) := by
  obtain ⟨p, l, e, R, s, m, args, below, meth, c0, Q⟩ := γ
  intro C H locs ls hP hS hL
  obtain ⟨q, cap, ml, bf, hs, hP1, hD1⟩ := id hP
  have he := (WL_get (g := g) (G := G) (q := q) (cap := cap) (ml := ml) (bf := bf) hi).trans (by rw [cel_q hk])
  have hbl : b < NP := ltS hb 0 (by omega)
  have he2 := (WL_get (g := g) (G := G) (q := q) (cap := cap) (ml := ml) (bf := bf) hbl).trans (by rw [cel_o (kdS hb) (by decide)])
  refine va_astq (r := (RX2, TX2, 16)) C.1 C.2.1 C.2.2.2.2.2.2.1.1 hP1 hD1 hS i 4 b 2 he rfl he2 rfl (i32_in hz.1 (by rw [hn]; exact hz.2) (by rw [hn]; exact hN)) d (fun H1 locs1 hP2 hD2 hS2 => ?_)
  rw [i32_nat hz.1 (by omega)] at hP2 hD2
  have hu : va_up (fun j : Nat => some (gA g (G i j).toNat)) z.toNat (some (gA g b)) = fun j : Nat => some (gA g (upd2 G i z (b : Int) i j).toNat) := by
    funext j
    by_cases hj : j = z.toNat
    · subst hj
      rw [z_toNat hz.1, upd2_s]
      show (if z.toNat = z.toNat then _ else _) = _
      rw [if_pos rfl]; rfl
    · rw [upd2_z (by omega)]
      show (if j = z.toNat then _ else _) = _
      rw [if_neg hj]
  rw [hu] at hP2 hD2
  exact kk C H1 locs1 ls (WP_mk hi (by rw [cel_q hk]) (upd2_o G i z _) hs hP2 hD2) hS2 hL
end VH
theorem fd_X0_27 : Fdx RX0 27 2 0 := ⟨RX2, TX2, 16, rfl, by decide, rfl, by decide, in_X2, rfl, Or.inr ⟨RX3, wF_X0_27⟩⟩
theorem pd_X0_27 : Pdx RX0 27 2 0 "I" := ⟨RX2, TX2, 16, tyX2, rfl, by decide, rfl, by decide, in_X2, rfl, Or.inr ⟨RX3, wF_X0_27⟩, tyX2_ok, nmX2, rfl, rfl⟩
theorem fd_X2_33 : Fdx RX2 33 2 0 := ⟨RX2, TX2, 16, rfl, by decide, rfl, by decide, in_X2, rfl, Or.inl wF_X2_33⟩
theorem pd_X2_33 : Pdx RX2 33 2 0 "I" := ⟨RX2, TX2, 16, tyX2, rfl, by decide, rfl, by decide, in_X2, rfl, Or.inl wF_X2_33, tyX2_ok, nmX2, rfl, rfl⟩
theorem fd_X3_58 : Fdx RX3 58 2 0 := ⟨RX2, TX2, 16, rfl, by decide, rfl, by decide, in_X2, rfl, Or.inr ⟨RX3, wF_X3_58⟩⟩
theorem pd_X3_58 : Pdx RX3 58 2 0 "I" := ⟨RX2, TX2, 16, tyX2, rfl, by decide, rfl, by decide, in_X2, rfl, Or.inr ⟨RX3, wF_X3_58⟩, tyX2_ok, nmX2, rfl, rfl⟩
theorem fd_X2_9 : Fdx RX2 9 2 1 := ⟨RX2, TX2, 16, rfl, by decide, rfl, by decide, in_X2, rfl, Or.inl wF_X2_9⟩
theorem fd_X0_45 : Fdx RX0 45 2 1 := ⟨RX2, TX2, 16, rfl, by decide, rfl, by decide, in_X2, rfl, Or.inr ⟨RX3, wF_X0_45⟩⟩
theorem fd_X3_65 : Fdx RX3 65 2 1 := ⟨RX2, TX2, 16, rfl, by decide, rfl, by decide, in_X2, rfl, Or.inr ⟨RX3, wF_X3_65⟩⟩
theorem fd_X2_15 : Fdx RX2 15 2 2 := ⟨RX2, TX2, 16, rfl, by decide, rfl, by decide, in_X2, rfl, Or.inl wF_X2_15⟩
theorem fd_X3_69 : Fdx RX3 69 2 2 := ⟨RX2, TX2, 16, rfl, by decide, rfl, by decide, in_X2, rfl, Or.inr ⟨RX3, wF_X3_69⟩⟩
theorem fd_X2_18 : Fdx RX2 18 2 3 := ⟨RX2, TX2, 16, rfl, by decide, rfl, by decide, in_X2, rfl, Or.inl wF_X2_18⟩
theorem fd_X3_72 : Fdx RX3 72 2 3 := ⟨RX2, TX2, 16, rfl, by decide, rfl, by decide, in_X2, rfl, Or.inr ⟨RX3, wF_X3_72⟩⟩
theorem fd_X2_21 : Fdx RX2 21 2 4 := ⟨RX2, TX2, 16, rfl, by decide, rfl, by decide, in_X2, rfl, Or.inl wF_X2_21⟩
theorem fd_X0_42 : Fdx RX0 42 2 4 := ⟨RX2, TX2, 16, rfl, by decide, rfl, by decide, in_X2, rfl, Or.inr ⟨RX3, wF_X0_42⟩⟩
theorem fd_X3_213 : Fdx RX3 213 2 4 := ⟨RX2, TX2, 16, rfl, by decide, rfl, by decide, in_X2, rfl, Or.inr ⟨RX3, wF_X3_213⟩⟩
theorem fd_X2_43 : Fdx RX2 43 2 5 := ⟨RX2, TX2, 16, rfl, by decide, rfl, by decide, in_X2, rfl, Or.inl wF_X2_43⟩
theorem pd_X2_43 : Pdx RX2 43 2 5 "I" := ⟨RX2, TX2, 16, tyX2, rfl, by decide, rfl, by decide, in_X2, rfl, Or.inl wF_X2_43, tyX2_ok, nmX2, rfl, rfl⟩
theorem fd_X0_56 : Fdx RX0 56 2 5 := ⟨RX2, TX2, 16, rfl, by decide, rfl, by decide, in_X2, rfl, Or.inr ⟨RX3, wF_X0_56⟩⟩
theorem pd_X0_56 : Pdx RX0 56 2 5 "I" := ⟨RX2, TX2, 16, tyX2, rfl, by decide, rfl, by decide, in_X2, rfl, Or.inr ⟨RX3, wF_X0_56⟩, tyX2_ok, nmX2, rfl, rfl⟩
theorem fd_X3_100 : Fdx RX3 100 2 5 := ⟨RX2, TX2, 16, rfl, by decide, rfl, by decide, in_X2, rfl, Or.inr ⟨RX3, wF_X3_100⟩⟩
theorem pd_X3_100 : Pdx RX3 100 2 5 "I" := ⟨RX2, TX2, 16, tyX2, rfl, by decide, rfl, by decide, in_X2, rfl, Or.inr ⟨RX3, wF_X3_100⟩, tyX2_ok, nmX2, rfl, rfl⟩
theorem fd_X2_24 : Fdx RX2 24 2 6 := ⟨RX2, TX2, 16, rfl, by decide, rfl, by decide, in_X2, rfl, Or.inl wF_X2_24⟩
theorem fd_X0_63 : Fdx RX0 63 2 6 := ⟨RX2, TX2, 16, rfl, by decide, rfl, by decide, in_X2, rfl, Or.inr ⟨RX3, wF_X0_63⟩⟩
theorem fd_X3_103 : Fdx RX3 103 2 6 := ⟨RX2, TX2, 16, rfl, by decide, rfl, by decide, in_X2, rfl, Or.inr ⟨RX3, wF_X3_103⟩⟩
theorem fd_X2_27 : Fdx RX2 27 2 7 := ⟨RX2, TX2, 16, rfl, by decide, rfl, by decide, in_X2, rfl, Or.inl wF_X2_27⟩
theorem fd_X2_30 : Fdx RX2 30 2 8 := ⟨RX2, TX2, 16, rfl, by decide, rfl, by decide, in_X2, rfl, Or.inl wF_X2_30⟩
theorem fd_X2_46 : Fdx RX2 46 2 9 := ⟨RX2, TX2, 16, rfl, by decide, rfl, by decide, in_X2, rfl, Or.inl wF_X2_46⟩
theorem pd_X2_46 : Pdx RX2 46 2 9 "I" := ⟨RX2, TX2, 16, tyX2, rfl, by decide, rfl, by decide, in_X2, rfl, Or.inl wF_X2_46, tyX2_ok, nmX2, rfl, rfl⟩
theorem fd_X3_94 : Fdx RX3 94 2 9 := ⟨RX2, TX2, 16, rfl, by decide, rfl, by decide, in_X2, rfl, Or.inr ⟨RX3, wF_X3_94⟩⟩
theorem pd_X3_94 : Pdx RX3 94 2 9 "I" := ⟨RX2, TX2, 16, tyX2, rfl, by decide, rfl, by decide, in_X2, rfl, Or.inr ⟨RX3, wF_X3_94⟩, tyX2_ok, nmX2, rfl, rfl⟩
theorem fd_X2_49 : Fdx RX2 49 2 10 := ⟨RX2, TX2, 16, rfl, by decide, rfl, by decide, in_X2, rfl, Or.inl wF_X2_49⟩
theorem pd_X2_49 : Pdx RX2 49 2 10 "I" := ⟨RX2, TX2, 16, tyX2, rfl, by decide, rfl, by decide, in_X2, rfl, Or.inl wF_X2_49, tyX2_ok, nmX2, rfl, rfl⟩
theorem fd_X3_97 : Fdx RX3 97 2 10 := ⟨RX2, TX2, 16, rfl, by decide, rfl, by decide, in_X2, rfl, Or.inr ⟨RX3, wF_X3_97⟩⟩
theorem pd_X3_97 : Pdx RX3 97 2 10 "I" := ⟨RX2, TX2, 16, tyX2, rfl, by decide, rfl, by decide, in_X2, rfl, Or.inr ⟨RX3, wF_X3_97⟩, tyX2_ok, nmX2, rfl, rfl⟩
theorem fd_X2_52 : Fdx RX2 52 2 11 := ⟨RX2, TX2, 16, rfl, by decide, rfl, by decide, in_X2, rfl, Or.inl wF_X2_52⟩
theorem pd_X2_52 : Pdx RX2 52 2 11 "I" := ⟨RX2, TX2, 16, tyX2, rfl, by decide, rfl, by decide, in_X2, rfl, Or.inl wF_X2_52, tyX2_ok, nmX2, rfl, rfl⟩
theorem fd_X3_168 : Fdx RX3 168 2 11 := ⟨RX2, TX2, 16, rfl, by decide, rfl, by decide, in_X2, rfl, Or.inr ⟨RX3, wF_X3_168⟩⟩
theorem pd_X3_168 : Pdx RX3 168 2 11 "I" := ⟨RX2, TX2, 16, tyX2, rfl, by decide, rfl, by decide, in_X2, rfl, Or.inr ⟨RX3, wF_X3_168⟩, tyX2_ok, nmX2, rfl, rfl⟩
theorem fd_X2_55 : Fdx RX2 55 2 12 := ⟨RX2, TX2, 16, rfl, by decide, rfl, by decide, in_X2, rfl, Or.inl wF_X2_55⟩
theorem pd_X2_55 : Pdx RX2 55 2 12 "I" := ⟨RX2, TX2, 16, tyX2, rfl, by decide, rfl, by decide, in_X2, rfl, Or.inl wF_X2_55, tyX2_ok, nmX2, rfl, rfl⟩
theorem fd_X3_171 : Fdx RX3 171 2 12 := ⟨RX2, TX2, 16, rfl, by decide, rfl, by decide, in_X2, rfl, Or.inr ⟨RX3, wF_X3_171⟩⟩
theorem pd_X3_171 : Pdx RX3 171 2 12 "I" := ⟨RX2, TX2, 16, tyX2, rfl, by decide, rfl, by decide, in_X2, rfl, Or.inr ⟨RX3, wF_X3_171⟩, tyX2_ok, nmX2, rfl, rfl⟩
theorem fd_X2_58 : Fdx RX2 58 2 13 := ⟨RX2, TX2, 16, rfl, by decide, rfl, by decide, in_X2, rfl, Or.inl wF_X2_58⟩
theorem pd_X2_58 : Pdx RX2 58 2 13 "I" := ⟨RX2, TX2, 16, tyX2, rfl, by decide, rfl, by decide, in_X2, rfl, Or.inl wF_X2_58, tyX2_ok, nmX2, rfl, rfl⟩
theorem fd_X3_174 : Fdx RX3 174 2 13 := ⟨RX2, TX2, 16, rfl, by decide, rfl, by decide, in_X2, rfl, Or.inr ⟨RX3, wF_X3_174⟩⟩
theorem pd_X3_174 : Pdx RX3 174 2 13 "I" := ⟨RX2, TX2, 16, tyX2, rfl, by decide, rfl, by decide, in_X2, rfl, Or.inr ⟨RX3, wF_X3_174⟩, tyX2_ok, nmX2, rfl, rfl⟩
theorem fd_X2_61 : Fdx RX2 61 2 14 := ⟨RX2, TX2, 16, rfl, by decide, rfl, by decide, in_X2, rfl, Or.inl wF_X2_61⟩
theorem pd_X2_61 : Pdx RX2 61 2 14 "I" := ⟨RX2, TX2, 16, tyX2, rfl, by decide, rfl, by decide, in_X2, rfl, Or.inl wF_X2_61, tyX2_ok, nmX2, rfl, rfl⟩
theorem fd_X3_177 : Fdx RX3 177 2 14 := ⟨RX2, TX2, 16, rfl, by decide, rfl, by decide, in_X2, rfl, Or.inr ⟨RX3, wF_X3_177⟩⟩
theorem pd_X3_177 : Pdx RX3 177 2 14 "I" := ⟨RX2, TX2, 16, tyX2, rfl, by decide, rfl, by decide, in_X2, rfl, Or.inr ⟨RX3, wF_X3_177⟩, tyX2_ok, nmX2, rfl, rfl⟩
theorem fd_X2_64 : Fdx RX2 64 2 15 := ⟨RX2, TX2, 16, rfl, by decide, rfl, by decide, in_X2, rfl, Or.inl wF_X2_64⟩
theorem pd_X2_64 : Pdx RX2 64 2 15 "I" := ⟨RX2, TX2, 16, tyX2, rfl, by decide, rfl, by decide, in_X2, rfl, Or.inl wF_X2_64, tyX2_ok, nmX2, rfl, rfl⟩
theorem fd_X3_180 : Fdx RX3 180 2 15 := ⟨RX2, TX2, 16, rfl, by decide, rfl, by decide, in_X2, rfl, Or.inr ⟨RX3, wF_X3_180⟩⟩
theorem pd_X3_180 : Pdx RX3 180 2 15 "I" := ⟨RX2, TX2, 16, tyX2, rfl, by decide, rfl, by decide, in_X2, rfl, Or.inr ⟨RX3, wF_X3_180⟩, tyX2_ok, nmX2, rfl, rfl⟩
theorem fd_X0_9 : Fdx RX0 9 0 0 := ⟨RX0, TX0, 6, rfl, by decide, rfl, by decide, in_X0, rfl, Or.inl wF_X0_9⟩
theorem fd_X3_162 : Fdx RX3 162 0 0 := ⟨RX0, TX0, 6, rfl, by decide, rfl, by decide, in_X0, rfl, Or.inr ⟨RX3, wF_X3_162⟩⟩
theorem fd_X0_17 : Fdx RX0 17 0 1 := ⟨RX0, TX0, 6, rfl, by decide, rfl, by decide, in_X0, rfl, Or.inl wF_X0_17⟩
theorem fd_X0_20 : Fdx RX0 20 0 2 := ⟨RX0, TX0, 6, rfl, by decide, rfl, by decide, in_X0, rfl, Or.inl wF_X0_20⟩
theorem fd_X0_24 : Fdx RX0 24 0 3 := ⟨RX0, TX0, 6, rfl, by decide, rfl, by decide, in_X0, rfl, Or.inl wF_X0_24⟩
theorem fd_X0_33 : Fdx RX0 33 0 4 := ⟨RX0, TX0, 6, rfl, by decide, rfl, by decide, in_X0, rfl, Or.inl wF_X0_33⟩
theorem pd_X0_33 : Pdx RX0 33 0 4 "I" := ⟨RX0, TX0, 6, tyX0, rfl, by decide, rfl, by decide, in_X0, rfl, Or.inl wF_X0_33, tyX0_ok, nmX0, rfl, rfl⟩
theorem fd_X0_59 : Fdx RX0 59 0 5 := ⟨RX0, TX0, 6, rfl, by decide, rfl, by decide, in_X0, rfl, Or.inl wF_X0_59⟩
theorem pd_X0_59 : Pdx RX0 59 0 5 "I" := ⟨RX0, TX0, 6, tyX0, rfl, by decide, rfl, by decide, in_X0, rfl, Or.inl wF_X0_59, tyX0_ok, nmX0, rfl, rfl⟩
theorem fd_X1_9 : Fdx RX1 9 1 0 := ⟨RX1, TX1, 7, rfl, by decide, rfl, by decide, in_X1, rfl, Or.inl wF_X1_9⟩
theorem fd_X1_25 : Fdx RX1 25 1 1 := ⟨RX1, TX1, 7, rfl, by decide, rfl, by decide, in_X1, rfl, Or.inl wF_X1_25⟩
theorem pd_X1_25 : Pdx RX1 25 1 1 "I" := ⟨RX1, TX1, 7, tyX1, rfl, by decide, rfl, by decide, in_X1, rfl, Or.inl wF_X1_25, tyX1_ok, nmX1, rfl, rfl⟩
theorem fd_X3_230 : Fdx RX3 230 1 1 := ⟨RX1, TX1, 7, rfl, by decide, rfl, by decide, in_X1, rfl, Or.inr ⟨RX3, wF_X3_230⟩⟩
theorem pd_X3_230 : Pdx RX3 230 1 1 "I" := ⟨RX1, TX1, 7, tyX1, rfl, by decide, rfl, by decide, in_X1, rfl, Or.inr ⟨RX3, wF_X3_230⟩, tyX1_ok, nmX1, rfl, rfl⟩
theorem fd_X1_29 : Fdx RX1 29 1 2 := ⟨RX1, TX1, 7, rfl, by decide, rfl, by decide, in_X1, rfl, Or.inl wF_X1_29⟩
theorem pd_X1_29 : Pdx RX1 29 1 2 "I" := ⟨RX1, TX1, 7, tyX1, rfl, by decide, rfl, by decide, in_X1, rfl, Or.inl wF_X1_29, tyX1_ok, nmX1, rfl, rfl⟩
theorem fd_X3_240 : Fdx RX3 240 1 2 := ⟨RX1, TX1, 7, rfl, by decide, rfl, by decide, in_X1, rfl, Or.inr ⟨RX3, wF_X3_240⟩⟩
theorem pd_X3_240 : Pdx RX3 240 1 2 "I" := ⟨RX1, TX1, 7, tyX1, rfl, by decide, rfl, by decide, in_X1, rfl, Or.inr ⟨RX3, wF_X3_240⟩, tyX1_ok, nmX1, rfl, rfl⟩
theorem fd_X1_32 : Fdx RX1 32 1 3 := ⟨RX1, TX1, 7, rfl, by decide, rfl, by decide, in_X1, rfl, Or.inl wF_X1_32⟩
theorem pd_X1_32 : Pdx RX1 32 1 3 "I" := ⟨RX1, TX1, 7, tyX1, rfl, by decide, rfl, by decide, in_X1, rfl, Or.inl wF_X1_32, tyX1_ok, nmX1, rfl, rfl⟩
theorem fd_X3_248 : Fdx RX3 248 1 3 := ⟨RX1, TX1, 7, rfl, by decide, rfl, by decide, in_X1, rfl, Or.inr ⟨RX3, wF_X3_248⟩⟩
theorem pd_X3_248 : Pdx RX3 248 1 3 "I" := ⟨RX1, TX1, 7, tyX1, rfl, by decide, rfl, by decide, in_X1, rfl, Or.inr ⟨RX3, wF_X3_248⟩, tyX1_ok, nmX1, rfl, rfl⟩
theorem fd_X1_15 : Fdx RX1 15 1 4 := ⟨RX1, TX1, 7, rfl, by decide, rfl, by decide, in_X1, rfl, Or.inl wF_X1_15⟩
theorem fd_X3_251 : Fdx RX3 251 1 4 := ⟨RX1, TX1, 7, rfl, by decide, rfl, by decide, in_X1, rfl, Or.inr ⟨RX3, wF_X3_251⟩⟩
theorem fd_X1_19 : Fdx RX1 19 1 5 := ⟨RX1, TX1, 7, rfl, by decide, rfl, by decide, in_X1, rfl, Or.inl wF_X1_19⟩
theorem fd_X3_254 : Fdx RX3 254 1 5 := ⟨RX1, TX1, 7, rfl, by decide, rfl, by decide, in_X1, rfl, Or.inr ⟨RX3, wF_X3_254⟩⟩
theorem fd_X1_22 : Fdx RX1 22 1 6 := ⟨RX1, TX1, 7, rfl, by decide, rfl, by decide, in_X1, rfl, Or.inl wF_X1_22⟩
theorem fd_X3_257 : Fdx RX3 257 1 6 := ⟨RX1, TX1, 7, rfl, by decide, rfl, by decide, in_X1, rfl, Or.inr ⟨RX3, wF_X3_257⟩⟩
theorem fd_X3_10 : Fdx RX3 10 3 0 := ⟨RX3, TX3, 11, rfl, by decide, rfl, by decide, in_X3, rfl, Or.inl wF_X3_10⟩
theorem fd_X3_16 : Fdx RX3 16 3 1 := ⟨RX3, TX3, 11, rfl, by decide, rfl, by decide, in_X3, rfl, Or.inl wF_X3_16⟩
theorem fd_X3_19 : Fdx RX3 19 3 2 := ⟨RX3, TX3, 11, rfl, by decide, rfl, by decide, in_X3, rfl, Or.inl wF_X3_19⟩
theorem fd_X3_22 : Fdx RX3 22 3 3 := ⟨RX3, TX3, 11, rfl, by decide, rfl, by decide, in_X3, rfl, Or.inl wF_X3_22⟩
theorem fd_X3_29 : Fdx RX3 29 3 4 := ⟨RX3, TX3, 11, rfl, by decide, rfl, by decide, in_X3, rfl, Or.inl wF_X3_29⟩
theorem fd_X3_36 : Fdx RX3 36 3 5 := ⟨RX3, TX3, 11, rfl, by decide, rfl, by decide, in_X3, rfl, Or.inl wF_X3_36⟩
theorem fd_X3_43 : Fdx RX3 43 3 6 := ⟨RX3, TX3, 11, rfl, by decide, rfl, by decide, in_X3, rfl, Or.inl wF_X3_43⟩
theorem fd_X3_281 : Fdx RX3 281 3 7 := ⟨RX3, TX3, 11, rfl, by decide, rfl, by decide, in_X3, rfl, Or.inl wF_X3_281⟩
theorem pd_X3_281 : Pdx RX3 281 3 7 "Z" := ⟨RX3, TX3, 11, tyX3, rfl, by decide, rfl, by decide, in_X3, rfl, Or.inl wF_X3_281, tyX3_ok, nmX3, rfl, rfl⟩
theorem fd_X3_276 : Fdx RX3 276 3 8 := ⟨RX3, TX3, 11, rfl, by decide, rfl, by decide, in_X3, rfl, Or.inl wF_X3_276⟩
theorem pd_X3_276 : Pdx RX3 276 3 8 "I" := ⟨RX3, TX3, 11, tyX3, rfl, by decide, rfl, by decide, in_X3, rfl, Or.inl wF_X3_276, tyX3_ok, nmX3, rfl, rfl⟩
theorem fd_X3_47 : Fdx RX3 47 3 9 := ⟨RX3, TX3, 11, rfl, by decide, rfl, by decide, in_X3, rfl, Or.inl wF_X3_47⟩
theorem pd_X3_47 : Pdx RX3 47 3 9 "I" := ⟨RX3, TX3, 11, tyX3, rfl, by decide, rfl, by decide, in_X3, rfl, Or.inl wF_X3_47, tyX3_ok, nmX3, rfl, rfl⟩
theorem fd_X3_51 : Fdx RX3 51 3 10 := ⟨RX3, TX3, 11, rfl, by decide, rfl, by decide, in_X3, rfl, Or.inl wF_X3_51⟩
theorem pd_X3_51 : Pdx RX3 51 3 10 "I" := ⟨RX3, TX3, 11, tyX3, rfl, by decide, rfl, by decide, in_X3, rfl, Or.inl wF_X3_51, tyX3_ok, nmX3, rfl, rfl⟩
theorem fd_X4_9 : Fdx RX4 9 4 0 := ⟨RX4, TX4, 23, rfl, by decide, rfl, by decide, in_X4, rfl, Or.inl wF_X4_9⟩
theorem fd_X4_13 : Fdx RX4 13 4 1 := ⟨RX4, TX4, 23, rfl, by decide, rfl, by decide, in_X4, rfl, Or.inl wF_X4_13⟩
theorem fd_X4_16 : Fdx RX4 16 4 2 := ⟨RX4, TX4, 23, rfl, by decide, rfl, by decide, in_X4, rfl, Or.inl wF_X4_16⟩
theorem fd_X4_249 : Fdx RX4 249 4 3 := ⟨RX4, TX4, 23, rfl, by decide, rfl, by decide, in_X4, rfl, Or.inl wF_X4_249⟩
theorem pd_X4_249 : Pdx RX4 249 4 3 "Z" := ⟨RX4, TX4, 23, tyX4, rfl, by decide, rfl, by decide, in_X4, rfl, Or.inl wF_X4_249, tyX4_ok, nmX4, rfl, rfl⟩
theorem fd_X4_19 : Fdx RX4 19 4 4 := ⟨RX4, TX4, 23, rfl, by decide, rfl, by decide, in_X4, rfl, Or.inl wF_X4_19⟩
theorem fd_X4_57 : Fdx RX4 57 4 5 := ⟨RX4, TX4, 23, rfl, by decide, rfl, by decide, in_X4, rfl, Or.inl wF_X4_57⟩
theorem pd_X4_57 : Pdx RX4 57 4 5 "I" := ⟨RX4, TX4, 23, tyX4, rfl, by decide, rfl, by decide, in_X4, rfl, Or.inl wF_X4_57, tyX4_ok, nmX4, rfl, rfl⟩
theorem fd_X4_22 : Fdx RX4 22 4 6 := ⟨RX4, TX4, 23, rfl, by decide, rfl, by decide, in_X4, rfl, Or.inl wF_X4_22⟩
theorem pd_X4_22 : Pdx RX4 22 4 6 "I" := ⟨RX4, TX4, 23, tyX4, rfl, by decide, rfl, by decide, in_X4, rfl, Or.inl wF_X4_22, tyX4_ok, nmX4, rfl, rfl⟩
theorem fd_X4_26 : Fdx RX4 26 4 7 := ⟨RX4, TX4, 23, rfl, by decide, rfl, by decide, in_X4, rfl, Or.inl wF_X4_26⟩
theorem pd_X4_26 : Pdx RX4 26 4 7 "I" := ⟨RX4, TX4, 23, tyX4, rfl, by decide, rfl, by decide, in_X4, rfl, Or.inl wF_X4_26, tyX4_ok, nmX4, rfl, rfl⟩
theorem fd_X4_54 : Fdx RX4 54 4 8 := ⟨RX4, TX4, 23, rfl, by decide, rfl, by decide, in_X4, rfl, Or.inl wF_X4_54⟩
theorem pd_X4_54 : Pdx RX4 54 4 8 "I" := ⟨RX4, TX4, 23, tyX4, rfl, by decide, rfl, by decide, in_X4, rfl, Or.inl wF_X4_54, tyX4_ok, nmX4, rfl, rfl⟩
theorem fd_X4_29 : Fdx RX4 29 4 9 := ⟨RX4, TX4, 23, rfl, by decide, rfl, by decide, in_X4, rfl, Or.inl wF_X4_29⟩
theorem fd_X4_198 : Fdx RX4 198 4 10 := ⟨RX4, TX4, 23, rfl, by decide, rfl, by decide, in_X4, rfl, Or.inl wF_X4_198⟩
theorem pd_X4_198 : Pdx RX4 198 4 10 "I" := ⟨RX4, TX4, 23, tyX4, rfl, by decide, rfl, by decide, in_X4, rfl, Or.inl wF_X4_198, tyX4_ok, nmX4, rfl, rfl⟩
theorem fd_X4_32 : Fdx RX4 32 4 11 := ⟨RX4, TX4, 23, rfl, by decide, rfl, by decide, in_X4, rfl, Or.inl wF_X4_32⟩
theorem fd_X4_35 : Fdx RX4 35 4 12 := ⟨RX4, TX4, 23, rfl, by decide, rfl, by decide, in_X4, rfl, Or.inl wF_X4_35⟩
theorem fd_X4_38 : Fdx RX4 38 4 13 := ⟨RX4, TX4, 23, rfl, by decide, rfl, by decide, in_X4, rfl, Or.inl wF_X4_38⟩
theorem fd_X4_41 : Fdx RX4 41 4 14 := ⟨RX4, TX4, 23, rfl, by decide, rfl, by decide, in_X4, rfl, Or.inl wF_X4_41⟩
theorem fd_X4_185 : Fdx RX4 185 4 15 := ⟨RX4, TX4, 23, rfl, by decide, rfl, by decide, in_X4, rfl, Or.inl wF_X4_185⟩
theorem pd_X4_185 : Pdx RX4 185 4 15 "I" := ⟨RX4, TX4, 23, tyX4, rfl, by decide, rfl, by decide, in_X4, rfl, Or.inl wF_X4_185, tyX4_ok, nmX4, rfl, rfl⟩
theorem fd_X4_44 : Fdx RX4 44 4 16 := ⟨RX4, TX4, 23, rfl, by decide, rfl, by decide, in_X4, rfl, Or.inl wF_X4_44⟩
theorem fd_X4_48 : Fdx RX4 48 4 17 := ⟨RX4, TX4, 23, rfl, by decide, rfl, by decide, in_X4, rfl, Or.inl wF_X4_48⟩
theorem fd_X4_51 : Fdx RX4 51 4 18 := ⟨RX4, TX4, 23, rfl, by decide, rfl, by decide, in_X4, rfl, Or.inl wF_X4_51⟩
theorem fd_X4_233 : Fdx RX4 233 4 19 := ⟨RX4, TX4, 23, rfl, by decide, rfl, by decide, in_X4, rfl, Or.inl wF_X4_233⟩
theorem pd_X4_233 : Pdx RX4 233 4 19 "I" := ⟨RX4, TX4, 23, tyX4, rfl, by decide, rfl, by decide, in_X4, rfl, Or.inl wF_X4_233, tyX4_ok, nmX4, rfl, rfl⟩
theorem fd_X4_201 : Fdx RX4 201 4 20 := ⟨RX4, TX4, 23, rfl, by decide, rfl, by decide, in_X4, rfl, Or.inl wF_X4_201⟩
theorem pd_X4_201 : Pdx RX4 201 4 20 "I" := ⟨RX4, TX4, 23, tyX4, rfl, by decide, rfl, by decide, in_X4, rfl, Or.inl wF_X4_201, tyX4_ok, nmX4, rfl, rfl⟩
theorem fd_X4_204 : Fdx RX4 204 4 21 := ⟨RX4, TX4, 23, rfl, by decide, rfl, by decide, in_X4, rfl, Or.inl wF_X4_204⟩
theorem pd_X4_204 : Pdx RX4 204 4 21 "I" := ⟨RX4, TX4, 23, tyX4, rfl, by decide, rfl, by decide, in_X4, rfl, Or.inl wF_X4_204, tyX4_ok, nmX4, rfl, rfl⟩
theorem fd_X4_207 : Fdx RX4 207 4 22 := ⟨RX4, TX4, 23, rfl, by decide, rfl, by decide, in_X4, rfl, Or.inl wF_X4_207⟩
theorem pd_X4_207 : Pdx RX4 207 4 22 "Z" := ⟨RX4, TX4, 23, tyX4, rfl, by decide, rfl, by decide, in_X4, rfl, Or.inl wF_X4_207, tyX4_ok, nmX4, rfl, rfl⟩
