abbrev tysG (g : Nat → ClassId) : List (ClassId × FieldType) := [(g 0, .int), (g 1, .long), (g 2, .array .int), (g 3, .array .long)]
/-- words that nest mates link by, and words of arrays of arrays -/
def nbl : List Cond := [.methodLinkNest "LabelsOfLines" 9 ⟨"LabelsOfLines$Net", "<init>", "()V"⟩ "LabelsOfLines", .methodLinkNest "LabelsOfLines" 25 ⟨"LabelsOfLines$Past", "<init>", "()V"⟩ "LabelsOfLines", .methodLinkNest "LabelsOfLines" 48 ⟨"LabelsOfLines$Letters", "<init>", "()V"⟩ "LabelsOfLines", .methodLinkNest "LabelsOfLines$Letters" 17 ⟨"LabelsOfLines$Net", "<init>", "()V"⟩ "LabelsOfLines", .methodLinkNest "LabelsOfLines" 55 ⟨"LabelsOfLines$Writing", "<init>", "()V"⟩ "LabelsOfLines"]
def NB (U : State) : Prop := (∀ q ∈ nbl, va_Nw q U) ∧ NW U ∧ aoa .int U ∧ aoa .long U
theorem NB.same {u U : State} (h : u.vm = U.vm) (q : NB u) : NB U := ⟨fun x hx => va_Nw.same (by revert x; decide) h (q.1 x hx), ⟨va_Nw.same rfl h q.2.1.1, va_Nw.same rfl h q.2.1.2⟩, aoa_moved (by rw [h]; exact Vm.Alike.refl _) q.2.2.1, aoa_moved (by rw [h]; exact Vm.Alike.refl _) q.2.2.2⟩
theorem NB.warm {s U : State} (hW : s.WarmedH U.vm) (q : NB s) : NB U := ⟨fun x hx => by
  have h := q.1 x hx
  simp only [nbl, List.mem_cons, List.not_mem_nil, or_false] at hx
  rcases hx with rfl | rfl | rfl | rfl | rfl <;> exact va_Nw.warmM hW h, ⟨va_Nw.warmM hW q.2.1.1, va_Nw.warmM hW q.2.1.2⟩, aoa_moved hW.alike q.2.2.1, aoa_moved hW.alike q.2.2.2⟩
def Bd (X : Cx) (D : va_G) (g : Nat → ClassId) (A : Nat → Prop) (cc : ByteArray) (own : String) (n F Lo C S : Nat) : Prop :=
  match X with
  | (p, _, _, R, s, m, args, _, _, c, nL, _, _, _) => p.tables.exec = Jvm.exec ∧ c.code = cc ∧ nL = n ∧ c.maxLocals = n ∧ s.vm.findClass own = some m.cls ∧ (∀ w ∈ tblG, w.before args s = true) ∧ va_K D classes (tysG g) s ∧ (∀ q, s.heap.size ≤ q → A q) ∧ F ≤ R.frames ∧ Lo ≤ R.locals ∧ C ≤ R.cells ∧ S ≤ R.slots ∧ NB s
def BN (X : Cx) : Prop :=
  match X with
  | (_, _, _, _, _, _, _, _, meth, _, _, _, _, _) => meth.name = "<init>"
def BW (X : Cx) (D : va_G) (A : Nat → Prop) (ws : va_W) (ca sl : Nat) (pc : Nat) (st : List Value) (L : List (Option Value)) : Prop :=
  match X with
  | (p, l, e, R, s, m, args, below, meth, c, nL, _, _, Q) => ∀ (H : Heap) (locs : List Loc) (ls : Array Slot), va_P D classes ws H → va_D A ws → va_S A s.heap H locs → lv_has ls nL (lvl 0 L) → W p l e R s m args below meth c H locs ca sl Q (F0 m pc ls st)
section BROWS
variable {X : Cx} {D : va_G} {g : Nat → ClassId} {A : Nat → Prop} {ws : va_W} {ca sl pc n F Lo C S : Nat} {st : List Value} {L : List (Option Value)} {cc : ByteArray} {own : String}
theorem bw_aload_n {i : Fin 4} {x : Nat} (G : Bd X D g A cc own n F Lo C S) (hd : decode cc pc = .ok (.aload_n i, 1)) (hL : L[(i : Nat)]? = some (some (.ref x))) (k : BW X D A ws ca sl (pc + 1) (.ref x :: st) L) : BW X D A ws ca sl pc st L := by
  obtain ⟨p, l, e, R, s, m, args, below, meth, c, nL, kc, ks, Q⟩ := X
  obtain ⟨hx, hb, hnL, hml, hown, hts, hK, hA, hF, hLo, hC, hS0, hNB⟩ := G
  intro H locs ls hP hD hS hl
  refine lv_aload_n hx hb hd rfl (lvl_get hl hL) ?_
  exact k H locs ls hP hD hS hl
theorem bw_iload_n {i : Fin 4} {x : Int} (G : Bd X D g A cc own n F Lo C S) (hd : decode cc pc = .ok (.iload_n i, 1)) (hL : L[(i : Nat)]? = some (some (iv x))) (k : BW X D A ws ca sl (pc + 1) (iv x :: st) L) : BW X D A ws ca sl pc st L := by
  obtain ⟨p, l, e, R, s, m, args, below, meth, c, nL, kc, ks, Q⟩ := X
  obtain ⟨hx, hb, hnL, hml, hown, hts, hK, hA, hF, hLo, hC, hS0, hNB⟩ := G
  intro H locs ls hP hD hS hl
  refine lv_iload_n hx hb hd rfl (lvl_get hl hL) ?_
  exact k H locs ls hP hD hS hl
theorem bw_iconst {x : Int} (G : Bd X D g A cc own n F Lo C S) (hd : decode cc pc = .ok (.iconst x, 1)) (k : BW X D A ws ca sl (pc + 1) (iv x :: st) L) : BW X D A ws ca sl pc st L := by
  obtain ⟨p, l, e, R, s, m, args, below, meth, c, nL, kc, ks, Q⟩ := X
  obtain ⟨hx, hb, hnL, hml, hown, hts, hK, hA, hF, hLo, hC, hS0, hNB⟩ := G
  intro H locs ls hP hD hS hl
  refine lv_iconst hx hb hd rfl ?_
  exact k H locs ls hP hD hS hl
theorem bw_bipush {x : Int} (G : Bd X D g A cc own n F Lo C S) (hd : decode cc pc = .ok (.bipush x, 2)) (hx0 : -128 ≤ x ∧ x ≤ 127 := by decide) (k : BW X D A ws ca sl (pc + 2) (iv x :: st) L) : BW X D A ws ca sl pc st L := by
  obtain ⟨p, l, e, R, s, m, args, below, meth, c, nL, kc, ks, Q⟩ := X
  obtain ⟨hx, hb, hnL, hml, hown, hts, hK, hA, hF, hLo, hC, hS0, hNB⟩ := G
  intro H locs ls hP hD hS hl
  refine lv_bipush hx hb hd (Int8.toInt32_ofInt (by rw [Int8.toInt_minValue]; omega) (by rw [Int8.toInt_maxValue]; omega)) ?_
  exact k H locs ls hP hD hS hl
theorem bw_dup {a : Value} (G : Bd X D g A cc own n F Lo C S) (hd : decode cc pc = .ok (.dup, 1)) (ha : a.category = 1 := by rfl) (k : BW X D A ws ca sl (pc + 1) (a :: a :: st) L) : BW X D A ws ca sl pc (a :: st) L := by
  obtain ⟨p, l, e, R, s, m, args, below, meth, c, nL, kc, ks, Q⟩ := X
  obtain ⟨hx, hb, hnL, hml, hown, hts, hK, hA, hF, hLo, hC, hS0, hNB⟩ := G
  intro H locs ls hP hD hS hl
  refine lv_dup hx hb hd ha ?_
  exact k H locs ls hP hD hS hl
theorem bw_istore_1 {a0 a1 : Option Value} {t : List (Option Value)} {x : Int} (G : Bd X D g A cc own n F Lo C S) (hd : decode cc pc = .ok (.istore_n 1, 1)) (hc : lcat a0 = 1 := by rfl) (hi : 1 < n := by decide) (k : BW X D A ws ca sl (pc + 1) st (a0 :: some (iv x) :: t)) : BW X D A ws ca sl pc (iv x :: st) (a0 :: a1 :: t) := by
  obtain ⟨p, l, e, R, s, m, args, below, meth, c, nL, kc, ks, Q⟩ := X
  obtain ⟨hx, hb, hnL, hml, hown, hts, hK, hA, hF, hLo, hC, hS0, hNB⟩ := G
  intro H locs ls hP hD hS hl
  subst hnL
  refine lv_istore_n (lv := lvl 0 (a0 :: a1 :: t)) hx hb hd rfl hl (hi) rfl fun ls hl => ?_
  exact k H locs ls hP hD hS (lvl_set (L := a0 :: a1 :: t) hl (fun j hj => by rw [show j = 0 by omega]; exact hc))
theorem bw_iinc_1 {a0 a1 : Option Value} {t : List (Option Value)} {x d : Int} (G : Bd X D g A cc own n F Lo C S) (hd : decode cc pc = .ok (.iinc 1 d, 3)) (hx0 : a1 = some (iv x)) (hc : lcat a0 = 1 := by rfl) (hi : 1 < n := by decide) (k : BW X D A ws ca sl (pc + 3) st (a0 :: some (iv (x + d)) :: t)) : BW X D A ws ca sl pc st (a0 :: a1 :: t) := by
  obtain ⟨p, l, e, R, s, m, args, below, meth, c, nL, kc, ks, Q⟩ := X
  obtain ⟨hx, hb, hnL, hml, hown, hts, hK, hA, hF, hLo, hC, hS0, hNB⟩ := G
  intro H locs ls hP hD hS hl
  subst hnL hx0
  obtain ⟨k0, hk0⟩ := List.getElem?_of_mem (lvl_mem (a0 :: some (iv x) :: t) 0 1 (iv x) rfl)
  refine lv_iinc (k := k0) (v := Int32.ofInt (x + d)) hx hb hd hl hk0 (by rw [Int32.ofInt_add]) hi rfl fun ls hl => ?_
  exact k H locs ls hP hD hS (lvl_set (L := a0 :: some (iv x) :: t) hl (fun j hj => by rw [show j = 0 by omega]; exact hc))
theorem bw_astore_1 {a0 a1 : Option Value} {t : List (Option Value)} {x : Nat} (G : Bd X D g A cc own n F Lo C S) (hd : decode cc pc = .ok (.astore_n 1, 1)) (hc : lcat a0 = 1 := by rfl) (hi : 1 < n := by decide) (k : BW X D A ws ca sl (pc + 1) st (a0 :: some (.ref x) :: t)) : BW X D A ws ca sl pc (.ref x :: st) (a0 :: a1 :: t) := by
  obtain ⟨p, l, e, R, s, m, args, below, meth, c, nL, kc, ks, Q⟩ := X
  obtain ⟨hx, hb, hnL, hml, hown, hts, hK, hA, hF, hLo, hC, hS0, hNB⟩ := G
  intro H locs ls hP hD hS hl
  subst hnL
  refine lv_astore_n (lv := lvl 0 (a0 :: a1 :: t)) hx hb hd rfl hl (hi) rfl fun ls hl => ?_
  exact k H locs ls hP hD hS (lvl_set (L := a0 :: a1 :: t) hl (fun j hj => by rw [show j = 0 by omega]; exact hc))
theorem bw_astore_2 {a0 a1 a2 : Option Value} {t : List (Option Value)} {x : Nat} (G : Bd X D g A cc own n F Lo C S) (hd : decode cc pc = .ok (.astore_n 2, 1)) (hc : lcat a1 = 1 := by rfl) (hi : 2 < n := by decide) (k : BW X D A ws ca sl (pc + 1) st (a0 :: a1 :: some (.ref x) :: t)) : BW X D A ws ca sl pc (.ref x :: st) (a0 :: a1 :: a2 :: t) := by
  obtain ⟨p, l, e, R, s, m, args, below, meth, c, nL, kc, ks, Q⟩ := X
  obtain ⟨hx, hb, hnL, hml, hown, hts, hK, hA, hF, hLo, hC, hS0, hNB⟩ := G
  intro H locs ls hP hD hS hl
  subst hnL
  refine lv_astore_n (lv := lvl 0 (a0 :: a1 :: a2 :: t)) hx hb hd rfl hl (hi) rfl fun ls hl => ?_
  exact k H locs ls hP hD hS (lvl_set (L := a0 :: a1 :: a2 :: t) hl (fun j hj => by rw [show j = 1 by omega]; exact hc))
theorem bw_icmp_ge {x y off : Int} {tgt : Nat} (G : Bd X D g A cc own n F Lo C S) (hd : decode cc pc = .ok (.if_icmp .ge off, 3)) (ht : (pc : Int) + off = (tgt : Int)) (hx0 : inR x) (hy0 : inR y) (kt : y ≤ x → BW X D A ws ca sl tgt st L) (kf : ¬ y ≤ x → BW X D A ws ca sl (pc + 3) st L) : BW X D A ws ca sl pc (iv y :: iv x :: st) L := by
  obtain ⟨p, l, e, R, s, m, args, below, meth, c, nL, kc, ks, Q⟩ := X
  obtain ⟨hx, hb, hnL, hml, hown, hts, hK, hA, hF, hLo, hC, hS0, hNB⟩ := G
  intro H locs ls hP hD hS hl
  exact lv_icmp_ge hx hb hd ht (fun q0 => kt ((n_le hy0 hx0).mp q0) H locs ls hP hD hS hl) (fun q0 => kf (fun q => q0 ((n_le hy0 hx0).mpr q)) H locs ls hP hD hS hl)
theorem bw_goto {off : Int} {tgt : Nat} (G : Bd X D g A cc own n F Lo C S) (hd : decode cc pc = .ok (.goto off, 3)) (ht : (pc : Int) + off = (tgt : Int)) (k : BW X D A ws ca sl tgt st L) : BW X D A ws ca sl pc st L := by
  obtain ⟨p, l, e, R, s, m, args, below, meth, c, nL, kc, ks, Q⟩ := X
  obtain ⟨hx, hb, hnL, hml, hown, hts, hK, hA, hF, hLo, hC, hS0, hNB⟩ := G
  intro H locs ls hP hD hS hl
  exact lv_goto hx hb hd ht (k H locs ls hP hD hS hl)
theorem bw_objinit {x index : Nat} (G : Bd X D g A cc own n F Lo C S) (hd : decode cc pc = .ok (.invokespecial index, 3)) (hw : Cond.methodLink own index Lib.objectInit ∈ tblG) (hw2 : Cond.instanceMethod Lib.objectInit ∈ tblG) (hw3 : Cond.code Lib.objectInit ⟨#[0xb1]⟩ 1 none ∈ tblG) (hroom : 1 ≤ F ∧ 20 ≤ Lo) (hcat : (st.map fun v => v.category).sum ≤ 8) (k : BW X D A ws ca sl (pc + 3) st L) : BW X D A ws ca sl pc (.ref x :: st) L := by
  obtain ⟨p, l, e, R, s, m, args, below, meth, c, nL, kc, ks, Q⟩ := X
  obtain ⟨hx, hb, hnL, hml, hown, hts, hK, hA, hF, hLo, hC, hS0, hNB⟩ := G
  intro H locs ls hP hD hS hl
  refine W.objInit hx hb hown (hts _ hw) (hts _ hw2) (hts _ hw3) rfl (by rw [hml, ← hnL]; exact hl.1) rfl hd (Nat.le_trans hroom.1 hF) ?_ ?_
  · show 2 * 0 + (st.map fun v => v.category).sum + 12 ≤ R.locals
    omega
  · exact k H locs ls hP hD hS hl
theorem bw_put {Cn : String} {T : u_T} {N ci index j a : Nat} {fs : List Value} {v : Value} {ty : FieldType} {rs : va_W} (ty0 : Nat → FieldType) (G : Bd X D g A cc own n F Lo C S) (hd : decode cc pc = .ok (.putfield index, 3)) (hin : ∀ w ∈ u_ws Cn T N, w ∈ tblG) (hty : ∀ k, k < N → parseFieldDescriptor (T k).2.2.1 = some (ty0 k)) (hnm : ∀ a, a < N → ∀ b, b < N → a ≠ b → (T a).2.1 ≠ (T b).2.1) (hlink : Cond.fieldLink own index Cn (T j).2.1 (T j).2.2.1 ∈ tblG) (hc : classes[ci]? = some (Cn, T, N)) (hj : j < N) (hown2 : (T j).1 = Cn) (hfin : (T j).2.2.2 = false) (hd2 : parseFieldDescriptor (T j).2.2.1 = some ty) (hn : narrow ty v = v) (hfit : fits ty v = true) (hl0 : j < fs.length) (k : BW X D A ((a, .inr (ci, fs.set j v)) :: rs) ca sl (pc + 3) st L) : BW X D A ((a, .inr (ci, fs)) :: rs) ca sl pc (v :: .ref a :: st) L := by
  obtain ⟨p, l, e, R, s, m, args, below, meth, c, nL, kc, ks, Q⟩ := X
  obtain ⟨hx, hb, hnL, hml, hown, hts, hK, hA, hF, hLo, hC, hS0, hNB⟩ := G
  intro H locs ls hP hD hS hl
  refine va_put (C := Cn) (T := T) (N := N) (ci := ci) (ty := ty) hx hb hts hin ty0 hty hnm hown hK hP hD hS 0 rfl hc j hj (hts _ hlink) (fun x hx => by rw [hown2] at hx; exact hx) hfin hd2 hn hfit hl0 hd (fun H1 locs1 hP1 hD1 hS1 => ?_)
  exact k H1 locs1 ls hP1 hD1 hS1 hl
theorem bw_putF {T : u_T} {N ci index j a : Nat} {fs : List Value} {v : Value} {ty : FieldType} {rs : va_W} (ty0 : Nat → FieldType) (G : Bd X D g A cc own n F Lo C S) (hB : BN X) (hd : decode cc pc = .ok (.putfield index, 3)) (hin : ∀ w ∈ u_ws own T N, w ∈ tblG) (hty : ∀ k, k < N → parseFieldDescriptor (T k).2.2.1 = some (ty0 k)) (hnm : ∀ a, a < N → ∀ b, b < N → a ≠ b → (T a).2.1 ≠ (T b).2.1) (hlink : Cond.fieldLink own index own (T j).2.1 (T j).2.2.1 ∈ tblG) (hc : classes[ci]? = some (own, T, N)) (hj : j < N) (hown2 : (T j).1 = own) (hfin : (T j).2.2.2 = true) (hd2 : parseFieldDescriptor (T j).2.2.1 = some ty) (hn : narrow ty v = v) (hfit : fits ty v = true) (hl0 : j < fs.length) (k : BW X D A ((a, .inr (ci, fs.set j v)) :: rs) ca sl (pc + 3) st L) : BW X D A ((a, .inr (ci, fs)) :: rs) ca sl pc (v :: .ref a :: st) L := by
  obtain ⟨p, l, e, R, s, m, args, below, meth, c, nL, kc, ks, Q⟩ := X
  obtain ⟨hx, hb, hnL, hml, hown, hts, hK, hA, hF, hLo, hC, hS0, hNB⟩ := G
  intro H locs ls hP hD hS hl
  refine va_putF (C := own) (T := T) (N := N) (ci := ci) (ty := ty) hx hb hts hin ty0 hty hnm hown hK hP hD hS 0 rfl hc j hj (hts _ hlink) (fun x hx => by rw [hown2] at hx; exact hx) hfin hB hown2 hd2 hn hfit hl0 hd (fun H1 locs1 hP1 hD1 hS1 => ?_)
  exact k H1 locs1 ls hP1 hD1 hS1 hl
theorem bw_get {Cn : String} {T : u_T} {N ci index j a : Nat} {fs : List Value} {v : Value} {rs : va_W} (G : Bd X D g A cc own n F Lo C S) (hd : decode cc pc = .ok (.getfield index, 3)) (hin : ∀ w ∈ u_ws Cn T N, w ∈ tblG) (hlink : Cond.fieldLink own index Cn (T j).2.1 (T j).2.2.1 ∈ tblG) (hc : classes[ci]? = some (Cn, T, N)) (hj : j < N) (hown2 : (T j).1 = Cn) (hv : fs[j]? = some v) (k : BW X D A ((a, .inr (ci, fs)) :: rs) ca sl (pc + 3) (v :: st) L) : BW X D A ((a, .inr (ci, fs)) :: rs) ca sl pc (.ref a :: st) L := by
  obtain ⟨p, l, e, R, s, m, args, below, meth, c, nL, kc, ks, Q⟩ := X
  obtain ⟨hx, hb, hnL, hml, hown, hts, hK, hA, hF, hLo, hC, hS0, hNB⟩ := G
  intro H locs ls hP hD hS hl
  exact va_get (C := Cn) (T := T) (N := N) (ci := ci) hx hb hts hin hown hK hP 0 rfl hc j hj (hts _ hlink) (fun x hx => by rw [hown2] at hx; exact hx) hv hd (k H locs ls hP hD hS hl)
theorem tk_i {tys : List (ClassId × FieldType)} {cA : ClassId} {ty : FieldType} {U : State} (hK2 : va_K D classes (tys ++ [(cA, ty)]) U) : va_RA U cA ty := (hK2.2 tys.length (cA, ty) (by simp)).2
theorem bw_newI {x : Int} {N : Nat} (G : Bd X D g A cc own n F Lo C S) (hd : decode cc pc = .ok (.newarray .int, 2)) (hw : Cond.arrayClass .int ∈ tblG) (hn : ¬ Int32.ofInt x < 0) (hN : (Int32.ofInt x).toNatClampNeg = N) (hbt : N * 4 ≤ 536870912) (hc : ca + 1 ≤ C) (hs : sl + N ≤ S) (k : ∀ q, BW X D A (ws ++ [(q, .inl (g 0, N, .inl (fun _ => 0)))]) (ca + 1) (sl + N) (pc + 2) (.ref q :: st) L) : BW X D A ws ca sl pc (iv x :: st) L := by
  obtain ⟨p, l, e, R, s, m, args, below, meth, c, nL, kc, ks, Q⟩ := X
  obtain ⟨hx, hb, hnL, hml, hown, hts, hK, hA, hF, hLo, hC, hS0, hNB⟩ := G
  intro H locs ls hP hD hS hl
  refine va_newa (atype := .int) (a0 := (N, .inl (fun _ => 0))) hx hb (hts _ hw) rfl hK hP hD hS hA (fun cA => rfl) hn hN hbt (Nat.le_trans hc hC) (Nat.le_trans hs hS0) hd (fun q cA H1 hK2 hP1 hD1 hS1 => ?_)
  have e1 : s.vm.findClass ("[" ++ FieldType.int.toString) = some cA := tk_i hK2
  have e0 : s.vm.findClass ("[" ++ FieldType.int.toString) = some (g 0) := (hK.2 0 (g 0, .int) rfl).2
  have e : cA = g 0 := Option.some.inj (e1.symm.trans e0)
  subst e
  exact k q H1 locs ls hP1 hD1 hS1 hl
theorem bw_newJ {x : Int} {N : Nat} (G : Bd X D g A cc own n F Lo C S) (hd : decode cc pc = .ok (.newarray .long, 2)) (hw : Cond.arrayClass .long ∈ tblG) (hn : ¬ Int32.ofInt x < 0) (hN : (Int32.ofInt x).toNatClampNeg = N) (hbt : N * 8 ≤ 536870912) (hc : ca + 1 ≤ C) (hs : sl + N ≤ S) (k : ∀ q, BW X D A (ws ++ [(q, .inl (g 1, N, .inr (.inl (fun _ => 0))))]) (ca + 1) (sl + N) (pc + 2) (.ref q :: st) L) : BW X D A ws ca sl pc (iv x :: st) L := by
  obtain ⟨p, l, e, R, s, m, args, below, meth, c, nL, kc, ks, Q⟩ := X
  obtain ⟨hx, hb, hnL, hml, hown, hts, hK, hA, hF, hLo, hC, hS0, hNB⟩ := G
  intro H locs ls hP hD hS hl
  refine va_newa (atype := .long) (a0 := (N, .inr (.inl (fun _ => 0)))) hx hb (hts _ hw) rfl hK hP hD hS hA (fun cA => rfl) hn hN hbt (Nat.le_trans hc hC) (Nat.le_trans hs hS0) hd (fun q cA H1 hK2 hP1 hD1 hS1 => ?_)
  have e1 : s.vm.findClass ("[" ++ FieldType.long.toString) = some cA := tk_i hK2
  have e0 : s.vm.findClass ("[" ++ FieldType.long.toString) = some (g 1) := (hK.2 1 (g 1, .long) rfl).2
  have e : cA = g 1 := Option.some.inj (e1.symm.trans e0)
  subst e
  exact k q H1 locs ls hP1 hD1 hS1 hl
theorem bw_new {Cn : String} {T : u_T} {N ci index : Nat} {fs : List Value} (ty0 : Nat → FieldType) (G : Bd X D g A cc own n F Lo C S) (hd : decode cc pc = .ok (.new index, 3)) (hin : ∀ w ∈ u_ws Cn T N, w ∈ tblG) (hty : ∀ k, k < N → parseFieldDescriptor (T k).2.2.1 = some (ty0 k)) (hw1 : Cond.classLink own index Cn ∈ tblG) (hw2 : Cond.instantiable Cn N ∈ tblG) (hw3 : Cond.initialized Cn ∈ tblG) (hcl : classes[ci]? = some (Cn, T, N)) (hfs : ∀ j, j < N → defaultValue (ty0 j) = vp_V fs j) (hc : ca + 1 ≤ C) (hs : sl + N ≤ S) (k : ∀ q, BW X D A (ws ++ [(q, .inr (ci, fs))]) (ca + 1) (sl + N) (pc + 3) (.ref q :: st) L) : BW X D A ws ca sl pc st L := by
  obtain ⟨p, l, e, R, s, m, args, below, meth, c, nL, kc, ks, Q⟩ := X
  obtain ⟨hx, hb, hnL, hml, hown, hts, hK, hA, hF, hLo, hC, hS0, hNB⟩ := G
  intro H locs ls hP hD hS hl
  refine va_new (ci := ci) (fs := fs) (C := Cn) (T := T) (N := N) hx hb hts hin ty0 hty hown (hts _ hw1) (hts _ hw2) (hts _ hw3) hK hP hD hS hA hcl hfs (Nat.le_trans hc hC) (Nat.le_trans hs hS0) hd (fun q H1 hP1 hD1 hS1 => ?_)
  exact k q H1 locs ls hP1 hD1 hS1 hl
def ioI (V0 : Nat → ClassId) (N K : Nat) (q : Nat) (r : Nat → Nat) : va_W := (q, .inl (V0 2, N, .inr (.inr (.inr (.inr (fun i => if i < N then some (r i) else none)))))) :: (List.range N).map (fun i => (r i, .inl (V0 0, K, .inl (fun _ => 0))))
def ioJ (V0 : Nat → ClassId) (N K : Nat) (q : Nat) (r : Nat → Nat) : va_W := (q, .inl (V0 3, N, .inr (.inr (.inr (.inr (fun i => if i < N then some (r i) else none)))))) :: (List.range N).map (fun i => (r i, .inl (V0 1, K, .inr (.inl (fun _ => 0)))))
theorem bw_mnaI {x y : Int} {N K index : Nat} (G : Bd X D g A cc own n F Lo C S) (hd : decode cc pc = .ok (.multianewarray index 2, 4)) (hw1 : Cond.classLink own index "[[I" ∈ tblG) (hw : Cond.arrayClass .int ∈ tblG) (hn : ¬ Int32.ofInt x < 0) (hk : ¬ Int32.ofInt y < 0) (hN : (Int32.ofInt x).toNatClampNeg = N) (hK0 : (Int32.ofInt y).toNatClampNeg = K) (hb1 : N * 4 ≤ 536870912) (hb2 : K * 4 ≤ 536870912) (hc : ca + (1 + N) ≤ C) (hs : sl + (N + N * K) ≤ S) (k : ∀ q r, BW X D A (ws ++ ioI g N K q r) (ca + 1 + N) (sl + N + N * K) (pc + 4) (.ref q :: st) L) : BW X D A ws ca sl pc (iv y :: iv x :: st) L := by
  obtain ⟨p, l, e, R, s, m, args, below, meth, c, nL, kc, ks, Q⟩ := X
  obtain ⟨hx, hb, hnL, hml, hown, hts, hK, hA, hF, hLo, hC, hS0, hNB⟩ := G
  intro H locs ls hP hD hS hl
  have e0 : s.vm.findClass (FieldType.array .int).toString = some (g 0) := (hK.2 0 (g 0, .int) rfl).2
  refine mna_row (ty := .int) (z := (K, .inl (fun _ => 0))) hx hb hown (hts _ hw1) hNB.2.2.1 (hts _ hw) e0 hK hP hD hS hA hn hk hN hK0 hb1 hb2 (by omega) rfl rfl (Nat.le_trans hc hC) (Nat.le_trans hs hS0) (fun c => ?_) hd (fun q r cA H1 hK2 hP1 hD1 hS1 => ?_)
  · rw [vp_cell_i, ← arrV_new]
    rfl
  · have e1 : s.vm.findClass ("[" ++ (FieldType.array .int).toString) = some cA := tk_i hK2
    have e2 : s.vm.findClass ("[" ++ (FieldType.array .int).toString) = some (g 2) := (hK.2 2 (g 2, .array .int) rfl).2
    have e : cA = g 2 := Option.some.inj (e1.symm.trans e2)
    subst e
    exact k q r H1 locs ls hP1 hD1 hS1 hl
theorem bw_mnaJ {x y : Int} {N K index : Nat} (G : Bd X D g A cc own n F Lo C S) (hd : decode cc pc = .ok (.multianewarray index 2, 4)) (hw1 : Cond.classLink own index "[[J" ∈ tblG) (hw : Cond.arrayClass .long ∈ tblG) (hn : ¬ Int32.ofInt x < 0) (hk : ¬ Int32.ofInt y < 0) (hN : (Int32.ofInt x).toNatClampNeg = N) (hK0 : (Int32.ofInt y).toNatClampNeg = K) (hb1 : N * 4 ≤ 536870912) (hb2 : K * 8 ≤ 536870912) (hc : ca + (1 + N) ≤ C) (hs : sl + (N + N * K) ≤ S) (k : ∀ q r, BW X D A (ws ++ ioJ g N K q r) (ca + 1 + N) (sl + N + N * K) (pc + 4) (.ref q :: st) L) : BW X D A ws ca sl pc (iv y :: iv x :: st) L := by
  obtain ⟨p, l, e, R, s, m, args, below, meth, c, nL, kc, ks, Q⟩ := X
  obtain ⟨hx, hb, hnL, hml, hown, hts, hK, hA, hF, hLo, hC, hS0, hNB⟩ := G
  intro H locs ls hP hD hS hl
  have e0 : s.vm.findClass (FieldType.array .long).toString = some (g 1) := (hK.2 1 (g 1, .long) rfl).2
  refine mna_row (ty := .long) (z := (K, .inr (.inl (fun _ => 0)))) hx hb hown (hts _ hw1) hNB.2.2.2 (hts _ hw) e0 hK hP hD hS hA hn hk hN hK0 hb1 hb2 (by omega) rfl rfl (Nat.le_trans hc hC) (Nat.le_trans hs hS0) (fun c => ?_) hd (fun q r cA H1 hK2 hP1 hD1 hS1 => ?_)
  · rw [vp_cell_l, ← arrV_new]
    rfl
  · have e1 : s.vm.findClass ("[" ++ (FieldType.array .long).toString) = some cA := tk_i hK2
    have e2 : s.vm.findClass ("[" ++ (FieldType.array .long).toString) = some (g 3) := (hK.2 3 (g 3, .array .long) rfl).2
    have e : cA = g 3 := Option.some.inj (e1.symm.trans e2)
    subst e
    exact k q r H1 locs ls hP1 hD1 hS1 hl
theorem set_l {α : Type} (a : List α) (x y : α) : (a ++ [x]).set a.length y = a ++ [y] := by
  induction a with
  | nil => rfl
  | cons z a ih => show z :: ((a ++ [x]).set a.length y) = _; rw [ih]; rfl
theorem bw_iastL {i x : Int} {q N : Nat} {f : Nat → Int32} (G : Bd X D g A cc own n F Lo C S) (hd : decode cc pc = .ok (.iastore, 1)) (hN : N < 2147483648) (hi : 0 ≤ i ∧ i < N) (k : BW X D A (ws ++ [(q, .inl (g 0, N, .inl (upd f i.toNat (Int32.ofInt x))))]) ca sl (pc + 1) st L) : BW X D A (ws ++ [(q, .inl (g 0, N, .inl f))]) ca sl pc (iv x :: iv i :: .ref q :: st) L := by
  obtain ⟨p, l, e, R, s, m, args, below, meth, c, nL, kc, ks, Q⟩ := X
  obtain ⟨hx, hb, hnL, hml, hown, hts, hK, hA, hF, hLo, hC, hS0, hNB⟩ := G
  intro H locs ls hP hD hS hl
  refine va_iast hx hb hK hP hD hS ws.length 0 (List.getElem?_concat_length ..) rfl (n_in hi hN) hd (fun H1 locs1 hP1 hD1 hS1 => ?_)
  rw [set_l, n_clamp ⟨by omega, by omega⟩] at hP1 hD1
  exact k H1 locs1 ls hP1 hD1 hS1 hl
/-! a constructor's contract -/
def CtI (D : va_G) (g : Nat → ClassId) (y : MethodName) (bytes : ByteArray) (maxL f2 lo2 mc ms : Nat) (av : List Value) (o : va_E) {T0 : Type} (post : Nat → T0 → va_W) : Prop :=
  ∀ (l : Launch) (h0 sz : Nat), Met l y (.code y bytes maxL none :: tblG) ({ frames := f2, cells := mc, slots := ms, locals := lo2 }) (va_Pc (.ref h0 :: av) (fun U => U.heap.size = sz ∧ va_P D classes [(h0, o)] U.heap ∧ va_K D classes (tysG g) U ∧ va_D (fun _ => True) [(h0, o)] ∧ NB U)) (va_Qv (fun _ : T0 => True) (fun u t => va_P D classes (post h0 u) t.heap ∧ va_D (va_A [(h0, o)] sz) (post h0 u)) (va_A [(h0, o)] sz)) mc ms (va_A [(h0, o)] sz)
theorem P_l {a b : va_W} {H : Heap} (h : va_P D classes (a ++ b) H) : va_P D classes a H := fun k q hk => h k q (by rw [List.getElem?_append_left (List.getElem?_eq_some_iff.mp hk).1]; exact hk)
theorem P_r {a b : va_W} {H : Heap} (h : va_P D classes (a ++ b) H) : va_P D classes b H := fun k q hk => h (a.length + k) q (by rw [List.getElem?_append_right (by omega), show a.length + k - a.length = k by omega]; exact hk)
theorem D_l {a b : va_W} {B : Nat → Prop} (h : va_D B (a ++ b)) : va_D B a := h.by (fun k => k) (fun k q hk => by rw [List.getElem?_append_left (List.getElem?_eq_some_iff.mp hk).1]; exact hk) (fun i j _ _ e => e)
theorem D_r {a b : va_W} {B : Nat → Prop} (h : va_D B (a ++ b)) : va_D B b := h.by (fun k => a.length + k) (fun k q hk => by rw [List.getElem?_append_right (by omega), show a.length + k - a.length = k by omega]; exact hk) (fun i j _ _ e => by omega)
theorem D_x {a b : va_W} {B : Nat → Prop} (h : va_D B (a ++ b)) {i j : Nat} {p q : Nat × va_E} (hi : a[i]? = some p) (hj : b[j]? = some q) : p.1 ≠ q.1 := fun e => by
  have hl := (List.getElem?_eq_some_iff.mp hi).1
  have h1 : (a ++ b)[i]? = some p := by rw [List.getElem?_append_left hl]; exact hi
  have h2 : (a ++ b)[a.length + j]? = some q := by rw [List.getElem?_append_right (by omega), show a.length + j - a.length = j by omega]; exact hj
  have := h.1 i (a.length + j) p q h1 h2 e
  omega
theorem jn {a wc w1 : va_W} {B : Nat → Prop} {H H1 : Heap} (hP : va_P D classes (a ++ wc) H) (hD : va_D B (a ++ wc)) (hk : ∀ q : Nat, q < H.size → ¬ va_A wc H.size q → H1[q]? = H[q]?) (hF : ∀ q, va_A wc H.size q → B q) (hP1 : va_P D classes w1 H1) (hD1 : va_D (va_A wc H.size) w1) : va_P D classes (a ++ w1) H1 ∧ va_D B (a ++ w1) := by
  have apart : ∀ (k : Nat) (q : Nat × va_E), a[k]? = some q → q.1 < H.size ∧ ¬ va_A wc H.size q.1 := fun k q hq => by
    have hl := (P_l hP k q hq).lt
    refine ⟨hl, ?_⟩
    rintro (⟨j, e, hj⟩ | h)
    · exact D_x hD hq hj rfl
    · omega
  refine ⟨((P_l hP).kept fun k q hq => hk q.1 (apart k q hq).1 (apart k q hq).2).app hP1, (D_l hD).app (hD1.weaken fun _ q _ h => hF _ h) fun i j p q hi hj e => ?_⟩
  have h1 := (apart i p hi).2
  rw [e] at h1
  exact h1 (hD1.2 j q hj)
theorem fB {a wc : va_W} {B : Nat → Prop} {H0 H : Heap} {locs : List Loc} (hD : va_D B (a ++ wc)) (hS : va_S B H0 H locs) (hA : ∀ q, H0.size ≤ q → B q) : ∀ q, va_A wc H.size q → B q := by
  rintro q (⟨k, e, h⟩ | h)
  · exact (D_r hD).2 k _ h
  · exact hA q (Nat.le_trans hS.1 h)
theorem cti_blind {o : va_E} {h0 sz : Nat} {av : List Value} : FrameBlind (va_Pc (.ref h0 :: av) (fun U => U.heap.size = sz ∧ va_P D classes [(h0, o)] U.heap ∧ va_K D classes (tysG g) U ∧ va_D (fun _ => True) [(h0, o)] ∧ NB U)) := by
  intro a U fr0 mk q
  obtain ⟨q0, q1, qP, qK, qD, qN⟩ := q
  exact ⟨q0, q1, qP, va_K.moved (u := U) (U := U.calling fr0 mk a) (Vm.Alike.refl U.vm) qK, qD, NB.same (u := U) (U := U.calling fr0 mk a) rfl qN⟩
theorem bw_ctor {index maxL f2 lo2 mc ms q : Nat} {y : MethodName} {bytes : ByteArray} {av stk : List Value} {o : va_E} {T0 : Type} {post : Nat → T0 → va_W} (G : Bd X D g A cc own n F Lo C S) (hd : decode cc pc = .ok (.invokespecial index, 3)) (w1 : Cond.methodLink own index y ∈ tblG) (w2 : Cond.instanceMethod y ∈ tblG) (w4 : Cond.initialized y.cls ∈ tblG) (w5 : Cond.code y bytes maxL none ∈ tblG) (hC0 : CtI D g y bytes maxL f2 lo2 mc ms av o post) (hy : y.name = "<init>" ∧ plainY y av.length) (hst : stk = av.reverse ++ .ref q :: st) (hroom : f2 + 1 ≤ F ∧ 8 + (maxL + 11) + lo2 ≤ Lo) (hcat : (st.map fun v => v.category).sum ≤ 8) (hc : ca + mc ≤ C) (hs : sl + ms ≤ S) (k : ∀ u, BW X D A (ws ++ post q u) (ca + mc) (sl + ms) (pc + 3) st L) : BW X D A (ws ++ [(q, o)]) ca sl pc stk L := by
  obtain ⟨p, l, e, R, s, m, args, below, meth, c, nL, kc, ks, Q⟩ := X
  obtain ⟨hx, hb, hnL, hml, hown, hts, hK, hA, hF, hLo, hC, hS0, hNB⟩ := G
  intro H locs ls hP hD hS hl
  subst hst
  have hF2 := fB hD hS hA
  refine va_callv (va_runI (As := av) (rest := st) (nL := n) (Ts := tblG) (cc := cc) (own := own) (ws := .code y bytes maxL none :: tblG) (n := av.length) ⟨hx, hb, hml, hown, hts⟩ (hC0 l q H.size) (cwI (ws' := tblG) av.length hts (tblG_GI (fun w hw => ?_)) rfl rfl rfl (hts _ w4) (hts _ w1) (hts _ w2) hy.1 hy.2 ⟨Nat.le_trans hroom.1 hF, Nat.le_trans hroom.2 hLo⟩) ⟨cti_blind, fun U hU hW => ⟨rfl, by rw [hU], by rw [hU]; exact P_r hP, va_K.moved hW.alike hK, (D_r hD).weaken (fun _ _ _ _ => trivial), hNB.warm hW⟩⟩ rfl rfl (by rw [← hnL]; exact hl.1) rfl (lv_room hcat) hd ⟨Nat.le_trans hc hC, Nat.le_trans hs hS0⟩) hS (fun q _ h => hF2 q h) hF2 (fun u t H1 locs1 ht hvm hw hB hz1 hk1 hS1 => ?_)
  · rcases List.mem_cons.mp hw with h | h
    · subst h; exact w5
    · exact h
  · rw [ht] at hB
    obtain ⟨hP2, hD2⟩ := jn hP hD hk1 hF2 hB.1 hB.2
    exact k u H1 locs1 ls hP2 hD2 hS1 hl
theorem bw_ctorN {index maxL f2 lo2 mc ms q : Nat} {host : String} {y : MethodName} {bytes : ByteArray} {av stk : List Value} {o : va_E} {T0 : Type} {post : Nat → T0 → va_W} (G : Bd X D g A cc own n F Lo C S) (hd : decode cc pc = .ok (.invokespecial index, 3)) (w1 : Cond.methodLinkNest own index y host ∈ nbl) (w2 : Cond.instanceMethod y ∈ tblG) (w4 : Cond.initialized y.cls ∈ tblG) (w5 : Cond.code y bytes maxL none ∈ tblG) (hC0 : CtI D g y bytes maxL f2 lo2 mc ms av o post) (hy : y.name = "<init>" ∧ plainY y av.length) (hst : stk = av.reverse ++ .ref q :: st) (hroom : f2 + 1 ≤ F ∧ 8 + (maxL + 11) + lo2 ≤ Lo) (hcat : (st.map fun v => v.category).sum ≤ 8) (hc : ca + mc ≤ C) (hs : sl + ms ≤ S) (k : ∀ u, BW X D A (ws ++ post q u) (ca + mc) (sl + ms) (pc + 3) st L) : BW X D A (ws ++ [(q, o)]) ca sl pc stk L := by
  obtain ⟨p, l, e, R, s, m, args, below, meth, c, nL, kc, ks, Q⟩ := X
  obtain ⟨hx, hb, hnL, hml, hown, hts, hK, hA, hF, hLo, hC, hS0, hNB⟩ := G
  intro H locs ls hP hD hS hl
  subst hst
  have hF2 := fB hD hS hA
  refine va_callv (va_runIN (As := av) (rest := st) (nL := n) (Ts := tblG) (cc := cc) (own := own) (host := host) (ws := .code y bytes maxL none :: tblG) (n := av.length) ⟨hx, hb, hml, hown, hts⟩ (hC0 l q H.size) ⟨va_cnB (ws' := tblG) av.length hts (tblG_GI (fun w hw => ?_)) rfl rfl rfl (hNB.1 _ w1) (hts _ w4) hy.2 ⟨Nat.le_trans hroom.1 hF, Nat.le_trans hroom.2 hLo⟩, hy.1, hts _ w2⟩ ⟨cti_blind, fun U hU hW => ⟨rfl, by rw [hU], by rw [hU]; exact P_r hP, va_K.moved hW.alike hK, (D_r hD).weaken (fun _ _ _ _ => trivial), hNB.warm hW⟩⟩ rfl rfl (by rw [← hnL]; exact hl.1) rfl (lv_room hcat) hd ⟨Nat.le_trans hc hC, Nat.le_trans hs hS0⟩) hS (fun q _ h => hF2 q h) hF2 (fun u t H1 locs1 ht hvm hw hB hz1 hk1 hS1 => ?_)
  · rcases List.mem_cons.mp hw with h | h
    · subst h; exact w5
    · exact h
  · rw [ht] at hB
    obtain ⟨hP2, hD2⟩ := jn hP hD hk1 hF2 hB.1 hB.2
    exact k u H1 locs1 ls hP2 hD2 hS1 hl
/-- its end and its start -/
def BRt (X : Cx) (D : va_G) (mc ms : Nat) (o : va_E) (h0 : Nat) {T0 : Type} (post : Nat → T0 → va_W) : Prop :=
  match X with
  | (_, _, _, _, s, _, args, below, meth, _, _, _, _, Q) => meth.sig.returnType = none ∧ meth.locks = false ∧ Q = MQ below (va_Qv (fun _ : T0 => True) (fun u t => va_P D classes (post h0 u) t.heap ∧ va_D (va_A [(h0, o)] s.heap.size) (post h0 u)) (va_A [(h0, o)] s.heap.size)) args s mc ms (va_A [(h0, o)] s.heap.size)
def BA (X : Cx) (o : va_E) (h0 : Nat) (A : Nat → Prop) : Prop :=
  match X with
  | (_, _, _, _, s, _, _, _, _, _, _, _, _, _) => A = va_A [(h0, o)] s.heap.size
theorem bw_vret {o : va_E} {h0 : Nat} {T0 : Type} {post : Nat → T0 → va_W} (u : T0) (G : Bd X D g A cc own n F Lo C S) (T : BRt X D ca sl o h0 post) (hAA : BA X o h0 A) (hd : decode cc pc = .ok (.return_, 1)) (hw : ws = post h0 u) : BW X D A ws ca sl pc [] L := by
  obtain ⟨p, l, e, R, s, m, args, below, meth, c, nL, kc, ks, Q⟩ := X
  obtain ⟨hx, hb, hnL, hml, hown, hts, hK, hA, hF, hLo, hC, hS0, hNB⟩ := G
  intro H locs ls hP hD hS hl
  obtain ⟨hr, hlocks, rfl⟩ := T
  have hAA : A = va_A [(h0, o)] s.heap.size := hAA
  subst hAA hw
  exact W.vret hx hb hr (fun t ht hW => ⟨⟨u, rfl, trivial, by rw [ht]; exact hP, hD⟩, hS.F ht⟩) hS.2.2 hd
theorem cti_of {y : MethodName} {bytes : ByteArray} {maxL f2 lo2 mc ms : Nat} {av : List Value} {o : va_E} {T0 : Type} {post : Nat → T0 → va_W} (hy : plainName y.cls = true) (hn : y.name = "<init>") (hlen : ∀ h0, (lg_sl (.ref h0 :: av)).length ≤ maxL) (body : ∀ (X : Cx) (A : Nat → Prop) (h0 : Nat), Bd X D g A bytes y.cls maxL f2 lo2 mc ms → BN X → BRt X D mc ms o h0 post → BA X o h0 A → BW X D A [(h0, o)] 0 0 0 [] (lini maxL (.ref h0 :: av))) : CtI D g y bytes maxL f2 lo2 mc ms av o post := by
  intro l h0 sz
  refine Met.ofW (cc := bytes) (maxL := maxL) (ret := none) hy rfl ?_
  intro p e s m args below meth c s₁ B hml hv
  obtain ⟨rfl, hsz, hP, hK, hD0, hNB⟩ := hv
  subst hsz
  have hts := atoms_spec (ws := .code y bytes maxL none :: tblG) B.pre
  have hown : s.vm.findClass y.cls = some m.cls := findClass_of_methodNamed B.named
  have hin : meth.name = "<init>" := by rw [(name_of_methodNamed B.named B.method).1, hn]
  have hl := lv_entry (.ref h0 :: av) (n := maxL) (hlen h0)
  rw [lg_entry_eq]
  generalize (lg_sl (.ref h0 :: av) ++ List.replicate (maxL - (lg_sl (.ref h0 :: av)).length) Slot.unset).toArray = ls at hl ⊢
  have hG : Bd (p, l, e, (headSpec (.code y bytes maxL none :: tblG) ({ frames := f2, cells := mc, slots := ms, locals := lo2 } : Room)).room, s, m, (Value.ref h0 :: av).toArray, below, meth, c, maxL, 0, 0, MQ below (va_Qv (fun _ : T0 => True) (fun u t => va_P D classes (post h0 u) t.heap ∧ va_D (va_A [(h0, o)] s.heap.size) (post h0 u)) (va_A [(h0, o)] s.heap.size)) (Value.ref h0 :: av).toArray s mc ms (va_A [(h0, o)] s.heap.size)) D g (va_A [(h0, o)] s.heap.size) bytes y.cls maxL f2 lo2 mc ms := ⟨B.exec, B.bytes, rfl, hml, hown, fun w hw => hts w (List.mem_cons_of_mem _ hw), hK, fun q h => Or.inr h, Nat.le_refl _, Nat.le_refl _, Nat.le_refl _, Nat.le_refl _, hNB⟩
  exact body _ _ h0 hG hin ⟨B.returns, B.notSynchronized, rfl⟩ rfl s.heap [] ls hP hD0.self va_S.rf (lvl_sub hl fun i v hi => by simpa using lini_ok (.ref h0 :: av) maxL 0 i v hi)
end BROWS
