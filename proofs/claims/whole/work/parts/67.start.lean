/-! THE CLAIM OUT OF ONE WALK OF THE LAW'S BODY. Your part is whole_start (and what it stands on); all else here is the same for every law, but numbers. -/
def R_law : String := "LabelsOfLinesLaw"
def lw_P (b : Addr) (xs : List Int32) (args : Array Value) (s : State) : Prop := args = #[.ref b] ∧ s.IntsAt b xs ∧ xs.length ≤ 2560 ∧ (Jvm.Cond.and given_1 narrow_1).before args s = true
def lw_Q (_ : Array Value) (s : State) (o : Outcome) (t : State) : Prop := o = .returned (some (.int 1)) ∧ Framed s o t [] 600000 7302250
def lw_Z (below : List Frame) (a : Array Value) (s : State) : State → Prop := fun t => ∃ o, t.status = .running ∧ Ended t below o ∧ lw_Q a s o t
/-- the law's own end, with 1 on the stack, nothing written that was there before, its room as the claim has it -/
theorem lw_ret {p : Program} {l : Launch} {e : Env} {s : State} {m : MethodId} {below : List Frame} {meth : Method} {c : Code} {b : Nat} (hx : p.tables.exec = Jvm.exec) (hb : c.code = code) (hr : meth.sig.returnType = ret) (hlocks : meth.locks = false) {pc : Nat} {H : Heap} {ls : Array Slot} (hdg : decode code pc = .ok (.ireturn, 1)) : W p l e room_1 s m #[Value.ref b] below meth c H [] 600000 7302250 (lw_Z below #[Value.ref b] s) (F0 m pc ls [.int 1]) := by
  intro T hT X
  obtain ⟨fs, hret, hrun, hended, hW, hframe⟩ := X.leave (v := some (.int 1)) (hlocks := hlocks) (fun h => by rw [hr] at h; cases h)
  have hmeth' : T.vm.method? m = some meth := X.method'
  refine ⟨T.setFrames fs, ?_, .returned (some (.int 1)), hrun, hended, rfl, ⟨_, rfl⟩, hW, hframe⟩
  jvm_step X.here [X.here.top, hx, hb, hdg, hmeth', hr, ret, narrow_b1]
  (try refine ⟨rfl, ?_⟩); (try refine ⟨rfl, ?_⟩)
  first | (intro acts; rw [hret _ acts rfl rfl rfl]) | rw [hret _ _ rfl rfl rfl]
  exact Steps.refl _
/-- what holds at the law's entry: the machine, the code, the tables' words (any of lw_tbl by 'hts w (by decide +kernel)'), the script of L ints xs at the cell b, what the Statement gives of the start (any of its parts by flat_of_before) -/
def lw_At (p : Program) (s : State) (m : MethodId) (meth : Method) (c : Code) (b L : Nat) (xs : Nat → Int32) : Prop :=
  p.tables.exec = Jvm.exec ∧ c.code = code ∧ meth.sig.returnType = ret ∧ c.maxLocals = 4 ∧ s.vm.findClass R_law = some m.cls ∧ (∀ w ∈ lw_tbl, w.before #[Value.ref b] s = true) ∧ va_X b L xs s s.heap ∧ b < s.heap.size ∧ meth.locks = false ∧ (Jvm.Cond.and given_1 narrow_1).before #[Value.ref b] s = true
-- ===== YOUR PART BEGINS =====
theorem arrK {U : State} {c comp : ClassId} {k : Class} {ty : FieldType} (hk : U.vm.classes[c]? = some k) (hkind : k.kind = .array comp ty) : ArrOfT U c ty := fun N z => ⟨(fun q hq => by cases hq), k, hk, comp, hkind⟩
set_option maxHeartbeats 4000000 in
theorem known_all {s : State} {args : Array Value} (hts : ∀ w ∈ lw_tbl, w.before args s = true) : ∃ (dC : Nat → ClassId) (dI : Nat → Nat → Nat) (g : Nat → ClassId), va_K (dC, dI) classes (tysG g) s := by
  have htsG : ∀ w ∈ tblG, w.before args s = true := fun w h => hts w (tblG_in h)
  obtain ⟨c0, i0, k0⟩ := u_known (C := RX9) (T := TX9) (N := 12) (n := 12) htsG inX9 (hts (.instantiable RX9 12) (List.mem_of_getElem? (i := 81) (by decide +kernel)))
  obtain ⟨c1, i1, k1⟩ := u_known (C := RX3) (T := TX3) (N := 7) (n := 7) htsG inX3 (hts (.instantiable RX3 7) (List.mem_of_getElem? (i := 89) (by decide +kernel)))
  obtain ⟨c2, i2, k2⟩ := u_known (C := RX4) (T := TX4) (N := 5) (n := 5) htsG inX4 (hts (.instantiable RX4 5) (List.mem_of_getElem? (i := 146) (by decide +kernel)))
  obtain ⟨c3, i3, k3⟩ := u_known (C := RX7) (T := TX7) (N := 8) (n := 8) htsG inX7 (hts (.instantiable RX7 8) (List.mem_of_getElem? (i := 171) (by decide +kernel)))
  obtain ⟨c4, i4, k4⟩ := u_known (C := RX6) (T := TX6) (N := 2) (n := 2) htsG inX6 (hts (.instantiable RX6 2) (List.mem_of_getElem? (i := 203) (by decide +kernel)))
  obtain ⟨c5, i5, k5⟩ := u_known (C := RX1) (T := TX1) (N := 3) (n := 3) htsG inX1 (hts (.instantiable RX1 3) (List.mem_of_getElem? (i := 219) (by decide +kernel)))
  obtain ⟨c6, i6, k6⟩ := u_known (C := RX8) (T := TX8) (N := 2) (n := 2) htsG inX8 (hts (.instantiable RX8 2) (List.mem_of_getElem? (i := 238) (by decide +kernel)))
  obtain ⟨c7, i7, k7⟩ := u_known (C := RX2) (T := TX2) (N := 2) (n := 2) htsG inX2 (hts (.instantiable RX2 2) (List.mem_of_getElem? (i := 253) (by decide +kernel)))
  obtain ⟨c8, i8, k8⟩ := u_known (C := RX10) (T := TX10) (N := 29) (n := 29) htsG inX10 (hts (.instantiable RX10 29) (List.mem_of_getElem? (i := 805) (by decide +kernel)))
  obtain ⟨gI, kI, pI, fI, hI, nI⟩ := Cond.arrayClass_spec (hts (.arrayClass .int) (List.mem_of_getElem? (i := 144) (by decide +kernel)))
  obtain ⟨gJ, kJ, pJ, fJ, hJ, nJ⟩ := Cond.arrayClass_spec (hts (.arrayClass .long) (List.mem_of_getElem? (i := 217) (by decide +kernel)))
  obtain ⟨p2, g2, m2, f2, -, h2, n2, e2⟩ := Stand.arrayOver_specB (hts (.arrayOver (.array .int)) (List.mem_of_getElem? (i := 152) (by decide +kernel)))
  obtain ⟨p3, g3, m3', f3, -, h3, n3, e3⟩ := Stand.arrayOver_specB (hts (.arrayOver (.array .long)) (List.mem_of_getElem? (i := 209) (by decide +kernel)))
  refine ⟨fun k => [c0, c1, c2, c3, c4, c5, c6, c7, c8].getD k c0, fun k => [i0, i1, i2, i3, i4, i5, i6, i7, i8].getD k i0, fun k => [gI, gJ, g2, g3].getD k gI, ?_, ?_⟩
  · intro k q hq
    match k, hq with
    | 0, hq => cases hq; exact k0
    | 1, hq => cases hq; exact k1
    | 2, hq => cases hq; exact k2
    | 3, hq => cases hq; exact k3
    | 4, hq => cases hq; exact k4
    | 5, hq => cases hq; exact k5
    | 6, hq => cases hq; exact k6
    | 7, hq => cases hq; exact k7
    | 8, hq => cases hq; exact k8
    | k + 9, hq =>
      have h9 : k + 9 < 9 := (List.getElem?_eq_some_iff.mp hq).1
      omega
  · intro k q hq
    match k, hq with
    | 0, hq => cases hq; exact ⟨arrK hI nI, fI⟩
    | 1, hq => cases hq; exact ⟨arrK hJ nJ, fJ⟩
    | 2, hq => cases hq; exact ⟨arrK h2 n2, e2⟩
    | 3, hq => cases hq; exact ⟨arrK h3 n3, e3⟩
    | k + 4, hq =>
      have h4 : k + 4 < 4 := (List.getElem?_eq_some_iff.mp hq).1
      omega
theorem nb_all {s : State} {args : Array Value} (hts : ∀ w ∈ lw_tbl, w.before args s = true) : NB s := by
  have h : ∀ q ∈ nbl, q ∈ lw_tbl ∧ q.onTables = true := by decide +kernel
  exact ⟨fun q hq => va_Nw.of (h q hq).2 (hts q (h q hq).1), ⟨va_Nw.of rfl (hts _ (List.mem_of_getElem? (i := 359) (by decide +kernel))), va_Nw.of rfl (hts _ (List.mem_of_getElem? (i := 447) (by decide +kernel)))⟩, Stand.arrayOver_alikeB (Vm.Alike.refl _) (hts (.arrayOver (.array .int)) (List.mem_of_getElem? (i := 152) (by decide +kernel))), Stand.arrayOver_alikeB (Vm.Alike.refl _) (hts (.arrayOver (.array .long)) (List.mem_of_getElem? (i := 209) (by decide +kernel)))⟩
theorem above_all {s : State} {args : Array Value} (hts : ∀ w ∈ lw_tbl, w.before args s = true) (hgv : (Jvm.Cond.and given_1 narrow_1).before args s = true) : ∃ t : Nat, va_Z "LabelsOfLines$Kinds" "ABOVE" "[I" (.ref t) (fun q => s.heap.size ≤ q) s s.heap ∧ va_T .int t 6 (fun k : Nat => iv (if k = 0 then -1 else if k = 3 then 1 else if k = 4 then 2 else 0)) (fun q => s.heap.size ≤ q) s s.heap := by
  have hs := flat_of_before _ hgv
  have harr : (Cond.arrayOf (Term.static "LabelsOfLines$Kinds" "ABOVE" "[I") .int).before args s = true := hs _ (by decide +kernel)
  have hlen : (Term.length (Term.static "LabelsOfLines$Kinds" "ABOVE" "[I")).eval args s none [] s = some (.int (Int32.ofNat 6)) := va_eqt (hs (Cond.eq (.length (Term.static "LabelsOfLines$Kinds" "ABOVE" "[I")) (.int 6)) (by decide +kernel))
  have e0 : (Term.elem (Term.static "LabelsOfLines$Kinds" "ABOVE" "[I") (.int (Int32.ofNat 0))).eval args s none [] s = some (.int (-1)) := va_eqt (hs (Cond.eq (.elem (Term.static "LabelsOfLines$Kinds" "ABOVE" "[I") (.int 0)) (.int (-1))) (by decide +kernel))
  have e1 : (Term.elem (Term.static "LabelsOfLines$Kinds" "ABOVE" "[I") (.int (Int32.ofNat 1))).eval args s none [] s = some (.int (0)) := va_eqt (hs (Cond.eq (.elem (Term.static "LabelsOfLines$Kinds" "ABOVE" "[I") (.int 1)) (.int (0))) (by decide +kernel))
  have e2 : (Term.elem (Term.static "LabelsOfLines$Kinds" "ABOVE" "[I") (.int (Int32.ofNat 2))).eval args s none [] s = some (.int (0)) := va_eqt (hs (Cond.eq (.elem (Term.static "LabelsOfLines$Kinds" "ABOVE" "[I") (.int 2)) (.int (0))) (by decide +kernel))
  have e3 : (Term.elem (Term.static "LabelsOfLines$Kinds" "ABOVE" "[I") (.int (Int32.ofNat 3))).eval args s none [] s = some (.int (1)) := va_eqt (hs (Cond.eq (.elem (Term.static "LabelsOfLines$Kinds" "ABOVE" "[I") (.int 3)) (.int (1))) (by decide +kernel))
  have e4 : (Term.elem (Term.static "LabelsOfLines$Kinds" "ABOVE" "[I") (.int (Int32.ofNat 4))).eval args s none [] s = some (.int (2)) := va_eqt (hs (Cond.eq (.elem (Term.static "LabelsOfLines$Kinds" "ABOVE" "[I") (.int 4)) (.int (2))) (by decide +kernel))
  have e5 : (Term.elem (Term.static "LabelsOfLines$Kinds" "ABOVE" "[I") (.int (Int32.ofNat 5))).eval args s none [] s = some (.int (0)) := va_eqt (hs (Cond.eq (.elem (Term.static "LabelsOfLines$Kinds" "ABOVE" "[I") (.int 5)) (.int (0))) (by decide +kernel))
  obtain ⟨t, ht, hT⟩ := va_Tof (f := (fun k : Nat => iv (if k = 0 then -1 else if k = 3 then 1 else if k = 4 then 2 else 0))) (A := fun q => s.heap.size ≤ q) (N := 6) (by decide) harr hlen (fun j hj => by
    rcases (show j = 0 ∨ j = 1 ∨ j = 2 ∨ j = 3 ∨ j = 4 ∨ j = 5 by omega) with rfl | rfl | rfl | rfl | rfl | rfl
    · exact e0
    · exact e1
    · exact e2
    · exact e3
    · exact e4
    · exact e5) (fun a h => Nat.not_le.mpr h)
  exact ⟨t, va_Zof (hts (.laysStatic "LabelsOfLines$Kinds" "ABOVE" "[I") (List.mem_of_getElem? (i := 449) (by decide +kernel))) (hts (.initialized "LabelsOfLines$Kinds") (List.mem_of_getElem? (i := 78) (by decide +kernel))) ht (fun a h => Nat.not_le.mpr h), hT⟩
theorem tw_a : Cond.classLink RL 7 RX9 ∈ tblG := tblG_of (List.mem_of_getElem? (i := 80) (by decide +kernel)) rfl
theorem tw_b : Cond.instantiable RX9 12 ∈ tblG := tblG_of (List.mem_of_getElem? (i := 81) (by decide +kernel)) rfl
theorem tw_c : Cond.initialized RX9 ∈ tblG := tblG_of (List.mem_of_getElem? (i := 67) (by decide +kernel)) rfl
theorem tw_d : Cond.methodLink RL 9 yX9_init ∈ tblG := tblG_of (List.mem_of_getElem? (i := 82) (by decide +kernel)) rfl
theorem tw_e : Cond.instanceMethod yX9_init ∈ tblG := tblG_of (List.mem_of_getElem? (i := 83) (by decide +kernel)) rfl
theorem tw_f : Cond.code yX9_init cX9_init 1 none ∈ tblG := tblG_of (List.mem_of_getElem? (i := 84) (by decide +kernel)) rfl
theorem tw_g : Cond.classLink RL 10 RX10 ∈ tblG := tblG_of (List.mem_of_getElem? (i := 804) (by decide +kernel)) rfl
theorem tw_h : Cond.instantiable RX10 29 ∈ tblG := tblG_of (List.mem_of_getElem? (i := 805) (by decide +kernel)) rfl
theorem tw_i : Cond.initialized RX10 ∈ tblG := tblG_of (List.mem_of_getElem? (i := 75) (by decide +kernel)) rfl
theorem tw_j : Cond.methodLink RL 12 yX10_init ∈ tblG := tblG_of (List.mem_of_getElem? (i := 806) (by decide +kernel)) rfl
theorem tw_k : Cond.instanceMethod yX10_init ∈ tblG := tblG_of (List.mem_of_getElem? (i := 807) (by decide +kernel)) rfl
theorem tw_l : Cond.code yX10_init cX10_init 1 none ∈ tblG := tblG_of (List.mem_of_getElem? (i := 808) (by decide +kernel)) rfl
set_option maxHeartbeats 4000000 in
theorem law_head {X : Cx} {D : va_G} {g : Nat → ClassId} {A : Nat → Prop} {b : Nat} (G : Bd X D g A cL_law RL 4 2048 84000 600000 7302250) (k : ∀ (q : Nat) (u : (Nat → Nat) × (Nat → Nat → Nat → Nat) × (Nat → Nat → Nat → Nat)) (q2 : Nat) (u2 : Nat → Nat → Nat), BW X D A (wsI g q u q2 u2) 97 1634 16 [] [some (.ref b), some (.ref q), some (.ref q2), none]) : BW X D A [] 0 0 0 [] [some (.ref b), none, none, none] := by
  refine bw_new (ci := 0) (fs := [.null, .null, iv 0, .null, .null, .null, .null, .null, .null, .null, .null, .null]) tyX9 G dL_law_0 inX9 tyX9_ok tw_a tw_b tw_c rfl (fun j hj => by rcases (show j = 0 ∨ j = 1 ∨ j = 2 ∨ j = 3 ∨ j = 4 ∨ j = 5 ∨ j = 6 ∨ j = 7 ∨ j = 8 ∨ j = 9 ∨ j = 10 ∨ j = 11 by omega) with rfl | rfl | rfl | rfl | rfl | rfl | rfl | rfl | rfl | rfl | rfl | rfl <;> rfl) (by decide) (by decide) (fun q => ?_)
  refine bw_dup G dL_law_3 (k := ?_)
  refine bw_ctor (av := []) (st := [.ref q]) G dL_law_4 tw_d tw_e tw_c tw_f c_X9_init ⟨rfl, (by decide +kernel : plainY yX9_init 0)⟩ rfl ⟨by decide, by decide⟩ (Nat.le_of_ble_eq_true rfl) (by decide) (by decide) (fun u => ?_)
  refine bw_astore_1 G dL_law_7 (k := ?_)
  refine bw_new (ci := 8) (fs := [iv 0, iv 0, .null, .null, .null, .null, .null, iv 0, .null, .null, .null, .null, iv 0, .null, .null, .null, .null, .null, .null, .null, iv 0, .null, iv 0, .null, iv 0, .null, iv 0, .null, .null]) tyX10 G dL_law_8 inX10 tyX10_ok tw_g tw_h tw_i rfl (fun j hj => by rcases (show j = 0 ∨ j = 1 ∨ j = 2 ∨ j = 3 ∨ j = 4 ∨ j = 5 ∨ j = 6 ∨ j = 7 ∨ j = 8 ∨ j = 9 ∨ j = 10 ∨ j = 11 ∨ j = 12 ∨ j = 13 ∨ j = 14 ∨ j = 15 ∨ j = 16 ∨ j = 17 ∨ j = 18 ∨ j = 19 ∨ j = 20 ∨ j = 21 ∨ j = 22 ∨ j = 23 ∨ j = 24 ∨ j = 25 ∨ j = 26 ∨ j = 27 ∨ j = 28 by omega) with rfl | rfl | rfl | rfl | rfl | rfl | rfl | rfl | rfl | rfl | rfl | rfl | rfl | rfl | rfl | rfl | rfl | rfl | rfl | rfl | rfl | rfl | rfl | rfl | rfl | rfl | rfl | rfl | rfl <;> rfl) (by decide) (by decide) (fun q2 => ?_)
  refine bw_dup G dL_law_11 (k := ?_)
  refine bw_ctor (av := []) (st := [.ref q2]) G dL_law_12 tw_j tw_k tw_i tw_l c_X10_init ⟨rfl, (by decide +kernel : plainY yX10_init 0)⟩ rfl ⟨by decide, by decide⟩ (Nat.le_of_ble_eq_true rfl) (by decide) (by decide) (fun u2 => ?_)
  refine bw_astore_2 G dL_law_15 (k := ?_)
  exact k q u q2 u2
set_option maxHeartbeats 4000000 in
/-- YOUR PART: from the entry, for every script of at most 2560 ints, the law comes to its end with true ('hflags': the launch's flags, for a law that throws: no stack traces) -/
theorem whole_start {p : Program} {e : Env} {s : State} {m : MethodId} {below : List Frame} {meth : Method} {c : Code} (l : Launch) (hflags : l.flags = flags0) {b L : Nat} {xs : Nat → Int32} (hL : L ≤ 2560) (C0 : lw_At p s m meth c b L xs) : W p l e room_1 s m #[Value.ref b] below meth c s.heap [] 0 0 (lw_Z below #[Value.ref b] s) (entryFrame m ([Value.ref b] : List Value).toArray 4) := by
  obtain ⟨hx, hb, hr, hml, hown, hts, hX, hbl, hlocks, hgv⟩ := id C0
  obtain ⟨dC, dI, g, hK⟩ := known_all hts
  obtain ⟨t0, hZ, hT⟩ := above_all hts hgv
  have hNB : NB s := nb_all hts
  have htsG : ∀ w ∈ tblG, w.before #[Value.ref b] s = true := fun w h => hts w (tblG_in h)
  have hl := lv_entry ([.ref b]) (n := 4) (Nat.le_of_ble_eq_true rfl)
  rw [lg_entry_eq]
  generalize (lg_sl ([.ref b]) ++ List.replicate (4 - (lg_sl ([.ref b])).length) Slot.unset).toArray = ls at hl ⊢
  have hl : lv_has ls 4 (lvl 0 [some (.ref b), none, none, none]) := hl
  have GB : Bd (p, l, e, room_1, s, m, #[Value.ref b], below, meth, c, 4, 600000, 7302250, lw_Z below #[Value.ref b] s) (dC, dI) g (fun q => s.heap.size ≤ q) cL_law RL 4 2048 84000 600000 7302250 := ⟨hx, hb, rfl, hml, hown, htsG, hK, fun _ h => h, Nat.le_refl _, Nat.le_refl _, Nat.le_refl _, Nat.le_refl _, hNB⟩
  have key := law_head (b := b) GB (fun q u q2 u2 => by
    intro H locs ls hP hD hS hl
    have hD' : va_D (fr (VI (dC, dI) g s.heap.size t0 q u q2 u2)) (wld (VI (dC, dI) g s.heap.size t0 q u q2 u2) sI) := wI_D hD
    have G : Gd (p, l, e, room_1, s, m, #[Value.ref b], below, meth, c, 4, 600000, 7302250, lw_Z below #[Value.ref b] s) (VI (dC, dI) g s.heap.size t0 q u q2 u2) cL_law RL 4 2048 84000 := ⟨hx, hb, rfl, hml, hown, htsG, hK, fun σ => wld_D sI σ hD', Nat.le_refl _, hZ, hT, Nat.le_refl _, Nat.le_refl _, Nat.le_refl _, Nat.le_refl _, hNB.2.1⟩
    have hend : ∀ (σ : St) (Ls : List (Option Value)), AW (p, l, e, room_1, s, m, #[Value.ref b], below, meth, c, 4, 600000, 7302250, lw_Z below #[Value.ref b] s) (VI (dC, dI) g s.heap.size t0 q u q2 u2) σ 1225 [] Ls := by
      intro σ Ls H locs ls hP hS hl
      refine lv_iconst (v := 1) hx hb dL_law_1225 (by decide) ?_
      refine va_forget (fun q hq => hS.2.2 q hq) ?_
      exact lw_ret hx hb hr hlocks dL_law_1226
    have aw : AW (p, l, e, room_1, s, m, #[Value.ref b], below, meth, c, 4, 600000, 7302250, lw_Z below #[Value.ref b] s) (VI (dC, dI) g s.heap.size t0 q u q2 u2) sI 16 [] [some (.ref b), some (rv (VI (dC, dI) g s.heap.size t0 q u q2 u2) 0), some (rv (VI (dC, dI) g s.heap.size t0 q u q2 u2) 75), none] := by
      refine aw_iconst G dL_law_16 ?_
      refine aw_istore_3 G dL_law_17 (k := ?_)
      exact law_loop G ⟨hX, hbl, Nat.not_le.mpr hbl⟩ hL hend (L + 1) 0 sI ⟨by omega, by omega⟩ (by omega) sI_OK sI_RX
    refine W.widen (k := 600000) (n := 7302250) (by decide) (by decide) ?_
    exact aw H locs ls (wI_P hP) hS hl)
  exact key s.heap [] ls (fun k q h => by simp at h) ⟨fun i j p q h => by simp at h, fun k q h => by simp at h⟩ va_S.rf hl
-- ===== YOUR PART ENDS =====
set_option maxHeartbeats 4000000 in
theorem lw_walk (l : Launch) (hflags : l.flags = flags0) (b : Addr) (xs : List Int32) : MetFree l x (headSpec (Jvm.Cond.code x code maxLocals ret :: tables_1) room_1) (lw_P b xs) (fun _ _ _ _ _ => True) lw_Q := by
  refine MetFree.of_bodyS (code := code) (maxLocals := maxLocals) (ret := ret) (by decide) ?_ ?_
  · intro args s m h hn
    obtain ⟨meth, c, h1, h2, h3, h4, h5, h6, -, -⟩ := Cond.code_spec hn (atoms_spec (ws := Jvm.Cond.code x code maxLocals ret :: tables_1) h _ List.mem_cons_self)
    exact ⟨meth, c, h1, h2, h3, h4, h5, h6⟩
  · intro p e s m args below meth c s₁ B hml0 hP _
    obtain ⟨rfl, hx, hbd, hgv⟩ := hP
    obtain ⟨scr, harrAt, hlist, hof, hsmall⟩ := hx
    obtain ⟨hcb, hkn, -, -⟩ := State.arrayAt?_spec harrAt
    have hown : s.vm.findClass R_law = some m.cls := findClass_of_methodNamed B.named
    have hts0 : ∀ c ∈ (Jvm.Cond.code x code maxLocals ret :: tables_1), c.before #[Value.ref b] s = true := atoms_spec (ws := Jvm.Cond.code x code maxLocals ret :: tables_1) B.pre
    have hts : ∀ w ∈ lw_tbl, w.before #[Value.ref b] s = true := k2_hts_sels lw_privs (fun w hw => hts0 w (List.mem_cons_of_mem _ hw)) lw_privs_ok
    have hml : c.maxLocals = 4 := B.maxLocals_eq (hts0 _ List.mem_cons_self)
    have X₀ : Stand p l e room_1 s m #[Value.ref b] below meth c s₁ [] 0 0 := Stand.of_body B
    have hh0 : s₁.heap = s.heap := by rw [B.state]; rfl
    have hsz : scr.slots.size = xs.length := by rw [← Array.length_toList, hlist, List.length_map]
    have hval : ∀ j : Nat, j < xs.length → scr.slots[j]? = some (.int (xs.getD j 0)) := fun j hj => by
      rw [← Array.getElem?_toList, hlist]
      simp [hj]
    have hbl : b < s.heap.size := (Array.getElem?_eq_some_iff.mp hcb).1
    have hX : va_X b xs.length (fun j => xs.getD j 0) s s.heap := ⟨scr, hcb, hof, hkn, hsz, hval⟩
    have K : W p l e room_1 s m #[Value.ref b] below meth c s₁.heap [] 0 0 (lw_Z below #[Value.ref b] s) (entryFrame m ([Value.ref b] : List Value).toArray 4) := by
      rw [hh0]
      exact whole_start l hflags hbd ⟨B.exec, B.bytes, B.returns, hml, hown, hts, hX, hbl, B.notSynchronized, hgv⟩
    obtain ⟨t, a1, o, b1, b2, b3⟩ := K s₁ rfl X₀
    exact ⟨t, o, a1, b1, b2, b3⟩
theorem lw_pre_spec {args : Array Value} {s : State} (h : (Jvm.Cond.and given_1 narrow_1).before args s = true) (hr : rest_1_c.before args s = true) : ∃ (b : Addr) (xs : List Int32), lw_P b xs args s := by
  have hs := flat_of_before _ h
  have hq := flat_of_before _ hr
  have hc : (Cond.count 1).before args s = true := hs _ (by decide +kernel)
  have harr : (Cond.arrayOf (.arg 0) .int).before args s = true := hs _ (by decide +kernel)
  have hle : (Cond.le (.length (.arg 0)) (.int 2560)).before args s = true := hs _ (by decide +kernel)
  have hlen : (Cond.isInt (.length (.arg 0))).before args s = true := hq _ (by decide +kernel)
  have hall : (Cond.all (.arg 0) (.isInt (.elem (.arg 0) (.index 0)))).before args s = true := hq _ (by decide +kernel)
  obtain ⟨b, xs, hb, hx⟩ := State.ints_of_pre rfl harr hlen hall
  have hsm : xs.length < 2 ^ 31 := hx.choose_spec.2.2.2
  have hev : (Term.length (.arg 0)).eval args s none [] s = some (.int xs.length.toInt32) := hx.length_eval hb
  have hv := Cond.le_ints hev (show (Term.int 2560).eval args s none [] s = some (.int 2560) from rfl)
  have hd : xs.length.toInt32 ≤ 2560 := by
    simpa [Cond.before, Cond.holds, hv] using hle
  have hN : xs.length ≤ 2560 := (Int32.ofNat_le_ofNat hsm (by decide)).mp (show Int32.ofNat xs.length ≤ Int32.ofNat 2560 from hd)
  exact ⟨b, xs, Cond.one_arg hc (show args[0]? = some (.ref b) from hb), hx, hN, h⟩
theorem lw_comes (l : Launch) (hflags : l.flags = flags0) : Comes l x (Jvm.Cond.code x code maxLocals ret :: tables_1) room_1 (fun tb e args s => Calls_1 tb e args s ∧ rest_1 tb e args s ∧ Pre_1 tb e args s)
    (fun _ _ args s o t => lw_Q args s o t) := by
  intro p e ha hc hk s m args below hf hfit hheap happ hpre
  obtain ⟨b, xs, hP⟩ := lw_pre_spec hpre.2.2 hpre.2.1
  obtain ⟨k, o, h1, h2, h3, hQ⟩ := lw_walk l hflags b xs p e ha hc hk s m args below hf ((Spec.applies_iff_loose hf).mp happ).1 hP trivial
  exact ⟨k, o, h1, h2, h3, hQ⟩
theorem lw_frame {s t : State} {o : Outcome} {args : Array Value} (h : Framed s o t [] 600000 7302250) :
    Framed s o t (fieldLocs frame_1_writes args s ++ arrayLocs frame_1_arrays args s ++ staticLocs frame_1_statics s) 600000 7302250 := h
theorem lw_limb (L : Cond) (hL : ∀ (args : Array Value) (s t : State), L.after args s (.returned (some (.int 1))) t = true) :
    ArmFor flags0 classFile x code maxLocals ret World_1 tables_1 room_1 Calls_1 rest_1 Pre_1
      (fun tb e a s o t => postC L tb e a s o t ∧ Framed s o t (fieldLocs frame_1_writes a s ++ arrayLocs frame_1_arrays a s ++ staticLocs frame_1_statics s) 600000 7302250) := by
  intro l hflags _ _ p e ha hc hk s m args below hf hfit hheap happ hpre
  obtain ⟨k, o, h1, h2, h3, rfl, hF⟩ := lw_comes l hflags p e ha hc hk s m args below hf hfit hheap happ hpre
  exact ⟨k, _, h1, h2, h3, hL args s _, lw_frame hF⟩
theorem i_vc : Claimed_1_1 ∧ Claimed_1_2 := ⟨lw_limb limb_1_1 (fun args s t => by simp [limb_1_1, Cond.after, Cond.holds, Cond.value]), lw_limb limb_1_2 (fun args s t => Cond.after_iff.mpr (by
  first | (rw [show limb_1_2 = Cond.eq .result (.int 1) from rfl, Cond.eq_ints (x := 1) (y := 1) rfl rfl]; simp; done) | (simp [limb_1_2, Cond.value, Term.eval]; done)))⟩
