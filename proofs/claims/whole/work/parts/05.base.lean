/-! store, cells, world: a store tells of each cell and place an Int; the machine's int there is Int32.ofInt of it -/
abbrev St : Type := Nat → Int → Int
abbrev inR (x : Int) : Prop := -2147483648 ≤ x ∧ x ≤ 2147483647
abbrev inL (x : Int) : Prop := -9223372036854775808 ≤ x ∧ x ≤ 9223372036854775807
def iv (x : Int) : Value := .int (Int32.ofInt x)
def jv (x : Int) : Value := .long (Int64.ofInt x)
/-- class numbers, addresses of cells, classes of arrays, where the world's cells begin, the table ABOVE -/
abbrev Wd : Type := va_G × (Nat → Nat) × (Nat → ClassId) × Nat × Nat
def rv (V : Wd) (k : Nat) : Value := .ref (V.2.1 k)
def up (σ : St) (k : Nat) (j x : Int) : St := fun k' j' => if k' = k ∧ j' = j then x else σ k' j'
abbrev Lay : Type := Wd → (Int → Int) → va_E
def iE (n : Nat) : Lay := fun V r => .inl (V.2.2.1 0, n, .inl (fun i => Int32.ofInt (r i)))
def jE (n : Nat) : Lay := fun V r => .inl (V.2.2.1 1, n, .inr (.inl (fun i => Int64.ofInt (r i))))
def qE (t n b : Nat) : Lay := fun V _ => .inl (V.2.2.1 t, n, .inr (.inr (.inr (.inr (fun i => if i < n then some (V.2.1 (b + i)) else none)))))
def oMain (a0 a1 a3 a4 a5 a6 a7 a8 a9 a10 a11 : Nat) : Lay := fun V r => .inr (0, [rv V a0, rv V a1, iv (r 2), rv V a3, rv V a4, rv V a5, rv V a6, rv V a7, rv V a8, rv V a9, rv V a10, rv V a11])
def oNet (a2 a3 a4 a5 a6 : Nat) : Lay := fun V r => .inr (1, [iv (r 0), iv (r 1), rv V a2, rv V a3, rv V a4, rv V a5, rv V a6])
def oPast (a0 a1 a2 : Nat) : Lay := fun V r => .inr (2, [rv V a0, rv V a1, rv V a2, iv (r 3), iv (r 4)])
def oThought (a0 a1 a2 a3 a4 a5 : Nat) : Lay := fun V r => .inr (3, [rv V a0, rv V a1, rv V a2, rv V a3, rv V a4, rv V a5, iv (r 6), iv (r 7)])
def oShape (a0 a1 : Nat) : Lay := fun V r => .inr (4, [rv V a0, rv V a1])
def oLetters (a0 a1 : Nat) : Lay := fun V r => .inr (5, [rv V a0, rv V a1, iv (r 2)])
def oWriting (a0 : Nat) : Lay := fun V r => .inr (6, [rv V a0, iv (r 1)])
def oLists (a0 a1 : Nat) : Lay := fun V r => .inr (7, [rv V a0, rv V a1])
def oModel (a2 a3 a4 a5 a6 a8 a9 a10 a11 a13 a14 a15 a16 a17 a18 a19 a21 a23 a25 a27 a28 : Nat) : Lay := fun V r => .inr (8, [iv (r 0), iv (r 1), rv V a2, rv V a3, rv V a4, rv V a5, rv V a6, iv (r 7), rv V a8, rv V a9, rv V a10, rv V a11, iv (r 12), rv V a13, rv V a14, rv V a15, rv V a16, rv V a17, rv V a18, rv V a19, iv (r 20), rv V a21, iv (r 22), rv V a23, iv (r 24), rv V a25, iv (r 26), rv V a27, rv V a28])
abbrev classes : List vw_C := [(RX9, TX9, 12), (RX3, TX3, 7), (RX4, TX4, 5), (RX7, TX7, 8), (RX6, TX6, 2), (RX1, TX1, 3), (RX8, TX8, 2), (RX2, TX2, 2), (RX10, TX10, 29)]
def layL : List Lay := [oMain 1 7 19 47 53 62 64 66 72 73 74, oNet 2 3 4 5 6, iE 8, iE 8, iE 8, iE 8, iE 8, oNet 8 9 10 11 12, iE 8, iE 8, iE 8, iE 8, iE 8, oNet 14 15 16 17 18, iE 8, iE 8, iE 8, iE 8, iE 8, oPast 20 21 22, qE 2 8 23, qE 2 8 31, qE 2 8 39, iE 8, iE 8, iE 8, iE 8, iE 8, iE 8, iE 8, iE 8, iE 8, iE 8, iE 8, iE 8, iE 8, iE 8, iE 8, iE 8, iE 8, iE 8, iE 8, iE 8, iE 8, iE 8, iE 8, iE 8, oThought 1 48 49 50 51 52, iE 8, iE 7, iE 8, iE 8, iE 7, oShape 1 54, qE 3 7 55, jE 8, jE 8, jE 8, jE 8, jE 8, jE 8, jE 8, oLetters 63 13, iE 72, oWriting 65, iE 115, oLists 67 71, qE 2 3 68, iE 40, iE 40, iE 40, iE 3, iE 7, iE 7, iE 7, oModel 76 77 78 79 80 81 82 83 84 85 86 87 88 89 90 91 92 93 94 95 96, iE 8, iE 8, iE 8, iE 8, iE 8, iE 64, iE 64, iE 64, iE 72, iE 3, iE 120, iE 7, iE 8, iE 7, iE 56, iE 7, jE 56, iE 120, iE 7, iE 42, iE 42]
abbrev NC : Nat := 97
def lay (k : Nat) : Lay := layL.getD k (iE 0)
def ent (V : Wd) (σ : St) (k : Nat) : va_E := lay k V (σ k)
def wld (V : Wd) (σ : St) : va_W := (List.range NC).map (fun k => (V.2.1 k, ent V σ k))
def tysV (V : Wd) : List (ClassId × FieldType) := [(V.2.2.1 0, .int), (V.2.2.1 1, .long), (V.2.2.1 2, .array .int), (V.2.2.1 3, .array .long)]
def NW (U : State) : Prop := va_Nw (.methodLinkNest "LabelsOfLines$Letters" 69 ⟨"LabelsOfLines", "isKind", "(I)Z"⟩ "LabelsOfLines") U ∧ va_Nw (.methodLinkNest "LabelsOfLines$Kinds" 9 ⟨"LabelsOfLines", "isKind", "(I)Z"⟩ "LabelsOfLines") U
def fr (V : Wd) : Nat → Prop := fun q => V.2.2.2.1 ≤ q
def tblG : List Cond := lw_tbl.filter goodWord
theorem tblG_good : ∀ w ∈ tblG, goodWord w = true := fun w h => (List.mem_filter.mp h).2
theorem tblG_in {w : Cond} (h : w ∈ tblG) : w ∈ lw_tbl := (List.mem_filter.mp h).1
theorem tblG_of {w : Cond} (h : w ∈ lw_tbl) (hg : goodWord w = true) : w ∈ tblG := List.mem_filter.mpr ⟨h, hg⟩
theorem tblG_GI {ws : List Cond} (h : ∀ w ∈ ws, w ∈ tblG) : GoodIn tblG ws := fun w hw => ⟨h w hw, good_of_word (tblG_good w (h w hw))⟩
theorem wld_len (V : Wd) (σ : St) : (wld V σ).length = NC := by simp [wld]
theorem wld_at (V : Wd) (σ : St) {k : Nat} (h : k < NC) : (wld V σ)[k]? = some (V.2.1 k, ent V σ k) := by
  simp [wld, h]
theorem wld_set (V : Wd) (σ τ : St) {k : Nat} (h : k < NC) {e : va_E} (he : e = ent V τ k) (ho : ∀ k', k' ≠ k → τ k' = σ k') : (wld V σ).set k (V.2.1 k, e) = wld V τ := by
  apply List.ext_getElem?
  intro j
  by_cases hj : j = k
  · subst hj
    rw [List.getElem?_set_self (by rw [wld_len]; exact h), wld_at V τ h, he]
  · rw [List.getElem?_set_ne (Ne.symm hj)]
    by_cases hN : j < NC
    · rw [wld_at V σ hN, wld_at V τ hN]
      unfold ent
      rw [ho j hj]
    · rw [List.getElem?_eq_none (by rw [wld_len]; omega), List.getElem?_eq_none (by rw [wld_len]; omega)]
theorem wld_D {V : Wd} {A : Nat → Prop} (σ τ : St) (h : va_D A (wld V σ)) : va_D A (wld V τ) := by
  have key : ∀ (k : Nat) (q : Nat × va_E), (wld V τ)[k]? = some q → ∃ q0, (wld V σ)[k]? = some q0 ∧ q0.1 = q.1 := by
    intro k q hq
    have hk : k < NC := by
      have := (List.getElem?_eq_some_iff.mp hq).1
      rwa [wld_len] at this
    rw [wld_at V τ hk] at hq
    cases hq
    exact ⟨_, wld_at V σ hk, rfl⟩
  refine ⟨fun i j x y hi hj hxy => ?_, fun k q hk => ?_⟩
  · obtain ⟨x0, h1, h2⟩ := key i x hi
    obtain ⟨y0, h3, h4⟩ := key j y hj
    exact h.1 i j x0 y0 h1 h3 (h2.trans (hxy.trans h4.symm))
  · obtain ⟨q0, h1, h2⟩ := key k q hk
    rw [← h2]
    exact h.2 k q0 h1
theorem up_ne {σ : St} {k k' : Nat} {j x : Int} (h : k' ≠ k) : up σ k j x k' = σ k' := by
  funext j'
  simp [up, h]
theorem up_at (σ : St) (k : Nat) (j x : Int) : up σ k j x k j = x := by simp [up]
theorem up_nj {σ : St} {k k' : Nat} {j j' x : Int} (h : j' ≠ j) : up σ k j x k' j' = σ k' j' := by simp [up, h]
/-! numbers -/
theorem n_toInt {x : Int} (h : inR x) : (Int32.ofInt x).toInt = x := Int32.toInt_ofInt_of_le (by have := h.1; omega) (by have := h.2; omega)
theorem n_lt {x y : Int} (hx : inR x) (hy : inR y) : Int32.ofInt x < Int32.ofInt y ↔ x < y := by
  rw [Int32.lt_iff_toInt_lt, n_toInt hx, n_toInt hy]
theorem n_le {x y : Int} (hx : inR x) (hy : inR y) : Int32.ofInt x ≤ Int32.ofInt y ↔ x ≤ y := by
  rw [Int32.le_iff_toInt_le, n_toInt hx, n_toInt hy]
theorem n_eq {x y : Int} (hx : inR x) (hy : inR y) : Int32.ofInt x = Int32.ofInt y ↔ x = y := by
  rw [← Int32.toInt_inj, n_toInt hx, n_toInt hy]
theorem n_0 : Int32.ofInt 0 = 0 := rfl
theorem n_clamp {x : Int} (h : inR x) : (Int32.ofInt x).toNatClampNeg = x.toNat := Int32.toNatClampNeg_ofInt_of_le (by have := h.1; omega) (by have := h.2; omega)
theorem n_in {x : Int} {n : Nat} (h : 0 ≤ x ∧ x < n) (hn : n < 2147483648) : vp_in (Int32.ofInt x) n := by
  have hr : inR x := ⟨by omega, by omega⟩
  rintro (q | q)
  · rw [← n_0, n_lt hr ⟨by omega, by omega⟩] at q
    omega
  · rw [n_clamp hr] at q
    omega
theorem l_toInt {x : Int} (h : inL x) : (Int64.ofInt x).toInt = x := Int64.toInt_ofInt_of_le (by have := h.1; omega) (by have := h.2; omega)
theorem l_eq {x y : Int} (hx : inL x) (hy : inL y) : Int64.ofInt x = Int64.ofInt y ↔ x = y := by
  rw [← Int64.toInt_inj, l_toInt hx, l_toInt hy]
theorem l_lt {x y : Int} (hx : inL x) (hy : inL y) : Int64.ofInt x < Int64.ofInt y ↔ x < y := by
  rw [Int64.lt_iff_toInt_lt, l_toInt hx, l_toInt hy]
/-! locals -/
def lvl : Nat → List (Option Value) → List (Nat × Value)
  | _, [] => []
  | i, none :: r => lvl (i + 1) r
  | i, some v :: r => (i, v) :: lvl (i + 1) r
theorem lvl_mem : ∀ (L : List (Option Value)) (i0 j : Nat) (v : Value), L[j]? = some (some v) → (i0 + j, v) ∈ lvl i0 L
  | [], _, j, v, h => by simp at h
  | a :: r, i0, 0, v, h => by
    simp at h
    subst h
    exact List.mem_cons_self
  | a :: r, i0, j + 1, v, h => by
    have := lvl_mem r (i0 + 1) j v (by simpa using h)
    rw [show i0 + 1 + j = i0 + (j + 1) by omega] at this
    cases a with
    | none => exact this
    | some w => exact List.mem_cons_of_mem _ this
theorem lvl_of : ∀ (L : List (Option Value)) (i0 i : Nat) (v : Value), (i, v) ∈ lvl i0 L → ∃ j, i = i0 + j ∧ L[j]? = some (some v)
  | [], _, i, v, h => by cases h
  | none :: r, i0, i, v, h => by
    obtain ⟨j, h1, h2⟩ := lvl_of r (i0 + 1) i v h
    exact ⟨j + 1, by omega, by simpa using h2⟩
  | some w :: r, i0, i, v, h => by
    rcases List.mem_cons.mp h with h | h
    · cases h
      exact ⟨0, rfl, rfl⟩
    · obtain ⟨j, h1, h2⟩ := lvl_of r (i0 + 1) i v h
      exact ⟨j + 1, by omega, by simpa using h2⟩
theorem lvl_get {ls : Array Slot} {n : Nat} {L : List (Option Value)} (h : lv_has ls n (lvl 0 L)) {i : Nat} {v : Value} (hL : L[i]? = some (some v)) : ls[i]? = some (.val v) := by
  have := h.2.2 _ (lvl_mem L 0 i v hL)
  simpa using this
theorem lvl_sub {ls : Array Slot} {n : Nat} {L : List (Option Value)} {B : List (Nat × Value)} (h : lv_has ls n B) (hB : ∀ i v, L[i]? = some (some v) → (i, v) ∈ B) : lv_has ls n (lvl 0 L) := by
  refine ⟨h.1, h.2.1, fun q hq => ?_⟩
  obtain ⟨j, h1, h2⟩ := lvl_of L 0 q.1 q.2 hq
  have h3 := hB j q.2 h2
  have h4 := h.2.2 _ h3
  rw [show q.1 = j by omega]
  exact h4
def lcat : Option Value → Nat
  | none => 1
  | some v => v.category
theorem lvl_set {ls : Array Slot} {n i : Nat} {v : Value} {L : List (Option Value)} (h : lv_has ls n ((i, v) :: (lvl 0 L).filter (fun q => !(q.1 == i) && !(q.1 + 1 == i && q.2.category == 2)))) (hc : ∀ j, j + 1 = i → lcat (L.getD j none) = 1) : lv_has ls n (lvl 0 (L.set i (some v))) := by
  refine lvl_sub h fun j u hj => ?_
  by_cases e : j = i
  · subst e
    by_cases hl : j < L.length
    · rw [List.getElem?_set_self hl] at hj
      cases hj
      exact List.mem_cons_self
    · rw [List.getElem?_eq_none (by simpa using hl)] at hj
      cases hj
  · rw [List.getElem?_set_ne (Ne.symm e)] at hj
    refine List.mem_cons_of_mem _ (List.mem_filter.mpr ⟨by simpa using lvl_mem L 0 j u hj, ?_⟩)
    by_cases e2 : j + 1 = i
    · have := hc j e2
      rw [List.getD_eq_getElem?_getD, hj] at this
      have hu : u.category = 1 := this
      simp [e, hu]
    · simp [e, e2]
theorem lvl_set2 {ls : Array Slot} {n i : Nat} {v : Value} {L : List (Option Value)} (h : lv_has ls n ((i, v) :: (lvl 0 L).filter (fun q => !(q.1 == i) && (!(q.1 == i + 1) && !(q.1 + 1 == i && q.2.category == 2))))) (hc : ∀ j, j + 1 = i → lcat (L.getD j none) = 1) : lv_has ls n (lvl 0 ((L.set i (some v)).set (i + 1) none)) := by
  refine lvl_sub h fun j u hj => ?_
  by_cases e3 : j = i + 1
  · subst e3
    by_cases hl : i + 1 < (L.set i (some v)).length
    · rw [List.getElem?_set_self hl] at hj
      cases hj
    · rw [List.getElem?_eq_none (by simpa using hl)] at hj
      cases hj
  rw [List.getElem?_set_ne (Ne.symm e3)] at hj
  by_cases e : j = i
  · subst e
    by_cases hl : j < L.length
    · rw [List.getElem?_set_self hl] at hj
      cases hj
      exact List.mem_cons_self
    · rw [List.getElem?_eq_none (by simpa using hl)] at hj
      cases hj
  · rw [List.getElem?_set_ne (Ne.symm e)] at hj
    refine List.mem_cons_of_mem _ (List.mem_filter.mpr ⟨by simpa using lvl_mem L 0 j u hj, ?_⟩)
    by_cases e2 : j + 1 = i
    · have := hc j e2
      rw [List.getD_eq_getElem?_getD, hj] at this
      have hu : u.category = 1 := this
      simp [e, e3, hu]
    · simp [e, e2, e3]
/-! the machine over the store -/
abbrev Cx : Type := Program × Launch × Env × Room × State × MethodId × Array Value × List Frame × Method × Code × Nat × Nat × Nat × (State → Prop)
def AW (X : Cx) (V : Wd) (σ : St) (pc : Nat) (st : List Value) (L : List (Option Value)) : Prop :=
  match X with
  | (p, l, e, R, s, m, args, below, meth, c, nL, kc, ks, Q) => ∀ (H : Heap) (locs : List Loc) (ls : Array Slot), va_P V.1 classes (wld V σ) H → va_S (fr V) s.heap H locs → lv_has ls nL (lvl 0 L) → W p l e R s m args below meth c H locs kc ks Q (F0 m pc ls st)
def Gd (X : Cx) (V : Wd) (cc : ByteArray) (own : String) (n F Lo : Nat) : Prop :=
  match X with
  | (p, _, _, R, s, m, args, _, _, c, nL, kc, ks, _) => p.tables.exec = Jvm.exec ∧ c.code = cc ∧ nL = n ∧ c.maxLocals = n ∧ s.vm.findClass own = some m.cls ∧ (∀ w ∈ tblG, w.before args s = true) ∧ va_K V.1 classes (tysV V) s ∧ (∀ σ, va_D (fr V) (wld V σ)) ∧ V.2.2.2.1 ≤ s.heap.size ∧ va_Z "LabelsOfLines$Kinds" "ABOVE" "[I" (.ref V.2.2.2.2) (fr V) s s.heap ∧ va_T .int V.2.2.2.2 6 (fun k => iv (if k = 0 then -1 else if k = 3 then 1 else if k = 4 then 2 else 0)) (fr V) s s.heap ∧ F ≤ R.frames ∧ Lo ≤ R.locals ∧ kc ≤ R.cells ∧ ks ≤ R.slots ∧ NW s
section ROWS
variable {X : Cx} {V : Wd} {σ : St} {pc n F Lo : Nat} {st : List Value} {L : List (Option Value)} {cc : ByteArray} {own : String}
theorem aw_iadd {x y : Int} (G : Gd X V cc own n F Lo) (hd : decode cc pc = .ok (.iadd, 1))  (k : AW X V σ (pc + 1) (iv (x + y) :: st) L) : AW X V σ pc (iv y :: iv x :: st) L := by
  obtain ⟨p, l, e, R, s, m, args, below, meth, c, nL, kc, ks, Q⟩ := X
  obtain ⟨hx, hb, hnL, hml, hown, hts, hK, hD, hb0, hZ, hT, hF, hLo, hkc, hks, hNW⟩ := G
  intro H locs ls hP hS hl
  refine lv_iadd hx hb hd ?_
  rw [← Int32.ofInt_add]
  exact k H locs ls hP hS hl
theorem aw_isub {x y : Int} (G : Gd X V cc own n F Lo) (hd : decode cc pc = .ok (.isub, 1))  (k : AW X V σ (pc + 1) (iv (x - y) :: st) L) : AW X V σ pc (iv y :: iv x :: st) L := by
  obtain ⟨p, l, e, R, s, m, args, below, meth, c, nL, kc, ks, Q⟩ := X
  obtain ⟨hx, hb, hnL, hml, hown, hts, hK, hD, hb0, hZ, hT, hF, hLo, hkc, hks, hNW⟩ := G
  intro H locs ls hP hS hl
  refine lv_isub hx hb hd ?_
  rw [← Int32.ofInt_sub]
  exact k H locs ls hP hS hl
theorem aw_imul {x y : Int} (G : Gd X V cc own n F Lo) (hd : decode cc pc = .ok (.imul, 1))  (k : AW X V σ (pc + 1) (iv (x * y) :: st) L) : AW X V σ pc (iv y :: iv x :: st) L := by
  obtain ⟨p, l, e, R, s, m, args, below, meth, c, nL, kc, ks, Q⟩ := X
  obtain ⟨hx, hb, hnL, hml, hown, hts, hK, hD, hb0, hZ, hT, hF, hLo, hkc, hks, hNW⟩ := G
  intro H locs ls hP hS hl
  refine lv_imul hx hb hd ?_
  rw [← Int32.ofInt_mul]
  exact k H locs ls hP hS hl
theorem aw_ladd {x y : Int} (G : Gd X V cc own n F Lo) (hd : decode cc pc = .ok (.ladd, 1))  (k : AW X V σ (pc + 1) (jv (x + y) :: st) L) : AW X V σ pc (jv y :: jv x :: st) L := by
  obtain ⟨p, l, e, R, s, m, args, below, meth, c, nL, kc, ks, Q⟩ := X
  obtain ⟨hx, hb, hnL, hml, hown, hts, hK, hD, hb0, hZ, hT, hF, hLo, hkc, hks, hNW⟩ := G
  intro H locs ls hP hS hl
  refine lv_ladd hx hb hd ?_
  rw [← Int64.ofInt_add]
  exact k H locs ls hP hS hl
theorem aw_lsub {x y : Int} (G : Gd X V cc own n F Lo) (hd : decode cc pc = .ok (.lsub, 1))  (k : AW X V σ (pc + 1) (jv (x - y) :: st) L) : AW X V σ pc (jv y :: jv x :: st) L := by
  obtain ⟨p, l, e, R, s, m, args, below, meth, c, nL, kc, ks, Q⟩ := X
  obtain ⟨hx, hb, hnL, hml, hown, hts, hK, hD, hb0, hZ, hT, hF, hLo, hkc, hks, hNW⟩ := G
  intro H locs ls hP hS hl
  refine lv_lsub hx hb hd ?_
  rw [← Int64.ofInt_sub]
  exact k H locs ls hP hS hl
theorem aw_lmul {x y : Int} (G : Gd X V cc own n F Lo) (hd : decode cc pc = .ok (.lmul, 1))  (k : AW X V σ (pc + 1) (jv (x * y) :: st) L) : AW X V σ pc (jv y :: jv x :: st) L := by
  obtain ⟨p, l, e, R, s, m, args, below, meth, c, nL, kc, ks, Q⟩ := X
  obtain ⟨hx, hb, hnL, hml, hown, hts, hK, hD, hb0, hZ, hT, hF, hLo, hkc, hks, hNW⟩ := G
  intro H locs ls hP hS hl
  refine lv_lmul hx hb hd ?_
  rw [← Int64.ofInt_mul]
  exact k H locs ls hP hS hl
theorem aw_ineg {x : Int} (G : Gd X V cc own n F Lo) (hd : decode cc pc = .ok (.ineg, 1))  (k : AW X V σ (pc + 1) (iv (-x) :: st) L) : AW X V σ pc (iv x :: st) L := by
  obtain ⟨p, l, e, R, s, m, args, below, meth, c, nL, kc, ks, Q⟩ := X
  obtain ⟨hx, hb, hnL, hml, hown, hts, hK, hD, hb0, hZ, hT, hF, hLo, hkc, hks, hNW⟩ := G
  intro H locs ls hP hS hl
  refine lv_ineg hx hb hd ?_
  rw [← Int32.ofInt_neg]
  exact k H locs ls hP hS hl
def iand (x y : Int) : Int := (Int32.ofInt x &&& Int32.ofInt y).toInt
def ior (x y : Int) : Int := (Int32.ofInt x ||| Int32.ofInt y).toInt
def ishl (x y : Int) : Int := (Int32.ofInt x <<< (Int32.ofInt y &&& 31)).toInt
def ishr (x y : Int) : Int := (Int32.ofInt x >>> (Int32.ofInt y &&& 31)).toInt
theorem aw_iand {x y : Int} (G : Gd X V cc own n F Lo) (hd : decode cc pc = .ok (.iand, 1))  (k : AW X V σ (pc + 1) (iv (iand x y) :: st) L) : AW X V σ pc (iv y :: iv x :: st) L := by
  obtain ⟨p, l, e, R, s, m, args, below, meth, c, nL, kc, ks, Q⟩ := X
  obtain ⟨hx, hb, hnL, hml, hown, hts, hK, hD, hb0, hZ, hT, hF, hLo, hkc, hks, hNW⟩ := G
  intro H locs ls hP hS hl
  refine lv_iand hx hb hd ?_
  unfold iand iv at k
  rw [Int32.ofInt_toInt] at k
  exact k H locs ls hP hS hl
theorem aw_ior {x y : Int} (G : Gd X V cc own n F Lo) (hd : decode cc pc = .ok (.ior, 1))  (k : AW X V σ (pc + 1) (iv (ior x y) :: st) L) : AW X V σ pc (iv y :: iv x :: st) L := by
  obtain ⟨p, l, e, R, s, m, args, below, meth, c, nL, kc, ks, Q⟩ := X
  obtain ⟨hx, hb, hnL, hml, hown, hts, hK, hD, hb0, hZ, hT, hF, hLo, hkc, hks, hNW⟩ := G
  intro H locs ls hP hS hl
  refine lv_ior hx hb hd ?_
  unfold ior iv at k
  rw [Int32.ofInt_toInt] at k
  exact k H locs ls hP hS hl
theorem aw_ishl {x y : Int} (G : Gd X V cc own n F Lo) (hd : decode cc pc = .ok (.ishl, 1))  (k : AW X V σ (pc + 1) (iv (ishl x y) :: st) L) : AW X V σ pc (iv y :: iv x :: st) L := by
  obtain ⟨p, l, e, R, s, m, args, below, meth, c, nL, kc, ks, Q⟩ := X
  obtain ⟨hx, hb, hnL, hml, hown, hts, hK, hD, hb0, hZ, hT, hF, hLo, hkc, hks, hNW⟩ := G
  intro H locs ls hP hS hl
  refine lv_ishl hx hb hd ?_
  unfold ishl iv at k
  rw [Int32.ofInt_toInt] at k
  exact k H locs ls hP hS hl
theorem aw_ishr {x y : Int} (G : Gd X V cc own n F Lo) (hd : decode cc pc = .ok (.ishr, 1))  (k : AW X V σ (pc + 1) (iv (ishr x y) :: st) L) : AW X V σ pc (iv y :: iv x :: st) L := by
  obtain ⟨p, l, e, R, s, m, args, below, meth, c, nL, kc, ks, Q⟩ := X
  obtain ⟨hx, hb, hnL, hml, hown, hts, hK, hD, hb0, hZ, hT, hF, hLo, hkc, hks, hNW⟩ := G
  intro H locs ls hP hS hl
  refine lv_ishr hx hb hd ?_
  unfold ishr iv at k
  rw [Int32.ofInt_toInt] at k
  exact k H locs ls hP hS hl
theorem aw_idiv {x y : Int} (G : Gd X V cc own n F Lo) (hd : decode cc pc = .ok (.idiv, 1)) (hx0 : inR x) (hy : inR y ∧ y ≠ 0) (k : AW X V σ (pc + 1) (iv (x.tdiv y) :: st) L) : AW X V σ pc (iv y :: iv x :: st) L := by
  obtain ⟨p, l, e, R, s, m, args, below, meth, c, nL, kc, ks, Q⟩ := X
  obtain ⟨hx, hb, hnL, hml, hown, hts, hK, hD, hb0, hZ, hT, hF, hLo, hkc, hks, hNW⟩ := G
  intro H locs ls hP hS hl
  refine lv_idiv hx hb hd (fun q => hy.2 ((n_eq hy.1 (by decide)).mp q)) ?_
  rw [← Int32.ofInt_tdiv (by rw [Int32.toInt_minValue]; omega) (by rw [Int32.toInt_maxValue]; omega) (by rw [Int32.toInt_minValue]; omega) (by rw [Int32.toInt_maxValue]; omega)]
  exact k H locs ls hP hS hl
theorem tm_bd (x y : Int) : (0 ≤ x → 0 ≤ x.tmod y ∧ x.tmod y ≤ x) ∧ (x ≤ 0 → x ≤ x.tmod y ∧ x.tmod y ≤ 0) := by
  have key : ∀ a b : Int, 0 ≤ a → 0 ≤ a.tmod b ∧ a.tmod b ≤ a := by
    intro a b ha
    have h1 : 0 ≤ a.tmod b := Int.tmod_nonneg b ha
    refine ⟨h1, ?_⟩
    have h2 := Int.natAbs_tmod a b
    have h3 := Nat.mod_le a.natAbs b.natAbs
    omega
  refine ⟨key x y, fun hx => ?_⟩
  have := key (-x) y (by omega)
  rw [Int.neg_tmod] at this
  omega
theorem aw_irem {x y : Int} (G : Gd X V cc own n F Lo) (hd : decode cc pc = .ok (.irem, 1)) (hx0 : inR x) (hy : inR y ∧ y ≠ 0) (k : AW X V σ (pc + 1) (iv (x.tmod y) :: st) L) : AW X V σ pc (iv y :: iv x :: st) L := by
  obtain ⟨p, l, e, R, s, m, args, below, meth, c, nL, kc, ks, Q⟩ := X
  obtain ⟨hx, hb, hnL, hml, hown, hts, hK, hD, hb0, hZ, hT, hF, hLo, hkc, hks, hNW⟩ := G
  intro H locs ls hP hS hl
  refine lv_irem hx hb hd (fun q => hy.2 ((n_eq hy.1 (by decide)).mp q)) ?_
  have e1 : Int32.ofInt x - Int32.ofInt x / Int32.ofInt y * Int32.ofInt y = Int32.ofInt (x.tmod y) := by
    rw [← Int32.toInt_inj, rem_toInt, n_toInt hx0, n_toInt hy.1, n_toInt]
    have t1 := tm_bd x y
    omega
  rw [e1]
  exact k H locs ls hP hS hl
theorem aw_ldiv {x y : Int} (G : Gd X V cc own n F Lo) (hd : decode cc pc = .ok (.ldiv, 1)) (hx0 : inL x) (hy : inL y ∧ y ≠ 0) (k : AW X V σ (pc + 1) (jv (x.tdiv y) :: st) L) : AW X V σ pc (jv y :: jv x :: st) L := by
  obtain ⟨p, l, e, R, s, m, args, below, meth, c, nL, kc, ks, Q⟩ := X
  obtain ⟨hx, hb, hnL, hml, hown, hts, hK, hD, hb0, hZ, hT, hF, hLo, hkc, hks, hNW⟩ := G
  intro H locs ls hP hS hl
  refine lv_ldiv hx hb hd (fun q => hy.2 ((l_eq hy.1 (by decide)).mp q)) ?_
  rw [← Int64.ofInt_tdiv (by rw [Int64.toInt_minValue]; omega) (by rw [Int64.toInt_maxValue]; omega) (by rw [Int64.toInt_minValue]; omega) (by rw [Int64.toInt_maxValue]; omega)]
  exact k H locs ls hP hS hl
theorem aw_lrem {x y : Int} (G : Gd X V cc own n F Lo) (hd : decode cc pc = .ok (.lrem, 1)) (hx0 : inL x) (hy : inL y ∧ y ≠ 0) (k : AW X V σ (pc + 1) (jv (x.tmod y) :: st) L) : AW X V σ pc (jv y :: jv x :: st) L := by
  obtain ⟨p, l, e, R, s, m, args, below, meth, c, nL, kc, ks, Q⟩ := X
  obtain ⟨hx, hb, hnL, hml, hown, hts, hK, hD, hb0, hZ, hT, hF, hLo, hkc, hks, hNW⟩ := G
  intro H locs ls hP hS hl
  refine lv_lrem hx hb hd (fun q => hy.2 ((l_eq hy.1 (by decide)).mp q)) ?_
  have e1 : Int64.ofInt x - Int64.ofInt x / Int64.ofInt y * Int64.ofInt y = Int64.ofInt (x.tmod y) := by
    rw [← Int64.ofInt_tdiv (by rw [Int64.toInt_minValue]; omega) (by rw [Int64.toInt_maxValue]; omega) (by rw [Int64.toInt_minValue]; omega) (by rw [Int64.toInt_maxValue]; omega), ← Int64.ofInt_mul, ← Int64.ofInt_sub]
    congr 1
    have t1 := Int.mul_tdiv_add_tmod x y
    rw [Int.mul_comm] at t1
    omega
  rw [e1]
  exact k H locs ls hP hS hl
theorem aw_i2l {x : Int} (G : Gd X V cc own n F Lo) (hd : decode cc pc = .ok (.i2l, 1)) (hx0 : inR x) (k : AW X V σ (pc + 1) (jv x :: st) L) : AW X V σ pc (iv x :: st) L := by
  obtain ⟨p, l, e, R, s, m, args, below, meth, c, nL, kc, ks, Q⟩ := X
  obtain ⟨hx, hb, hnL, hml, hown, hts, hK, hD, hb0, hZ, hT, hF, hLo, hkc, hks, hNW⟩ := G
  intro H locs ls hP hS hl
  refine lv_i2l hx hb hd (Int32.toInt64_ofInt (by rw [Int32.toInt_minValue]; omega) (by rw [Int32.toInt_maxValue]; omega)) ?_
  exact k H locs ls hP hS hl
theorem aw_iconst {x : Int} (G : Gd X V cc own n F Lo) (hd : decode cc pc = .ok (.iconst x, 1))  (k : AW X V σ (pc + 1) (iv x :: st) L) : AW X V σ pc (st) L := by
  obtain ⟨p, l, e, R, s, m, args, below, meth, c, nL, kc, ks, Q⟩ := X
  obtain ⟨hx, hb, hnL, hml, hown, hts, hK, hD, hb0, hZ, hT, hF, hLo, hkc, hks, hNW⟩ := G
  intro H locs ls hP hS hl
  refine lv_iconst hx hb hd rfl ?_
  exact k H locs ls hP hS hl
theorem aw_bipush {x : Int} (G : Gd X V cc own n F Lo) (hd : decode cc pc = .ok (.bipush x, 2)) (hx0 : -128 ≤ x ∧ x ≤ 127 := by decide) (k : AW X V σ (pc + 2) (iv x :: st) L) : AW X V σ pc (st) L := by
  obtain ⟨p, l, e, R, s, m, args, below, meth, c, nL, kc, ks, Q⟩ := X
  obtain ⟨hx, hb, hnL, hml, hown, hts, hK, hD, hb0, hZ, hT, hF, hLo, hkc, hks, hNW⟩ := G
  intro H locs ls hP hS hl
  refine lv_bipush hx hb hd (Int8.toInt32_ofInt (by rw [Int8.toInt_minValue]; omega) (by rw [Int8.toInt_maxValue]; omega)) ?_
  exact k H locs ls hP hS hl
theorem aw_sipush {x : Int} (G : Gd X V cc own n F Lo) (hd : decode cc pc = .ok (.sipush x, 3)) (hx0 : -32768 ≤ x ∧ x ≤ 32767 := by decide) (k : AW X V σ (pc + 3) (iv x :: st) L) : AW X V σ pc (st) L := by
  obtain ⟨p, l, e, R, s, m, args, below, meth, c, nL, kc, ks, Q⟩ := X
  obtain ⟨hx, hb, hnL, hml, hown, hts, hK, hD, hb0, hZ, hT, hF, hLo, hkc, hks, hNW⟩ := G
  intro H locs ls hP hS hl
  refine lv_sipush hx hb hd (Int16.toInt32_ofInt (by rw [Int16.toInt_minValue]; omega) (by rw [Int16.toInt_maxValue]; omega)) ?_
  exact k H locs ls hP hS hl
theorem aw_lconst {x : Fin 2} (G : Gd X V cc own n F Lo) (hd : decode cc pc = .ok (.lconst x, 1))  (k : AW X V σ (pc + 1) (jv (x : Nat) :: st) L) : AW X V σ pc (st) L := by
  obtain ⟨p, l, e, R, s, m, args, below, meth, c, nL, kc, ks, Q⟩ := X
  obtain ⟨hx, hb, hnL, hml, hown, hts, hK, hD, hb0, hZ, hT, hF, hLo, hkc, hks, hNW⟩ := G
  intro H locs ls hP hS hl
  refine lv_lconst hx hb hd rfl ?_
  exact k H locs ls hP hS hl
theorem aw_ldc {i : Nat} {v : Int} (G : Gd X V cc own n F Lo) (hd : decode cc pc = .ok (.ldc i, 2)) (hw : Cond.constant own i (Int32.ofInt v) ∈ tblG) (k : AW X V σ (pc + 2) (iv v :: st) L) : AW X V σ pc (st) L := by
  obtain ⟨p, l, e, R, s, m, args, below, meth, c, nL, kc, ks, Q⟩ := X
  obtain ⟨hx, hb, hnL, hml, hown, hts, hK, hD, hb0, hZ, hT, hF, hLo, hkc, hks, hNW⟩ := G
  intro H locs ls hP hS hl
  refine lv_ldc hx hb hown (hts _ hw) hd ?_
  exact k H locs ls hP hS hl
theorem aw_ldc2 {i : Nat} {v : Int} (G : Gd X V cc own n F Lo) (hd : decode cc pc = .ok (.ldc2_w i, 3)) (hw : Cond.constantLong own i (Int64.ofInt v) ∈ tblG) (k : AW X V σ (pc + 3) (jv v :: st) L) : AW X V σ pc (st) L := by
  obtain ⟨p, l, e, R, s, m, args, below, meth, c, nL, kc, ks, Q⟩ := X
  obtain ⟨hx, hb, hnL, hml, hown, hts, hK, hD, hb0, hZ, hT, hF, hLo, hkc, hks, hNW⟩ := G
  intro H locs ls hP hS hl
  refine lv_ldc2 hx hb hown (hts _ hw) hd ?_
  exact k H locs ls hP hS hl
theorem aw_dup {a : Value} (G : Gd X V cc own n F Lo) (hd : decode cc pc = .ok (.dup, 1)) (ha : a.category = 1 := by rfl) (k : AW X V σ (pc + 1) (a :: a :: st) L) : AW X V σ pc (a :: st) L := by
  obtain ⟨p, l, e, R, s, m, args, below, meth, c, nL, kc, ks, Q⟩ := X
  obtain ⟨hx, hb, hnL, hml, hown, hts, hK, hD, hb0, hZ, hT, hF, hLo, hkc, hks, hNW⟩ := G
  intro H locs ls hP hS hl
  refine lv_dup hx hb hd ha ?_
  exact k H locs ls hP hS hl
theorem aw_dup2 {a b : Value} (G : Gd X V cc own n F Lo) (hd : decode cc pc = .ok (.dup2, 1)) (ha : a.category = 1 := by rfl) (hb2 : b.category = 1 := by rfl) (k : AW X V σ (pc + 1) (a :: b :: a :: b :: st) L) : AW X V σ pc (a :: b :: st) L := by
  obtain ⟨p, l, e, R, s, m, args, below, meth, c, nL, kc, ks, Q⟩ := X
  obtain ⟨hx, hb, hnL, hml, hown, hts, hK, hD, hb0, hZ, hT, hF, hLo, hkc, hks, hNW⟩ := G
  intro H locs ls hP hS hl
  refine lv_dup2_11 hx hb hd ha hb2 ?_
  exact k H locs ls hP hS hl
theorem aw_pop {a : Value} (G : Gd X V cc own n F Lo) (hd : decode cc pc = .ok (.pop, 1)) (ha : a.category = 1 := by rfl) (k : AW X V σ (pc + 1) (st) L) : AW X V σ pc (a :: st) L := by
  obtain ⟨p, l, e, R, s, m, args, below, meth, c, nL, kc, ks, Q⟩ := X
  obtain ⟨hx, hb, hnL, hml, hown, hts, hK, hD, hb0, hZ, hT, hF, hLo, hkc, hks, hNW⟩ := G
  intro H locs ls hP hS hl
  refine lv_pop hx hb hd ha ?_
  exact k H locs ls hP hS hl
theorem aw_lcmp {x y : Int} (G : Gd X V cc own n F Lo) (hd : decode cc pc = .ok (.lcmp, 1)) (hx0 : inL x) (hy0 : inL y) (k : AW X V σ (pc + 1) (iv (if y < x then 1 else if x = y then 0 else -1) :: st) L) : AW X V σ pc (jv y :: jv x :: st) L := by
  obtain ⟨p, l, e, R, s, m, args, below, meth, c, nL, kc, ks, Q⟩ := X
  obtain ⟨hx, hb, hnL, hml, hown, hts, hK, hD, hb0, hZ, hT, hF, hLo, hkc, hks, hNW⟩ := G
  intro H locs ls hP hS hl
  refine W.lcmp hx hb hd ?_
  have e1 : lg_cmp (Int64.ofInt x) (Int64.ofInt y) = Int32.ofInt (if y < x then 1 else if x = y then 0 else -1) := by
    unfold lg_cmp
    by_cases h1 : y < x
    · simp [h1, (l_lt hy0 hx0).mpr h1]
    · by_cases h2 : x = y
      · subst h2
        have h3 : ¬ Int64.ofInt x < Int64.ofInt x := fun q => h1 ((l_lt hy0 hx0).mp q)
        simp [h1, h3]
      · have h3 : ¬ Int64.ofInt y < Int64.ofInt x := fun q => h1 ((l_lt hy0 hx0).mp q)
        have h4 : ¬ Int64.ofInt x = Int64.ofInt y := fun q => h2 ((l_eq hx0 hy0).mp q)
        simp [h1, h2, h3, h4]
  rw [e1]
  exact k H locs ls hP hS hl
theorem aw_iload {i : Nat} {x : Int} (G : Gd X V cc own n F Lo) (hd : decode cc pc = .ok (.iload i, 2)) (hL : L[i]? = some (some (iv x))) (k : AW X V σ (pc + 2) (iv x :: st) L) : AW X V σ pc st L := by
  obtain ⟨p, l, e, R, s, m, args, below, meth, c, nL, kc, ks, Q⟩ := X
  obtain ⟨hx, hb, hnL, hml, hown, hts, hK, hD, hb0, hZ, hT, hF, hLo, hkc, hks, hNW⟩ := G
  intro H locs ls hP hS hl
  refine lv_iload hx hb hd (lvl_get hl hL) ?_
  exact k H locs ls hP hS hl
theorem aw_iload_n {i : Fin 4} {x : Int} (G : Gd X V cc own n F Lo) (hd : decode cc pc = .ok (.iload_n i, 1)) (hL : L[(i : Nat)]? = some (some (iv x))) (k : AW X V σ (pc + 1) (iv x :: st) L) : AW X V σ pc st L := by
  obtain ⟨p, l, e, R, s, m, args, below, meth, c, nL, kc, ks, Q⟩ := X
  obtain ⟨hx, hb, hnL, hml, hown, hts, hK, hD, hb0, hZ, hT, hF, hLo, hkc, hks, hNW⟩ := G
  intro H locs ls hP hS hl
  refine lv_iload_n hx hb hd rfl (lvl_get hl hL) ?_
  exact k H locs ls hP hS hl
theorem aw_lload {i : Nat} {x : Int} (G : Gd X V cc own n F Lo) (hd : decode cc pc = .ok (.lload i, 2)) (hL : L[i]? = some (some (jv x))) (k : AW X V σ (pc + 2) (jv x :: st) L) : AW X V σ pc st L := by
  obtain ⟨p, l, e, R, s, m, args, below, meth, c, nL, kc, ks, Q⟩ := X
  obtain ⟨hx, hb, hnL, hml, hown, hts, hK, hD, hb0, hZ, hT, hF, hLo, hkc, hks, hNW⟩ := G
  intro H locs ls hP hS hl
  refine lv_lload hx hb hd (lvl_get hl hL) ?_
  exact k H locs ls hP hS hl
theorem aw_lload_n {i : Fin 4} {x : Int} (G : Gd X V cc own n F Lo) (hd : decode cc pc = .ok (.lload_n i, 1)) (hL : L[(i : Nat)]? = some (some (jv x))) (k : AW X V σ (pc + 1) (jv x :: st) L) : AW X V σ pc st L := by
  obtain ⟨p, l, e, R, s, m, args, below, meth, c, nL, kc, ks, Q⟩ := X
  obtain ⟨hx, hb, hnL, hml, hown, hts, hK, hD, hb0, hZ, hT, hF, hLo, hkc, hks, hNW⟩ := G
  intro H locs ls hP hS hl
  refine lv_lload_n hx hb hd rfl (lvl_get hl hL) ?_
  exact k H locs ls hP hS hl
theorem aw_aload {i x : Nat} (G : Gd X V cc own n F Lo) (hd : decode cc pc = .ok (.aload i, 2)) (hL : L[i]? = some (some (rv V x))) (k : AW X V σ (pc + 2) (rv V x :: st) L) : AW X V σ pc st L := by
  obtain ⟨p, l, e, R, s, m, args, below, meth, c, nL, kc, ks, Q⟩ := X
  obtain ⟨hx, hb, hnL, hml, hown, hts, hK, hD, hb0, hZ, hT, hF, hLo, hkc, hks, hNW⟩ := G
  intro H locs ls hP hS hl
  refine lv_aload hx hb hd (lvl_get hl hL) ?_
  exact k H locs ls hP hS hl
theorem aw_aload_n {i : Fin 4} {x : Nat} (G : Gd X V cc own n F Lo) (hd : decode cc pc = .ok (.aload_n i, 1)) (hL : L[(i : Nat)]? = some (some (rv V x))) (k : AW X V σ (pc + 1) (rv V x :: st) L) : AW X V σ pc st L := by
  obtain ⟨p, l, e, R, s, m, args, below, meth, c, nL, kc, ks, Q⟩ := X
  obtain ⟨hx, hb, hnL, hml, hown, hts, hK, hD, hb0, hZ, hT, hF, hLo, hkc, hks, hNW⟩ := G
  intro H locs ls hP hS hl
  refine lv_aload_n hx hb hd rfl (lvl_get hl hL) ?_
  exact k H locs ls hP hS hl
theorem aw_istore_0 {a0 : Option Value} {t : List (Option Value)} {x : Int} (G : Gd X V cc own n F Lo) (hd : decode cc pc = .ok (.istore_n 0, 1)) (hi : 0 < n := by decide) (k : AW X V σ (pc + 1) st (some (iv x) :: t)) : AW X V σ pc (iv x :: st) (a0 :: t) := by
  obtain ⟨p, l, e, R, s, m, args, below, meth, c, nL, kc, ks, Q⟩ := X
  obtain ⟨hx, hb, hnL, hml, hown, hts, hK, hD, hb0, hZ, hT, hF, hLo, hkc, hks, hNW⟩ := G
  intro H locs ls hP hS hl
  subst hnL
  refine lv_istore_n (lv := lvl 0 (a0 :: t)) hx hb hd rfl hl (hi) rfl fun ls hl => ?_
  exact k H locs ls hP hS (lvl_set (L := a0 :: t) hl (fun j hj => by omega))
theorem aw_astore_0 {a0 : Option Value} {t : List (Option Value)} {x : Nat} (G : Gd X V cc own n F Lo) (hd : decode cc pc = .ok (.astore_n 0, 1)) (hi : 0 < n := by decide) (k : AW X V σ (pc + 1) st (some (rv V x) :: t)) : AW X V σ pc (rv V x :: st) (a0 :: t) := by
  obtain ⟨p, l, e, R, s, m, args, below, meth, c, nL, kc, ks, Q⟩ := X
  obtain ⟨hx, hb, hnL, hml, hown, hts, hK, hD, hb0, hZ, hT, hF, hLo, hkc, hks, hNW⟩ := G
  intro H locs ls hP hS hl
  subst hnL
  refine lv_astore_n (lv := lvl 0 (a0 :: t)) hx hb hd rfl hl (hi) rfl fun ls hl => ?_
  exact k H locs ls hP hS (lvl_set (L := a0 :: t) hl (fun j hj => by omega))
theorem aw_iinc_0 {a0 : Option Value} {t : List (Option Value)} {x d : Int} (G : Gd X V cc own n F Lo) (hd : decode cc pc = .ok (.iinc 0 d, 3)) (hx0 : a0 = some (iv x)) (hi : 0 < n := by decide) (k : AW X V σ (pc + 3) st (some (iv (x + d)) :: t)) : AW X V σ pc st (a0 :: t) := by
  obtain ⟨p, l, e, R, s, m, args, below, meth, c, nL, kc, ks, Q⟩ := X
  obtain ⟨hx, hb, hnL, hml, hown, hts, hK, hD, hb0, hZ, hT, hF, hLo, hkc, hks, hNW⟩ := G
  intro H locs ls hP hS hl
  subst hnL hx0
  obtain ⟨k0, hk0⟩ := List.getElem?_of_mem (lvl_mem (some (iv x) :: t) 0 0 (iv x) rfl)
  refine lv_iinc (k := k0) (v := Int32.ofInt (x + d)) hx hb hd hl hk0 (by rw [Int32.ofInt_add]) hi rfl fun ls hl => ?_
  exact k H locs ls hP hS (lvl_set (L := some (iv x) :: t) hl (fun j hj => by omega))
theorem aw_istore_1 {a0 a1 : Option Value} {t : List (Option Value)} {x : Int} (G : Gd X V cc own n F Lo) (hd : decode cc pc = .ok (.istore_n 1, 1)) (hc : lcat a0 = 1 := by rfl) (hi : 1 < n := by decide) (k : AW X V σ (pc + 1) st (a0 :: some (iv x) :: t)) : AW X V σ pc (iv x :: st) (a0 :: a1 :: t) := by
  obtain ⟨p, l, e, R, s, m, args, below, meth, c, nL, kc, ks, Q⟩ := X
  obtain ⟨hx, hb, hnL, hml, hown, hts, hK, hD, hb0, hZ, hT, hF, hLo, hkc, hks, hNW⟩ := G
  intro H locs ls hP hS hl
  subst hnL
  refine lv_istore_n (lv := lvl 0 (a0 :: a1 :: t)) hx hb hd rfl hl (hi) rfl fun ls hl => ?_
  exact k H locs ls hP hS (lvl_set (L := a0 :: a1 :: t) hl (fun j hj => by rw [show j = 0 by omega]; exact hc))
theorem aw_astore_1 {a0 a1 : Option Value} {t : List (Option Value)} {x : Nat} (G : Gd X V cc own n F Lo) (hd : decode cc pc = .ok (.astore_n 1, 1)) (hc : lcat a0 = 1 := by rfl) (hi : 1 < n := by decide) (k : AW X V σ (pc + 1) st (a0 :: some (rv V x) :: t)) : AW X V σ pc (rv V x :: st) (a0 :: a1 :: t) := by
  obtain ⟨p, l, e, R, s, m, args, below, meth, c, nL, kc, ks, Q⟩ := X
  obtain ⟨hx, hb, hnL, hml, hown, hts, hK, hD, hb0, hZ, hT, hF, hLo, hkc, hks, hNW⟩ := G
  intro H locs ls hP hS hl
  subst hnL
  refine lv_astore_n (lv := lvl 0 (a0 :: a1 :: t)) hx hb hd rfl hl (hi) rfl fun ls hl => ?_
  exact k H locs ls hP hS (lvl_set (L := a0 :: a1 :: t) hl (fun j hj => by rw [show j = 0 by omega]; exact hc))
theorem aw_iinc_1 {a0 a1 : Option Value} {t : List (Option Value)} {x d : Int} (G : Gd X V cc own n F Lo) (hd : decode cc pc = .ok (.iinc 1 d, 3)) (hx0 : a1 = some (iv x)) (hc : lcat a0 = 1 := by rfl) (hi : 1 < n := by decide) (k : AW X V σ (pc + 3) st (a0 :: some (iv (x + d)) :: t)) : AW X V σ pc st (a0 :: a1 :: t) := by
  obtain ⟨p, l, e, R, s, m, args, below, meth, c, nL, kc, ks, Q⟩ := X
  obtain ⟨hx, hb, hnL, hml, hown, hts, hK, hD, hb0, hZ, hT, hF, hLo, hkc, hks, hNW⟩ := G
  intro H locs ls hP hS hl
  subst hnL hx0
  obtain ⟨k0, hk0⟩ := List.getElem?_of_mem (lvl_mem (a0 :: some (iv x) :: t) 0 1 (iv x) rfl)
  refine lv_iinc (k := k0) (v := Int32.ofInt (x + d)) hx hb hd hl hk0 (by rw [Int32.ofInt_add]) hi rfl fun ls hl => ?_
  exact k H locs ls hP hS (lvl_set (L := a0 :: some (iv x) :: t) hl (fun j hj => by rw [show j = 0 by omega]; exact hc))
theorem aw_istore_2 {a0 a1 a2 : Option Value} {t : List (Option Value)} {x : Int} (G : Gd X V cc own n F Lo) (hd : decode cc pc = .ok (.istore_n 2, 1)) (hc : lcat a1 = 1 := by rfl) (hi : 2 < n := by decide) (k : AW X V σ (pc + 1) st (a0 :: a1 :: some (iv x) :: t)) : AW X V σ pc (iv x :: st) (a0 :: a1 :: a2 :: t) := by
  obtain ⟨p, l, e, R, s, m, args, below, meth, c, nL, kc, ks, Q⟩ := X
  obtain ⟨hx, hb, hnL, hml, hown, hts, hK, hD, hb0, hZ, hT, hF, hLo, hkc, hks, hNW⟩ := G
  intro H locs ls hP hS hl
  subst hnL
  refine lv_istore_n (lv := lvl 0 (a0 :: a1 :: a2 :: t)) hx hb hd rfl hl (hi) rfl fun ls hl => ?_
  exact k H locs ls hP hS (lvl_set (L := a0 :: a1 :: a2 :: t) hl (fun j hj => by rw [show j = 1 by omega]; exact hc))
theorem aw_astore_2 {a0 a1 a2 : Option Value} {t : List (Option Value)} {x : Nat} (G : Gd X V cc own n F Lo) (hd : decode cc pc = .ok (.astore_n 2, 1)) (hc : lcat a1 = 1 := by rfl) (hi : 2 < n := by decide) (k : AW X V σ (pc + 1) st (a0 :: a1 :: some (rv V x) :: t)) : AW X V σ pc (rv V x :: st) (a0 :: a1 :: a2 :: t) := by
  obtain ⟨p, l, e, R, s, m, args, below, meth, c, nL, kc, ks, Q⟩ := X
  obtain ⟨hx, hb, hnL, hml, hown, hts, hK, hD, hb0, hZ, hT, hF, hLo, hkc, hks, hNW⟩ := G
  intro H locs ls hP hS hl
  subst hnL
  refine lv_astore_n (lv := lvl 0 (a0 :: a1 :: a2 :: t)) hx hb hd rfl hl (hi) rfl fun ls hl => ?_
  exact k H locs ls hP hS (lvl_set (L := a0 :: a1 :: a2 :: t) hl (fun j hj => by rw [show j = 1 by omega]; exact hc))
theorem aw_iinc_2 {a0 a1 a2 : Option Value} {t : List (Option Value)} {x d : Int} (G : Gd X V cc own n F Lo) (hd : decode cc pc = .ok (.iinc 2 d, 3)) (hx0 : a2 = some (iv x)) (hc : lcat a1 = 1 := by rfl) (hi : 2 < n := by decide) (k : AW X V σ (pc + 3) st (a0 :: a1 :: some (iv (x + d)) :: t)) : AW X V σ pc st (a0 :: a1 :: a2 :: t) := by
  obtain ⟨p, l, e, R, s, m, args, below, meth, c, nL, kc, ks, Q⟩ := X
  obtain ⟨hx, hb, hnL, hml, hown, hts, hK, hD, hb0, hZ, hT, hF, hLo, hkc, hks, hNW⟩ := G
  intro H locs ls hP hS hl
  subst hnL hx0
  obtain ⟨k0, hk0⟩ := List.getElem?_of_mem (lvl_mem (a0 :: a1 :: some (iv x) :: t) 0 2 (iv x) rfl)
  refine lv_iinc (k := k0) (v := Int32.ofInt (x + d)) hx hb hd hl hk0 (by rw [Int32.ofInt_add]) hi rfl fun ls hl => ?_
  exact k H locs ls hP hS (lvl_set (L := a0 :: a1 :: some (iv x) :: t) hl (fun j hj => by rw [show j = 1 by omega]; exact hc))
theorem aw_istore_3 {a0 a1 a2 a3 : Option Value} {t : List (Option Value)} {x : Int} (G : Gd X V cc own n F Lo) (hd : decode cc pc = .ok (.istore_n 3, 1)) (hc : lcat a2 = 1 := by rfl) (hi : 3 < n := by decide) (k : AW X V σ (pc + 1) st (a0 :: a1 :: a2 :: some (iv x) :: t)) : AW X V σ pc (iv x :: st) (a0 :: a1 :: a2 :: a3 :: t) := by
  obtain ⟨p, l, e, R, s, m, args, below, meth, c, nL, kc, ks, Q⟩ := X
  obtain ⟨hx, hb, hnL, hml, hown, hts, hK, hD, hb0, hZ, hT, hF, hLo, hkc, hks, hNW⟩ := G
  intro H locs ls hP hS hl
  subst hnL
  refine lv_istore_n (lv := lvl 0 (a0 :: a1 :: a2 :: a3 :: t)) hx hb hd rfl hl (hi) rfl fun ls hl => ?_
  exact k H locs ls hP hS (lvl_set (L := a0 :: a1 :: a2 :: a3 :: t) hl (fun j hj => by rw [show j = 2 by omega]; exact hc))
theorem aw_astore_3 {a0 a1 a2 a3 : Option Value} {t : List (Option Value)} {x : Nat} (G : Gd X V cc own n F Lo) (hd : decode cc pc = .ok (.astore_n 3, 1)) (hc : lcat a2 = 1 := by rfl) (hi : 3 < n := by decide) (k : AW X V σ (pc + 1) st (a0 :: a1 :: a2 :: some (rv V x) :: t)) : AW X V σ pc (rv V x :: st) (a0 :: a1 :: a2 :: a3 :: t) := by
  obtain ⟨p, l, e, R, s, m, args, below, meth, c, nL, kc, ks, Q⟩ := X
  obtain ⟨hx, hb, hnL, hml, hown, hts, hK, hD, hb0, hZ, hT, hF, hLo, hkc, hks, hNW⟩ := G
  intro H locs ls hP hS hl
  subst hnL
  refine lv_astore_n (lv := lvl 0 (a0 :: a1 :: a2 :: a3 :: t)) hx hb hd rfl hl (hi) rfl fun ls hl => ?_
  exact k H locs ls hP hS (lvl_set (L := a0 :: a1 :: a2 :: a3 :: t) hl (fun j hj => by rw [show j = 2 by omega]; exact hc))
theorem aw_iinc_3 {a0 a1 a2 a3 : Option Value} {t : List (Option Value)} {x d : Int} (G : Gd X V cc own n F Lo) (hd : decode cc pc = .ok (.iinc 3 d, 3)) (hx0 : a3 = some (iv x)) (hc : lcat a2 = 1 := by rfl) (hi : 3 < n := by decide) (k : AW X V σ (pc + 3) st (a0 :: a1 :: a2 :: some (iv (x + d)) :: t)) : AW X V σ pc st (a0 :: a1 :: a2 :: a3 :: t) := by
  obtain ⟨p, l, e, R, s, m, args, below, meth, c, nL, kc, ks, Q⟩ := X
  obtain ⟨hx, hb, hnL, hml, hown, hts, hK, hD, hb0, hZ, hT, hF, hLo, hkc, hks, hNW⟩ := G
  intro H locs ls hP hS hl
  subst hnL hx0
  obtain ⟨k0, hk0⟩ := List.getElem?_of_mem (lvl_mem (a0 :: a1 :: a2 :: some (iv x) :: t) 0 3 (iv x) rfl)
  refine lv_iinc (k := k0) (v := Int32.ofInt (x + d)) hx hb hd hl hk0 (by rw [Int32.ofInt_add]) hi rfl fun ls hl => ?_
  exact k H locs ls hP hS (lvl_set (L := a0 :: a1 :: a2 :: some (iv x) :: t) hl (fun j hj => by rw [show j = 2 by omega]; exact hc))
theorem aw_istore_4 {a0 a1 a2 a3 a4 : Option Value} {t : List (Option Value)} {x : Int} (G : Gd X V cc own n F Lo) (hd : decode cc pc = .ok (.istore 4, 2)) (hc : lcat a3 = 1 := by rfl) (hi : 4 < n := by decide) (k : AW X V σ (pc + 2) st (a0 :: a1 :: a2 :: a3 :: some (iv x) :: t)) : AW X V σ pc (iv x :: st) (a0 :: a1 :: a2 :: a3 :: a4 :: t) := by
  obtain ⟨p, l, e, R, s, m, args, below, meth, c, nL, kc, ks, Q⟩ := X
  obtain ⟨hx, hb, hnL, hml, hown, hts, hK, hD, hb0, hZ, hT, hF, hLo, hkc, hks, hNW⟩ := G
  intro H locs ls hP hS hl
  subst hnL
  refine lv_istore (lv := lvl 0 (a0 :: a1 :: a2 :: a3 :: a4 :: t)) hx hb hd hl (hi) rfl fun ls hl => ?_
  exact k H locs ls hP hS (lvl_set (L := a0 :: a1 :: a2 :: a3 :: a4 :: t) hl (fun j hj => by rw [show j = 3 by omega]; exact hc))
theorem aw_astore_4 {a0 a1 a2 a3 a4 : Option Value} {t : List (Option Value)} {x : Nat} (G : Gd X V cc own n F Lo) (hd : decode cc pc = .ok (.astore 4, 2)) (hc : lcat a3 = 1 := by rfl) (hi : 4 < n := by decide) (k : AW X V σ (pc + 2) st (a0 :: a1 :: a2 :: a3 :: some (rv V x) :: t)) : AW X V σ pc (rv V x :: st) (a0 :: a1 :: a2 :: a3 :: a4 :: t) := by
  obtain ⟨p, l, e, R, s, m, args, below, meth, c, nL, kc, ks, Q⟩ := X
  obtain ⟨hx, hb, hnL, hml, hown, hts, hK, hD, hb0, hZ, hT, hF, hLo, hkc, hks, hNW⟩ := G
  intro H locs ls hP hS hl
  subst hnL
  refine lv_astore (lv := lvl 0 (a0 :: a1 :: a2 :: a3 :: a4 :: t)) hx hb hd hl (hi) rfl fun ls hl => ?_
  exact k H locs ls hP hS (lvl_set (L := a0 :: a1 :: a2 :: a3 :: a4 :: t) hl (fun j hj => by rw [show j = 3 by omega]; exact hc))
theorem aw_iinc_4 {a0 a1 a2 a3 a4 : Option Value} {t : List (Option Value)} {x d : Int} (G : Gd X V cc own n F Lo) (hd : decode cc pc = .ok (.iinc 4 d, 3)) (hx0 : a4 = some (iv x)) (hc : lcat a3 = 1 := by rfl) (hi : 4 < n := by decide) (k : AW X V σ (pc + 3) st (a0 :: a1 :: a2 :: a3 :: some (iv (x + d)) :: t)) : AW X V σ pc st (a0 :: a1 :: a2 :: a3 :: a4 :: t) := by
  obtain ⟨p, l, e, R, s, m, args, below, meth, c, nL, kc, ks, Q⟩ := X
  obtain ⟨hx, hb, hnL, hml, hown, hts, hK, hD, hb0, hZ, hT, hF, hLo, hkc, hks, hNW⟩ := G
  intro H locs ls hP hS hl
  subst hnL hx0
  obtain ⟨k0, hk0⟩ := List.getElem?_of_mem (lvl_mem (a0 :: a1 :: a2 :: a3 :: some (iv x) :: t) 0 4 (iv x) rfl)
  refine lv_iinc (k := k0) (v := Int32.ofInt (x + d)) hx hb hd hl hk0 (by rw [Int32.ofInt_add]) hi rfl fun ls hl => ?_
  exact k H locs ls hP hS (lvl_set (L := a0 :: a1 :: a2 :: a3 :: some (iv x) :: t) hl (fun j hj => by rw [show j = 3 by omega]; exact hc))
theorem aw_istore_5 {a0 a1 a2 a3 a4 a5 : Option Value} {t : List (Option Value)} {x : Int} (G : Gd X V cc own n F Lo) (hd : decode cc pc = .ok (.istore 5, 2)) (hc : lcat a4 = 1 := by rfl) (hi : 5 < n := by decide) (k : AW X V σ (pc + 2) st (a0 :: a1 :: a2 :: a3 :: a4 :: some (iv x) :: t)) : AW X V σ pc (iv x :: st) (a0 :: a1 :: a2 :: a3 :: a4 :: a5 :: t) := by
  obtain ⟨p, l, e, R, s, m, args, below, meth, c, nL, kc, ks, Q⟩ := X
  obtain ⟨hx, hb, hnL, hml, hown, hts, hK, hD, hb0, hZ, hT, hF, hLo, hkc, hks, hNW⟩ := G
  intro H locs ls hP hS hl
  subst hnL
  refine lv_istore (lv := lvl 0 (a0 :: a1 :: a2 :: a3 :: a4 :: a5 :: t)) hx hb hd hl (hi) rfl fun ls hl => ?_
  exact k H locs ls hP hS (lvl_set (L := a0 :: a1 :: a2 :: a3 :: a4 :: a5 :: t) hl (fun j hj => by rw [show j = 4 by omega]; exact hc))
theorem aw_astore_5 {a0 a1 a2 a3 a4 a5 : Option Value} {t : List (Option Value)} {x : Nat} (G : Gd X V cc own n F Lo) (hd : decode cc pc = .ok (.astore 5, 2)) (hc : lcat a4 = 1 := by rfl) (hi : 5 < n := by decide) (k : AW X V σ (pc + 2) st (a0 :: a1 :: a2 :: a3 :: a4 :: some (rv V x) :: t)) : AW X V σ pc (rv V x :: st) (a0 :: a1 :: a2 :: a3 :: a4 :: a5 :: t) := by
  obtain ⟨p, l, e, R, s, m, args, below, meth, c, nL, kc, ks, Q⟩ := X
  obtain ⟨hx, hb, hnL, hml, hown, hts, hK, hD, hb0, hZ, hT, hF, hLo, hkc, hks, hNW⟩ := G
  intro H locs ls hP hS hl
  subst hnL
  refine lv_astore (lv := lvl 0 (a0 :: a1 :: a2 :: a3 :: a4 :: a5 :: t)) hx hb hd hl (hi) rfl fun ls hl => ?_
  exact k H locs ls hP hS (lvl_set (L := a0 :: a1 :: a2 :: a3 :: a4 :: a5 :: t) hl (fun j hj => by rw [show j = 4 by omega]; exact hc))
theorem aw_iinc_5 {a0 a1 a2 a3 a4 a5 : Option Value} {t : List (Option Value)} {x d : Int} (G : Gd X V cc own n F Lo) (hd : decode cc pc = .ok (.iinc 5 d, 3)) (hx0 : a5 = some (iv x)) (hc : lcat a4 = 1 := by rfl) (hi : 5 < n := by decide) (k : AW X V σ (pc + 3) st (a0 :: a1 :: a2 :: a3 :: a4 :: some (iv (x + d)) :: t)) : AW X V σ pc st (a0 :: a1 :: a2 :: a3 :: a4 :: a5 :: t) := by
  obtain ⟨p, l, e, R, s, m, args, below, meth, c, nL, kc, ks, Q⟩ := X
  obtain ⟨hx, hb, hnL, hml, hown, hts, hK, hD, hb0, hZ, hT, hF, hLo, hkc, hks, hNW⟩ := G
  intro H locs ls hP hS hl
  subst hnL hx0
  obtain ⟨k0, hk0⟩ := List.getElem?_of_mem (lvl_mem (a0 :: a1 :: a2 :: a3 :: a4 :: some (iv x) :: t) 0 5 (iv x) rfl)
  refine lv_iinc (k := k0) (v := Int32.ofInt (x + d)) hx hb hd hl hk0 (by rw [Int32.ofInt_add]) hi rfl fun ls hl => ?_
  exact k H locs ls hP hS (lvl_set (L := a0 :: a1 :: a2 :: a3 :: a4 :: some (iv x) :: t) hl (fun j hj => by rw [show j = 4 by omega]; exact hc))
theorem aw_istore_6 {a0 a1 a2 a3 a4 a5 a6 : Option Value} {t : List (Option Value)} {x : Int} (G : Gd X V cc own n F Lo) (hd : decode cc pc = .ok (.istore 6, 2)) (hc : lcat a5 = 1 := by rfl) (hi : 6 < n := by decide) (k : AW X V σ (pc + 2) st (a0 :: a1 :: a2 :: a3 :: a4 :: a5 :: some (iv x) :: t)) : AW X V σ pc (iv x :: st) (a0 :: a1 :: a2 :: a3 :: a4 :: a5 :: a6 :: t) := by
  obtain ⟨p, l, e, R, s, m, args, below, meth, c, nL, kc, ks, Q⟩ := X
  obtain ⟨hx, hb, hnL, hml, hown, hts, hK, hD, hb0, hZ, hT, hF, hLo, hkc, hks, hNW⟩ := G
  intro H locs ls hP hS hl
  subst hnL
  refine lv_istore (lv := lvl 0 (a0 :: a1 :: a2 :: a3 :: a4 :: a5 :: a6 :: t)) hx hb hd hl (hi) rfl fun ls hl => ?_
  exact k H locs ls hP hS (lvl_set (L := a0 :: a1 :: a2 :: a3 :: a4 :: a5 :: a6 :: t) hl (fun j hj => by rw [show j = 5 by omega]; exact hc))
theorem aw_astore_6 {a0 a1 a2 a3 a4 a5 a6 : Option Value} {t : List (Option Value)} {x : Nat} (G : Gd X V cc own n F Lo) (hd : decode cc pc = .ok (.astore 6, 2)) (hc : lcat a5 = 1 := by rfl) (hi : 6 < n := by decide) (k : AW X V σ (pc + 2) st (a0 :: a1 :: a2 :: a3 :: a4 :: a5 :: some (rv V x) :: t)) : AW X V σ pc (rv V x :: st) (a0 :: a1 :: a2 :: a3 :: a4 :: a5 :: a6 :: t) := by
  obtain ⟨p, l, e, R, s, m, args, below, meth, c, nL, kc, ks, Q⟩ := X
  obtain ⟨hx, hb, hnL, hml, hown, hts, hK, hD, hb0, hZ, hT, hF, hLo, hkc, hks, hNW⟩ := G
  intro H locs ls hP hS hl
  subst hnL
  refine lv_astore (lv := lvl 0 (a0 :: a1 :: a2 :: a3 :: a4 :: a5 :: a6 :: t)) hx hb hd hl (hi) rfl fun ls hl => ?_
  exact k H locs ls hP hS (lvl_set (L := a0 :: a1 :: a2 :: a3 :: a4 :: a5 :: a6 :: t) hl (fun j hj => by rw [show j = 5 by omega]; exact hc))
theorem aw_iinc_6 {a0 a1 a2 a3 a4 a5 a6 : Option Value} {t : List (Option Value)} {x d : Int} (G : Gd X V cc own n F Lo) (hd : decode cc pc = .ok (.iinc 6 d, 3)) (hx0 : a6 = some (iv x)) (hc : lcat a5 = 1 := by rfl) (hi : 6 < n := by decide) (k : AW X V σ (pc + 3) st (a0 :: a1 :: a2 :: a3 :: a4 :: a5 :: some (iv (x + d)) :: t)) : AW X V σ pc st (a0 :: a1 :: a2 :: a3 :: a4 :: a5 :: a6 :: t) := by
  obtain ⟨p, l, e, R, s, m, args, below, meth, c, nL, kc, ks, Q⟩ := X
  obtain ⟨hx, hb, hnL, hml, hown, hts, hK, hD, hb0, hZ, hT, hF, hLo, hkc, hks, hNW⟩ := G
  intro H locs ls hP hS hl
  subst hnL hx0
  obtain ⟨k0, hk0⟩ := List.getElem?_of_mem (lvl_mem (a0 :: a1 :: a2 :: a3 :: a4 :: a5 :: some (iv x) :: t) 0 6 (iv x) rfl)
  refine lv_iinc (k := k0) (v := Int32.ofInt (x + d)) hx hb hd hl hk0 (by rw [Int32.ofInt_add]) hi rfl fun ls hl => ?_
  exact k H locs ls hP hS (lvl_set (L := a0 :: a1 :: a2 :: a3 :: a4 :: a5 :: some (iv x) :: t) hl (fun j hj => by rw [show j = 5 by omega]; exact hc))
theorem aw_istore_7 {a0 a1 a2 a3 a4 a5 a6 a7 : Option Value} {t : List (Option Value)} {x : Int} (G : Gd X V cc own n F Lo) (hd : decode cc pc = .ok (.istore 7, 2)) (hc : lcat a6 = 1 := by rfl) (hi : 7 < n := by decide) (k : AW X V σ (pc + 2) st (a0 :: a1 :: a2 :: a3 :: a4 :: a5 :: a6 :: some (iv x) :: t)) : AW X V σ pc (iv x :: st) (a0 :: a1 :: a2 :: a3 :: a4 :: a5 :: a6 :: a7 :: t) := by
  obtain ⟨p, l, e, R, s, m, args, below, meth, c, nL, kc, ks, Q⟩ := X
  obtain ⟨hx, hb, hnL, hml, hown, hts, hK, hD, hb0, hZ, hT, hF, hLo, hkc, hks, hNW⟩ := G
  intro H locs ls hP hS hl
  subst hnL
  refine lv_istore (lv := lvl 0 (a0 :: a1 :: a2 :: a3 :: a4 :: a5 :: a6 :: a7 :: t)) hx hb hd hl (hi) rfl fun ls hl => ?_
  exact k H locs ls hP hS (lvl_set (L := a0 :: a1 :: a2 :: a3 :: a4 :: a5 :: a6 :: a7 :: t) hl (fun j hj => by rw [show j = 6 by omega]; exact hc))
theorem aw_astore_7 {a0 a1 a2 a3 a4 a5 a6 a7 : Option Value} {t : List (Option Value)} {x : Nat} (G : Gd X V cc own n F Lo) (hd : decode cc pc = .ok (.astore 7, 2)) (hc : lcat a6 = 1 := by rfl) (hi : 7 < n := by decide) (k : AW X V σ (pc + 2) st (a0 :: a1 :: a2 :: a3 :: a4 :: a5 :: a6 :: some (rv V x) :: t)) : AW X V σ pc (rv V x :: st) (a0 :: a1 :: a2 :: a3 :: a4 :: a5 :: a6 :: a7 :: t) := by
  obtain ⟨p, l, e, R, s, m, args, below, meth, c, nL, kc, ks, Q⟩ := X
  obtain ⟨hx, hb, hnL, hml, hown, hts, hK, hD, hb0, hZ, hT, hF, hLo, hkc, hks, hNW⟩ := G
  intro H locs ls hP hS hl
  subst hnL
  refine lv_astore (lv := lvl 0 (a0 :: a1 :: a2 :: a3 :: a4 :: a5 :: a6 :: a7 :: t)) hx hb hd hl (hi) rfl fun ls hl => ?_
  exact k H locs ls hP hS (lvl_set (L := a0 :: a1 :: a2 :: a3 :: a4 :: a5 :: a6 :: a7 :: t) hl (fun j hj => by rw [show j = 6 by omega]; exact hc))
theorem aw_iinc_7 {a0 a1 a2 a3 a4 a5 a6 a7 : Option Value} {t : List (Option Value)} {x d : Int} (G : Gd X V cc own n F Lo) (hd : decode cc pc = .ok (.iinc 7 d, 3)) (hx0 : a7 = some (iv x)) (hc : lcat a6 = 1 := by rfl) (hi : 7 < n := by decide) (k : AW X V σ (pc + 3) st (a0 :: a1 :: a2 :: a3 :: a4 :: a5 :: a6 :: some (iv (x + d)) :: t)) : AW X V σ pc st (a0 :: a1 :: a2 :: a3 :: a4 :: a5 :: a6 :: a7 :: t) := by
  obtain ⟨p, l, e, R, s, m, args, below, meth, c, nL, kc, ks, Q⟩ := X
  obtain ⟨hx, hb, hnL, hml, hown, hts, hK, hD, hb0, hZ, hT, hF, hLo, hkc, hks, hNW⟩ := G
  intro H locs ls hP hS hl
  subst hnL hx0
  obtain ⟨k0, hk0⟩ := List.getElem?_of_mem (lvl_mem (a0 :: a1 :: a2 :: a3 :: a4 :: a5 :: a6 :: some (iv x) :: t) 0 7 (iv x) rfl)
  refine lv_iinc (k := k0) (v := Int32.ofInt (x + d)) hx hb hd hl hk0 (by rw [Int32.ofInt_add]) hi rfl fun ls hl => ?_
  exact k H locs ls hP hS (lvl_set (L := a0 :: a1 :: a2 :: a3 :: a4 :: a5 :: a6 :: some (iv x) :: t) hl (fun j hj => by rw [show j = 6 by omega]; exact hc))
theorem aw_istore_8 {a0 a1 a2 a3 a4 a5 a6 a7 a8 : Option Value} {t : List (Option Value)} {x : Int} (G : Gd X V cc own n F Lo) (hd : decode cc pc = .ok (.istore 8, 2)) (hc : lcat a7 = 1 := by rfl) (hi : 8 < n := by decide) (k : AW X V σ (pc + 2) st (a0 :: a1 :: a2 :: a3 :: a4 :: a5 :: a6 :: a7 :: some (iv x) :: t)) : AW X V σ pc (iv x :: st) (a0 :: a1 :: a2 :: a3 :: a4 :: a5 :: a6 :: a7 :: a8 :: t) := by
  obtain ⟨p, l, e, R, s, m, args, below, meth, c, nL, kc, ks, Q⟩ := X
  obtain ⟨hx, hb, hnL, hml, hown, hts, hK, hD, hb0, hZ, hT, hF, hLo, hkc, hks, hNW⟩ := G
  intro H locs ls hP hS hl
  subst hnL
  refine lv_istore (lv := lvl 0 (a0 :: a1 :: a2 :: a3 :: a4 :: a5 :: a6 :: a7 :: a8 :: t)) hx hb hd hl (hi) rfl fun ls hl => ?_
  exact k H locs ls hP hS (lvl_set (L := a0 :: a1 :: a2 :: a3 :: a4 :: a5 :: a6 :: a7 :: a8 :: t) hl (fun j hj => by rw [show j = 7 by omega]; exact hc))
theorem aw_astore_8 {a0 a1 a2 a3 a4 a5 a6 a7 a8 : Option Value} {t : List (Option Value)} {x : Nat} (G : Gd X V cc own n F Lo) (hd : decode cc pc = .ok (.astore 8, 2)) (hc : lcat a7 = 1 := by rfl) (hi : 8 < n := by decide) (k : AW X V σ (pc + 2) st (a0 :: a1 :: a2 :: a3 :: a4 :: a5 :: a6 :: a7 :: some (rv V x) :: t)) : AW X V σ pc (rv V x :: st) (a0 :: a1 :: a2 :: a3 :: a4 :: a5 :: a6 :: a7 :: a8 :: t) := by
  obtain ⟨p, l, e, R, s, m, args, below, meth, c, nL, kc, ks, Q⟩ := X
  obtain ⟨hx, hb, hnL, hml, hown, hts, hK, hD, hb0, hZ, hT, hF, hLo, hkc, hks, hNW⟩ := G
  intro H locs ls hP hS hl
  subst hnL
  refine lv_astore (lv := lvl 0 (a0 :: a1 :: a2 :: a3 :: a4 :: a5 :: a6 :: a7 :: a8 :: t)) hx hb hd hl (hi) rfl fun ls hl => ?_
  exact k H locs ls hP hS (lvl_set (L := a0 :: a1 :: a2 :: a3 :: a4 :: a5 :: a6 :: a7 :: a8 :: t) hl (fun j hj => by rw [show j = 7 by omega]; exact hc))
theorem aw_iinc_8 {a0 a1 a2 a3 a4 a5 a6 a7 a8 : Option Value} {t : List (Option Value)} {x d : Int} (G : Gd X V cc own n F Lo) (hd : decode cc pc = .ok (.iinc 8 d, 3)) (hx0 : a8 = some (iv x)) (hc : lcat a7 = 1 := by rfl) (hi : 8 < n := by decide) (k : AW X V σ (pc + 3) st (a0 :: a1 :: a2 :: a3 :: a4 :: a5 :: a6 :: a7 :: some (iv (x + d)) :: t)) : AW X V σ pc st (a0 :: a1 :: a2 :: a3 :: a4 :: a5 :: a6 :: a7 :: a8 :: t) := by
  obtain ⟨p, l, e, R, s, m, args, below, meth, c, nL, kc, ks, Q⟩ := X
  obtain ⟨hx, hb, hnL, hml, hown, hts, hK, hD, hb0, hZ, hT, hF, hLo, hkc, hks, hNW⟩ := G
  intro H locs ls hP hS hl
  subst hnL hx0
  obtain ⟨k0, hk0⟩ := List.getElem?_of_mem (lvl_mem (a0 :: a1 :: a2 :: a3 :: a4 :: a5 :: a6 :: a7 :: some (iv x) :: t) 0 8 (iv x) rfl)
  refine lv_iinc (k := k0) (v := Int32.ofInt (x + d)) hx hb hd hl hk0 (by rw [Int32.ofInt_add]) hi rfl fun ls hl => ?_
  exact k H locs ls hP hS (lvl_set (L := a0 :: a1 :: a2 :: a3 :: a4 :: a5 :: a6 :: a7 :: some (iv x) :: t) hl (fun j hj => by rw [show j = 7 by omega]; exact hc))
theorem aw_istore_9 {a0 a1 a2 a3 a4 a5 a6 a7 a8 a9 : Option Value} {t : List (Option Value)} {x : Int} (G : Gd X V cc own n F Lo) (hd : decode cc pc = .ok (.istore 9, 2)) (hc : lcat a8 = 1 := by rfl) (hi : 9 < n := by decide) (k : AW X V σ (pc + 2) st (a0 :: a1 :: a2 :: a3 :: a4 :: a5 :: a6 :: a7 :: a8 :: some (iv x) :: t)) : AW X V σ pc (iv x :: st) (a0 :: a1 :: a2 :: a3 :: a4 :: a5 :: a6 :: a7 :: a8 :: a9 :: t) := by
  obtain ⟨p, l, e, R, s, m, args, below, meth, c, nL, kc, ks, Q⟩ := X
  obtain ⟨hx, hb, hnL, hml, hown, hts, hK, hD, hb0, hZ, hT, hF, hLo, hkc, hks, hNW⟩ := G
  intro H locs ls hP hS hl
  subst hnL
  refine lv_istore (lv := lvl 0 (a0 :: a1 :: a2 :: a3 :: a4 :: a5 :: a6 :: a7 :: a8 :: a9 :: t)) hx hb hd hl (hi) rfl fun ls hl => ?_
  exact k H locs ls hP hS (lvl_set (L := a0 :: a1 :: a2 :: a3 :: a4 :: a5 :: a6 :: a7 :: a8 :: a9 :: t) hl (fun j hj => by rw [show j = 8 by omega]; exact hc))
theorem aw_astore_9 {a0 a1 a2 a3 a4 a5 a6 a7 a8 a9 : Option Value} {t : List (Option Value)} {x : Nat} (G : Gd X V cc own n F Lo) (hd : decode cc pc = .ok (.astore 9, 2)) (hc : lcat a8 = 1 := by rfl) (hi : 9 < n := by decide) (k : AW X V σ (pc + 2) st (a0 :: a1 :: a2 :: a3 :: a4 :: a5 :: a6 :: a7 :: a8 :: some (rv V x) :: t)) : AW X V σ pc (rv V x :: st) (a0 :: a1 :: a2 :: a3 :: a4 :: a5 :: a6 :: a7 :: a8 :: a9 :: t) := by
  obtain ⟨p, l, e, R, s, m, args, below, meth, c, nL, kc, ks, Q⟩ := X
  obtain ⟨hx, hb, hnL, hml, hown, hts, hK, hD, hb0, hZ, hT, hF, hLo, hkc, hks, hNW⟩ := G
  intro H locs ls hP hS hl
  subst hnL
  refine lv_astore (lv := lvl 0 (a0 :: a1 :: a2 :: a3 :: a4 :: a5 :: a6 :: a7 :: a8 :: a9 :: t)) hx hb hd hl (hi) rfl fun ls hl => ?_
  exact k H locs ls hP hS (lvl_set (L := a0 :: a1 :: a2 :: a3 :: a4 :: a5 :: a6 :: a7 :: a8 :: a9 :: t) hl (fun j hj => by rw [show j = 8 by omega]; exact hc))
theorem aw_iinc_9 {a0 a1 a2 a3 a4 a5 a6 a7 a8 a9 : Option Value} {t : List (Option Value)} {x d : Int} (G : Gd X V cc own n F Lo) (hd : decode cc pc = .ok (.iinc 9 d, 3)) (hx0 : a9 = some (iv x)) (hc : lcat a8 = 1 := by rfl) (hi : 9 < n := by decide) (k : AW X V σ (pc + 3) st (a0 :: a1 :: a2 :: a3 :: a4 :: a5 :: a6 :: a7 :: a8 :: some (iv (x + d)) :: t)) : AW X V σ pc st (a0 :: a1 :: a2 :: a3 :: a4 :: a5 :: a6 :: a7 :: a8 :: a9 :: t) := by
  obtain ⟨p, l, e, R, s, m, args, below, meth, c, nL, kc, ks, Q⟩ := X
  obtain ⟨hx, hb, hnL, hml, hown, hts, hK, hD, hb0, hZ, hT, hF, hLo, hkc, hks, hNW⟩ := G
  intro H locs ls hP hS hl
  subst hnL hx0
  obtain ⟨k0, hk0⟩ := List.getElem?_of_mem (lvl_mem (a0 :: a1 :: a2 :: a3 :: a4 :: a5 :: a6 :: a7 :: a8 :: some (iv x) :: t) 0 9 (iv x) rfl)
  refine lv_iinc (k := k0) (v := Int32.ofInt (x + d)) hx hb hd hl hk0 (by rw [Int32.ofInt_add]) hi rfl fun ls hl => ?_
  exact k H locs ls hP hS (lvl_set (L := a0 :: a1 :: a2 :: a3 :: a4 :: a5 :: a6 :: a7 :: a8 :: some (iv x) :: t) hl (fun j hj => by rw [show j = 8 by omega]; exact hc))
theorem aw_istore_10 {a0 a1 a2 a3 a4 a5 a6 a7 a8 a9 a10 : Option Value} {t : List (Option Value)} {x : Int} (G : Gd X V cc own n F Lo) (hd : decode cc pc = .ok (.istore 10, 2)) (hc : lcat a9 = 1 := by rfl) (hi : 10 < n := by decide) (k : AW X V σ (pc + 2) st (a0 :: a1 :: a2 :: a3 :: a4 :: a5 :: a6 :: a7 :: a8 :: a9 :: some (iv x) :: t)) : AW X V σ pc (iv x :: st) (a0 :: a1 :: a2 :: a3 :: a4 :: a5 :: a6 :: a7 :: a8 :: a9 :: a10 :: t) := by
  obtain ⟨p, l, e, R, s, m, args, below, meth, c, nL, kc, ks, Q⟩ := X
  obtain ⟨hx, hb, hnL, hml, hown, hts, hK, hD, hb0, hZ, hT, hF, hLo, hkc, hks, hNW⟩ := G
  intro H locs ls hP hS hl
  subst hnL
  refine lv_istore (lv := lvl 0 (a0 :: a1 :: a2 :: a3 :: a4 :: a5 :: a6 :: a7 :: a8 :: a9 :: a10 :: t)) hx hb hd hl (hi) rfl fun ls hl => ?_
  exact k H locs ls hP hS (lvl_set (L := a0 :: a1 :: a2 :: a3 :: a4 :: a5 :: a6 :: a7 :: a8 :: a9 :: a10 :: t) hl (fun j hj => by rw [show j = 9 by omega]; exact hc))
theorem aw_astore_10 {a0 a1 a2 a3 a4 a5 a6 a7 a8 a9 a10 : Option Value} {t : List (Option Value)} {x : Nat} (G : Gd X V cc own n F Lo) (hd : decode cc pc = .ok (.astore 10, 2)) (hc : lcat a9 = 1 := by rfl) (hi : 10 < n := by decide) (k : AW X V σ (pc + 2) st (a0 :: a1 :: a2 :: a3 :: a4 :: a5 :: a6 :: a7 :: a8 :: a9 :: some (rv V x) :: t)) : AW X V σ pc (rv V x :: st) (a0 :: a1 :: a2 :: a3 :: a4 :: a5 :: a6 :: a7 :: a8 :: a9 :: a10 :: t) := by
  obtain ⟨p, l, e, R, s, m, args, below, meth, c, nL, kc, ks, Q⟩ := X
  obtain ⟨hx, hb, hnL, hml, hown, hts, hK, hD, hb0, hZ, hT, hF, hLo, hkc, hks, hNW⟩ := G
  intro H locs ls hP hS hl
  subst hnL
  refine lv_astore (lv := lvl 0 (a0 :: a1 :: a2 :: a3 :: a4 :: a5 :: a6 :: a7 :: a8 :: a9 :: a10 :: t)) hx hb hd hl (hi) rfl fun ls hl => ?_
  exact k H locs ls hP hS (lvl_set (L := a0 :: a1 :: a2 :: a3 :: a4 :: a5 :: a6 :: a7 :: a8 :: a9 :: a10 :: t) hl (fun j hj => by rw [show j = 9 by omega]; exact hc))
theorem aw_iinc_10 {a0 a1 a2 a3 a4 a5 a6 a7 a8 a9 a10 : Option Value} {t : List (Option Value)} {x d : Int} (G : Gd X V cc own n F Lo) (hd : decode cc pc = .ok (.iinc 10 d, 3)) (hx0 : a10 = some (iv x)) (hc : lcat a9 = 1 := by rfl) (hi : 10 < n := by decide) (k : AW X V σ (pc + 3) st (a0 :: a1 :: a2 :: a3 :: a4 :: a5 :: a6 :: a7 :: a8 :: a9 :: some (iv (x + d)) :: t)) : AW X V σ pc st (a0 :: a1 :: a2 :: a3 :: a4 :: a5 :: a6 :: a7 :: a8 :: a9 :: a10 :: t) := by
  obtain ⟨p, l, e, R, s, m, args, below, meth, c, nL, kc, ks, Q⟩ := X
  obtain ⟨hx, hb, hnL, hml, hown, hts, hK, hD, hb0, hZ, hT, hF, hLo, hkc, hks, hNW⟩ := G
  intro H locs ls hP hS hl
  subst hnL hx0
  obtain ⟨k0, hk0⟩ := List.getElem?_of_mem (lvl_mem (a0 :: a1 :: a2 :: a3 :: a4 :: a5 :: a6 :: a7 :: a8 :: a9 :: some (iv x) :: t) 0 10 (iv x) rfl)
  refine lv_iinc (k := k0) (v := Int32.ofInt (x + d)) hx hb hd hl hk0 (by rw [Int32.ofInt_add]) hi rfl fun ls hl => ?_
  exact k H locs ls hP hS (lvl_set (L := a0 :: a1 :: a2 :: a3 :: a4 :: a5 :: a6 :: a7 :: a8 :: a9 :: some (iv x) :: t) hl (fun j hj => by rw [show j = 9 by omega]; exact hc))
theorem aw_istore_11 {a0 a1 a2 a3 a4 a5 a6 a7 a8 a9 a10 a11 : Option Value} {t : List (Option Value)} {x : Int} (G : Gd X V cc own n F Lo) (hd : decode cc pc = .ok (.istore 11, 2)) (hc : lcat a10 = 1 := by rfl) (hi : 11 < n := by decide) (k : AW X V σ (pc + 2) st (a0 :: a1 :: a2 :: a3 :: a4 :: a5 :: a6 :: a7 :: a8 :: a9 :: a10 :: some (iv x) :: t)) : AW X V σ pc (iv x :: st) (a0 :: a1 :: a2 :: a3 :: a4 :: a5 :: a6 :: a7 :: a8 :: a9 :: a10 :: a11 :: t) := by
  obtain ⟨p, l, e, R, s, m, args, below, meth, c, nL, kc, ks, Q⟩ := X
  obtain ⟨hx, hb, hnL, hml, hown, hts, hK, hD, hb0, hZ, hT, hF, hLo, hkc, hks, hNW⟩ := G
  intro H locs ls hP hS hl
  subst hnL
  refine lv_istore (lv := lvl 0 (a0 :: a1 :: a2 :: a3 :: a4 :: a5 :: a6 :: a7 :: a8 :: a9 :: a10 :: a11 :: t)) hx hb hd hl (hi) rfl fun ls hl => ?_
  exact k H locs ls hP hS (lvl_set (L := a0 :: a1 :: a2 :: a3 :: a4 :: a5 :: a6 :: a7 :: a8 :: a9 :: a10 :: a11 :: t) hl (fun j hj => by rw [show j = 10 by omega]; exact hc))
theorem aw_astore_11 {a0 a1 a2 a3 a4 a5 a6 a7 a8 a9 a10 a11 : Option Value} {t : List (Option Value)} {x : Nat} (G : Gd X V cc own n F Lo) (hd : decode cc pc = .ok (.astore 11, 2)) (hc : lcat a10 = 1 := by rfl) (hi : 11 < n := by decide) (k : AW X V σ (pc + 2) st (a0 :: a1 :: a2 :: a3 :: a4 :: a5 :: a6 :: a7 :: a8 :: a9 :: a10 :: some (rv V x) :: t)) : AW X V σ pc (rv V x :: st) (a0 :: a1 :: a2 :: a3 :: a4 :: a5 :: a6 :: a7 :: a8 :: a9 :: a10 :: a11 :: t) := by
  obtain ⟨p, l, e, R, s, m, args, below, meth, c, nL, kc, ks, Q⟩ := X
  obtain ⟨hx, hb, hnL, hml, hown, hts, hK, hD, hb0, hZ, hT, hF, hLo, hkc, hks, hNW⟩ := G
  intro H locs ls hP hS hl
  subst hnL
  refine lv_astore (lv := lvl 0 (a0 :: a1 :: a2 :: a3 :: a4 :: a5 :: a6 :: a7 :: a8 :: a9 :: a10 :: a11 :: t)) hx hb hd hl (hi) rfl fun ls hl => ?_
  exact k H locs ls hP hS (lvl_set (L := a0 :: a1 :: a2 :: a3 :: a4 :: a5 :: a6 :: a7 :: a8 :: a9 :: a10 :: a11 :: t) hl (fun j hj => by rw [show j = 10 by omega]; exact hc))
theorem aw_iinc_11 {a0 a1 a2 a3 a4 a5 a6 a7 a8 a9 a10 a11 : Option Value} {t : List (Option Value)} {x d : Int} (G : Gd X V cc own n F Lo) (hd : decode cc pc = .ok (.iinc 11 d, 3)) (hx0 : a11 = some (iv x)) (hc : lcat a10 = 1 := by rfl) (hi : 11 < n := by decide) (k : AW X V σ (pc + 3) st (a0 :: a1 :: a2 :: a3 :: a4 :: a5 :: a6 :: a7 :: a8 :: a9 :: a10 :: some (iv (x + d)) :: t)) : AW X V σ pc st (a0 :: a1 :: a2 :: a3 :: a4 :: a5 :: a6 :: a7 :: a8 :: a9 :: a10 :: a11 :: t) := by
  obtain ⟨p, l, e, R, s, m, args, below, meth, c, nL, kc, ks, Q⟩ := X
  obtain ⟨hx, hb, hnL, hml, hown, hts, hK, hD, hb0, hZ, hT, hF, hLo, hkc, hks, hNW⟩ := G
  intro H locs ls hP hS hl
  subst hnL hx0
  obtain ⟨k0, hk0⟩ := List.getElem?_of_mem (lvl_mem (a0 :: a1 :: a2 :: a3 :: a4 :: a5 :: a6 :: a7 :: a8 :: a9 :: a10 :: some (iv x) :: t) 0 11 (iv x) rfl)
  refine lv_iinc (k := k0) (v := Int32.ofInt (x + d)) hx hb hd hl hk0 (by rw [Int32.ofInt_add]) hi rfl fun ls hl => ?_
  exact k H locs ls hP hS (lvl_set (L := a0 :: a1 :: a2 :: a3 :: a4 :: a5 :: a6 :: a7 :: a8 :: a9 :: a10 :: some (iv x) :: t) hl (fun j hj => by rw [show j = 10 by omega]; exact hc))
theorem aw_lstore_0 {a0 a1 : Option Value} {t : List (Option Value)} {x : Int} (G : Gd X V cc own n F Lo) (hd : decode cc pc = .ok (.lstore_n 0, 1)) (hi : 0 + 1 < n := by decide) (k : AW X V σ (pc + 1) st (some (jv x) :: none :: t)) : AW X V σ pc (jv x :: st) (a0 :: a1 :: t) := by
  obtain ⟨p, l, e, R, s, m, args, below, meth, c, nL, kc, ks, Q⟩ := X
  obtain ⟨hx, hb, hnL, hml, hown, hts, hK, hD, hb0, hZ, hT, hF, hLo, hkc, hks, hNW⟩ := G
  intro H locs ls hP hS hl
  subst hnL
  refine lv_lstore_n (lv := lvl 0 (a0 :: a1 :: t)) hx hb hd rfl hl hi rfl fun ls hl => ?_
  exact k H locs ls hP hS (lvl_set2 (L := a0 :: a1 :: t) hl (fun j hj => by omega))
theorem aw_lstore_1 {a0 a1 a2 : Option Value} {t : List (Option Value)} {x : Int} (G : Gd X V cc own n F Lo) (hd : decode cc pc = .ok (.lstore_n 1, 1)) (hc : lcat a0 = 1 := by rfl) (hi : 1 + 1 < n := by decide) (k : AW X V σ (pc + 1) st (a0 :: some (jv x) :: none :: t)) : AW X V σ pc (jv x :: st) (a0 :: a1 :: a2 :: t) := by
  obtain ⟨p, l, e, R, s, m, args, below, meth, c, nL, kc, ks, Q⟩ := X
  obtain ⟨hx, hb, hnL, hml, hown, hts, hK, hD, hb0, hZ, hT, hF, hLo, hkc, hks, hNW⟩ := G
  intro H locs ls hP hS hl
  subst hnL
  refine lv_lstore_n (lv := lvl 0 (a0 :: a1 :: a2 :: t)) hx hb hd rfl hl hi rfl fun ls hl => ?_
  exact k H locs ls hP hS (lvl_set2 (L := a0 :: a1 :: a2 :: t) hl (fun j hj => by rw [show j = 0 by omega]; exact hc))
theorem aw_lstore_2 {a0 a1 a2 a3 : Option Value} {t : List (Option Value)} {x : Int} (G : Gd X V cc own n F Lo) (hd : decode cc pc = .ok (.lstore_n 2, 1)) (hc : lcat a1 = 1 := by rfl) (hi : 2 + 1 < n := by decide) (k : AW X V σ (pc + 1) st (a0 :: a1 :: some (jv x) :: none :: t)) : AW X V σ pc (jv x :: st) (a0 :: a1 :: a2 :: a3 :: t) := by
  obtain ⟨p, l, e, R, s, m, args, below, meth, c, nL, kc, ks, Q⟩ := X
  obtain ⟨hx, hb, hnL, hml, hown, hts, hK, hD, hb0, hZ, hT, hF, hLo, hkc, hks, hNW⟩ := G
  intro H locs ls hP hS hl
  subst hnL
  refine lv_lstore_n (lv := lvl 0 (a0 :: a1 :: a2 :: a3 :: t)) hx hb hd rfl hl hi rfl fun ls hl => ?_
  exact k H locs ls hP hS (lvl_set2 (L := a0 :: a1 :: a2 :: a3 :: t) hl (fun j hj => by rw [show j = 1 by omega]; exact hc))
theorem aw_lstore_3 {a0 a1 a2 a3 a4 : Option Value} {t : List (Option Value)} {x : Int} (G : Gd X V cc own n F Lo) (hd : decode cc pc = .ok (.lstore_n 3, 1)) (hc : lcat a2 = 1 := by rfl) (hi : 3 + 1 < n := by decide) (k : AW X V σ (pc + 1) st (a0 :: a1 :: a2 :: some (jv x) :: none :: t)) : AW X V σ pc (jv x :: st) (a0 :: a1 :: a2 :: a3 :: a4 :: t) := by
  obtain ⟨p, l, e, R, s, m, args, below, meth, c, nL, kc, ks, Q⟩ := X
  obtain ⟨hx, hb, hnL, hml, hown, hts, hK, hD, hb0, hZ, hT, hF, hLo, hkc, hks, hNW⟩ := G
  intro H locs ls hP hS hl
  subst hnL
  refine lv_lstore_n (lv := lvl 0 (a0 :: a1 :: a2 :: a3 :: a4 :: t)) hx hb hd rfl hl hi rfl fun ls hl => ?_
  exact k H locs ls hP hS (lvl_set2 (L := a0 :: a1 :: a2 :: a3 :: a4 :: t) hl (fun j hj => by rw [show j = 2 by omega]; exact hc))
theorem aw_lstore_4 {a0 a1 a2 a3 a4 a5 : Option Value} {t : List (Option Value)} {x : Int} (G : Gd X V cc own n F Lo) (hd : decode cc pc = .ok (.lstore 4, 2)) (hc : lcat a3 = 1 := by rfl) (hi : 4 + 1 < n := by decide) (k : AW X V σ (pc + 2) st (a0 :: a1 :: a2 :: a3 :: some (jv x) :: none :: t)) : AW X V σ pc (jv x :: st) (a0 :: a1 :: a2 :: a3 :: a4 :: a5 :: t) := by
  obtain ⟨p, l, e, R, s, m, args, below, meth, c, nL, kc, ks, Q⟩ := X
  obtain ⟨hx, hb, hnL, hml, hown, hts, hK, hD, hb0, hZ, hT, hF, hLo, hkc, hks, hNW⟩ := G
  intro H locs ls hP hS hl
  subst hnL
  refine lv_lstore (lv := lvl 0 (a0 :: a1 :: a2 :: a3 :: a4 :: a5 :: t)) hx hb hd hl hi rfl fun ls hl => ?_
  exact k H locs ls hP hS (lvl_set2 (L := a0 :: a1 :: a2 :: a3 :: a4 :: a5 :: t) hl (fun j hj => by rw [show j = 3 by omega]; exact hc))
theorem aw_lstore_5 {a0 a1 a2 a3 a4 a5 a6 : Option Value} {t : List (Option Value)} {x : Int} (G : Gd X V cc own n F Lo) (hd : decode cc pc = .ok (.lstore 5, 2)) (hc : lcat a4 = 1 := by rfl) (hi : 5 + 1 < n := by decide) (k : AW X V σ (pc + 2) st (a0 :: a1 :: a2 :: a3 :: a4 :: some (jv x) :: none :: t)) : AW X V σ pc (jv x :: st) (a0 :: a1 :: a2 :: a3 :: a4 :: a5 :: a6 :: t) := by
  obtain ⟨p, l, e, R, s, m, args, below, meth, c, nL, kc, ks, Q⟩ := X
  obtain ⟨hx, hb, hnL, hml, hown, hts, hK, hD, hb0, hZ, hT, hF, hLo, hkc, hks, hNW⟩ := G
  intro H locs ls hP hS hl
  subst hnL
  refine lv_lstore (lv := lvl 0 (a0 :: a1 :: a2 :: a3 :: a4 :: a5 :: a6 :: t)) hx hb hd hl hi rfl fun ls hl => ?_
  exact k H locs ls hP hS (lvl_set2 (L := a0 :: a1 :: a2 :: a3 :: a4 :: a5 :: a6 :: t) hl (fun j hj => by rw [show j = 4 by omega]; exact hc))
theorem aw_lstore_6 {a0 a1 a2 a3 a4 a5 a6 a7 : Option Value} {t : List (Option Value)} {x : Int} (G : Gd X V cc own n F Lo) (hd : decode cc pc = .ok (.lstore 6, 2)) (hc : lcat a5 = 1 := by rfl) (hi : 6 + 1 < n := by decide) (k : AW X V σ (pc + 2) st (a0 :: a1 :: a2 :: a3 :: a4 :: a5 :: some (jv x) :: none :: t)) : AW X V σ pc (jv x :: st) (a0 :: a1 :: a2 :: a3 :: a4 :: a5 :: a6 :: a7 :: t) := by
  obtain ⟨p, l, e, R, s, m, args, below, meth, c, nL, kc, ks, Q⟩ := X
  obtain ⟨hx, hb, hnL, hml, hown, hts, hK, hD, hb0, hZ, hT, hF, hLo, hkc, hks, hNW⟩ := G
  intro H locs ls hP hS hl
  subst hnL
  refine lv_lstore (lv := lvl 0 (a0 :: a1 :: a2 :: a3 :: a4 :: a5 :: a6 :: a7 :: t)) hx hb hd hl hi rfl fun ls hl => ?_
  exact k H locs ls hP hS (lvl_set2 (L := a0 :: a1 :: a2 :: a3 :: a4 :: a5 :: a6 :: a7 :: t) hl (fun j hj => by rw [show j = 5 by omega]; exact hc))
theorem aw_lstore_7 {a0 a1 a2 a3 a4 a5 a6 a7 a8 : Option Value} {t : List (Option Value)} {x : Int} (G : Gd X V cc own n F Lo) (hd : decode cc pc = .ok (.lstore 7, 2)) (hc : lcat a6 = 1 := by rfl) (hi : 7 + 1 < n := by decide) (k : AW X V σ (pc + 2) st (a0 :: a1 :: a2 :: a3 :: a4 :: a5 :: a6 :: some (jv x) :: none :: t)) : AW X V σ pc (jv x :: st) (a0 :: a1 :: a2 :: a3 :: a4 :: a5 :: a6 :: a7 :: a8 :: t) := by
  obtain ⟨p, l, e, R, s, m, args, below, meth, c, nL, kc, ks, Q⟩ := X
  obtain ⟨hx, hb, hnL, hml, hown, hts, hK, hD, hb0, hZ, hT, hF, hLo, hkc, hks, hNW⟩ := G
  intro H locs ls hP hS hl
  subst hnL
  refine lv_lstore (lv := lvl 0 (a0 :: a1 :: a2 :: a3 :: a4 :: a5 :: a6 :: a7 :: a8 :: t)) hx hb hd hl hi rfl fun ls hl => ?_
  exact k H locs ls hP hS (lvl_set2 (L := a0 :: a1 :: a2 :: a3 :: a4 :: a5 :: a6 :: a7 :: a8 :: t) hl (fun j hj => by rw [show j = 6 by omega]; exact hc))
theorem aw_lstore_8 {a0 a1 a2 a3 a4 a5 a6 a7 a8 a9 : Option Value} {t : List (Option Value)} {x : Int} (G : Gd X V cc own n F Lo) (hd : decode cc pc = .ok (.lstore 8, 2)) (hc : lcat a7 = 1 := by rfl) (hi : 8 + 1 < n := by decide) (k : AW X V σ (pc + 2) st (a0 :: a1 :: a2 :: a3 :: a4 :: a5 :: a6 :: a7 :: some (jv x) :: none :: t)) : AW X V σ pc (jv x :: st) (a0 :: a1 :: a2 :: a3 :: a4 :: a5 :: a6 :: a7 :: a8 :: a9 :: t) := by
  obtain ⟨p, l, e, R, s, m, args, below, meth, c, nL, kc, ks, Q⟩ := X
  obtain ⟨hx, hb, hnL, hml, hown, hts, hK, hD, hb0, hZ, hT, hF, hLo, hkc, hks, hNW⟩ := G
  intro H locs ls hP hS hl
  subst hnL
  refine lv_lstore (lv := lvl 0 (a0 :: a1 :: a2 :: a3 :: a4 :: a5 :: a6 :: a7 :: a8 :: a9 :: t)) hx hb hd hl hi rfl fun ls hl => ?_
  exact k H locs ls hP hS (lvl_set2 (L := a0 :: a1 :: a2 :: a3 :: a4 :: a5 :: a6 :: a7 :: a8 :: a9 :: t) hl (fun j hj => by rw [show j = 7 by omega]; exact hc))
theorem aw_lstore_9 {a0 a1 a2 a3 a4 a5 a6 a7 a8 a9 a10 : Option Value} {t : List (Option Value)} {x : Int} (G : Gd X V cc own n F Lo) (hd : decode cc pc = .ok (.lstore 9, 2)) (hc : lcat a8 = 1 := by rfl) (hi : 9 + 1 < n := by decide) (k : AW X V σ (pc + 2) st (a0 :: a1 :: a2 :: a3 :: a4 :: a5 :: a6 :: a7 :: a8 :: some (jv x) :: none :: t)) : AW X V σ pc (jv x :: st) (a0 :: a1 :: a2 :: a3 :: a4 :: a5 :: a6 :: a7 :: a8 :: a9 :: a10 :: t) := by
  obtain ⟨p, l, e, R, s, m, args, below, meth, c, nL, kc, ks, Q⟩ := X
  obtain ⟨hx, hb, hnL, hml, hown, hts, hK, hD, hb0, hZ, hT, hF, hLo, hkc, hks, hNW⟩ := G
  intro H locs ls hP hS hl
  subst hnL
  refine lv_lstore (lv := lvl 0 (a0 :: a1 :: a2 :: a3 :: a4 :: a5 :: a6 :: a7 :: a8 :: a9 :: a10 :: t)) hx hb hd hl hi rfl fun ls hl => ?_
  exact k H locs ls hP hS (lvl_set2 (L := a0 :: a1 :: a2 :: a3 :: a4 :: a5 :: a6 :: a7 :: a8 :: a9 :: a10 :: t) hl (fun j hj => by rw [show j = 8 by omega]; exact hc))
theorem aw_lstore_10 {a0 a1 a2 a3 a4 a5 a6 a7 a8 a9 a10 a11 : Option Value} {t : List (Option Value)} {x : Int} (G : Gd X V cc own n F Lo) (hd : decode cc pc = .ok (.lstore 10, 2)) (hc : lcat a9 = 1 := by rfl) (hi : 10 + 1 < n := by decide) (k : AW X V σ (pc + 2) st (a0 :: a1 :: a2 :: a3 :: a4 :: a5 :: a6 :: a7 :: a8 :: a9 :: some (jv x) :: none :: t)) : AW X V σ pc (jv x :: st) (a0 :: a1 :: a2 :: a3 :: a4 :: a5 :: a6 :: a7 :: a8 :: a9 :: a10 :: a11 :: t) := by
  obtain ⟨p, l, e, R, s, m, args, below, meth, c, nL, kc, ks, Q⟩ := X
  obtain ⟨hx, hb, hnL, hml, hown, hts, hK, hD, hb0, hZ, hT, hF, hLo, hkc, hks, hNW⟩ := G
  intro H locs ls hP hS hl
  subst hnL
  refine lv_lstore (lv := lvl 0 (a0 :: a1 :: a2 :: a3 :: a4 :: a5 :: a6 :: a7 :: a8 :: a9 :: a10 :: a11 :: t)) hx hb hd hl hi rfl fun ls hl => ?_
  exact k H locs ls hP hS (lvl_set2 (L := a0 :: a1 :: a2 :: a3 :: a4 :: a5 :: a6 :: a7 :: a8 :: a9 :: a10 :: a11 :: t) hl (fun j hj => by rw [show j = 9 by omega]; exact hc))
theorem aw_wk {L' : List (Option Value)} (k : AW X V σ pc st L') (h : ∀ (i : Nat) (v : Value), L'[i]? = some (some v) → L[i]? = some (some v)) : AW X V σ pc st L := by
  obtain ⟨p, l, e, R, s, m, args, below, meth, c, nL, kc, ks, Q⟩ := X
  intro H locs ls hP hS hl
  exact k H locs ls hP hS (lvl_sub hl fun i v hi => by simpa using lvl_mem L 0 i v (h i v hi))
theorem aw_goto {off : Int} {tgt : Nat} (G : Gd X V cc own n F Lo) (hd : decode cc pc = .ok (.goto off, 3)) (ht : (pc : Int) + off = (tgt : Int)) (k : AW X V σ tgt st L) : AW X V σ pc st L := by
  obtain ⟨p, l, e, R, s, m, args, below, meth, c, nL, kc, ks, Q⟩ := X
  obtain ⟨hx, hb, hnL, hml, hown, hts, hK, hD, hb0, hZ, hT, hF, hLo, hkc, hks, hNW⟩ := G
  intro H locs ls hP hS hl
  exact lv_goto hx hb hd ht (k H locs ls hP hS hl)
theorem aw_nm {x : Int} (k : ∀ y, y = x → AW X V σ pc (iv y :: st) L) : AW X V σ pc (iv x :: st) L := k x rfl
theorem aw_st {τ : St} (h : σ = τ) (k : AW X V τ pc st L) : AW X V σ pc st L := h ▸ k
theorem aw_icmp_eq {x y off : Int} {tgt : Nat} (G : Gd X V cc own n F Lo) (hd : decode cc pc = .ok (.if_icmp .eq off, 3)) (ht : (pc : Int) + off = (tgt : Int)) (hx0 : inR x) (hy0 : inR y) (kt : x = y → AW X V σ tgt st L) (kf : ¬ x = y → AW X V σ (pc + 3) st L) : AW X V σ pc (iv y :: iv x :: st) L := by
  obtain ⟨p, l, e, R, s, m, args, below, meth, c, nL, kc, ks, Q⟩ := X
  obtain ⟨hx, hb, hnL, hml, hown, hts, hK, hD, hb0, hZ, hT, hF, hLo, hkc, hks, hNW⟩ := G
  intro H locs ls hP hS hl
  exact lv_icmp_eq hx hb hd ht (fun q0 => kt ((n_eq hx0 hy0).mp q0) H locs ls hP hS hl) (fun q0 => kf (fun q => q0 ((n_eq hx0 hy0).mpr q)) H locs ls hP hS hl)
theorem aw_if_eq {x off : Int} {tgt : Nat} (G : Gd X V cc own n F Lo) (hd : decode cc pc = .ok (.ifCond .eq off, 3)) (ht : (pc : Int) + off = (tgt : Int)) (hx0 : inR x) (kt : x = 0 → AW X V σ tgt st L) (kf : ¬ x = 0 → AW X V σ (pc + 3) st L) : AW X V σ pc (iv x :: st) L := by
  obtain ⟨p, l, e, R, s, m, args, below, meth, c, nL, kc, ks, Q⟩ := X
  obtain ⟨hx, hb, hnL, hml, hown, hts, hK, hD, hb0, hZ, hT, hF, hLo, hkc, hks, hNW⟩ := G
  intro H locs ls hP hS hl
  exact lv_if_eq hx hb hd ht (fun q0 => kt ((n_eq hx0 (show inR 0 by decide)).mp q0) H locs ls hP hS hl) (fun q0 => kf (fun q => q0 ((n_eq hx0 (show inR 0 by decide)).mpr q)) H locs ls hP hS hl)
theorem aw_icmp_ne {x y off : Int} {tgt : Nat} (G : Gd X V cc own n F Lo) (hd : decode cc pc = .ok (.if_icmp .ne off, 3)) (ht : (pc : Int) + off = (tgt : Int)) (hx0 : inR x) (hy0 : inR y) (kt : ¬ x = y → AW X V σ tgt st L) (kf : x = y → AW X V σ (pc + 3) st L) : AW X V σ pc (iv y :: iv x :: st) L := by
  obtain ⟨p, l, e, R, s, m, args, below, meth, c, nL, kc, ks, Q⟩ := X
  obtain ⟨hx, hb, hnL, hml, hown, hts, hK, hD, hb0, hZ, hT, hF, hLo, hkc, hks, hNW⟩ := G
  intro H locs ls hP hS hl
  exact lv_icmp_ne hx hb hd ht (fun q0 => kt (fun q => q0 ((n_eq hx0 hy0).mpr q)) H locs ls hP hS hl) (fun q0 => kf ((n_eq hx0 hy0).mp q0) H locs ls hP hS hl)
theorem aw_if_ne {x off : Int} {tgt : Nat} (G : Gd X V cc own n F Lo) (hd : decode cc pc = .ok (.ifCond .ne off, 3)) (ht : (pc : Int) + off = (tgt : Int)) (hx0 : inR x) (kt : ¬ x = 0 → AW X V σ tgt st L) (kf : x = 0 → AW X V σ (pc + 3) st L) : AW X V σ pc (iv x :: st) L := by
  obtain ⟨p, l, e, R, s, m, args, below, meth, c, nL, kc, ks, Q⟩ := X
  obtain ⟨hx, hb, hnL, hml, hown, hts, hK, hD, hb0, hZ, hT, hF, hLo, hkc, hks, hNW⟩ := G
  intro H locs ls hP hS hl
  exact lv_if_ne hx hb hd ht (fun q0 => kt (fun q => q0 ((n_eq hx0 (show inR 0 by decide)).mpr q)) H locs ls hP hS hl) (fun q0 => kf ((n_eq hx0 (show inR 0 by decide)).mp q0) H locs ls hP hS hl)
theorem aw_icmp_lt {x y off : Int} {tgt : Nat} (G : Gd X V cc own n F Lo) (hd : decode cc pc = .ok (.if_icmp .lt off, 3)) (ht : (pc : Int) + off = (tgt : Int)) (hx0 : inR x) (hy0 : inR y) (kt : x < y → AW X V σ tgt st L) (kf : ¬ x < y → AW X V σ (pc + 3) st L) : AW X V σ pc (iv y :: iv x :: st) L := by
  obtain ⟨p, l, e, R, s, m, args, below, meth, c, nL, kc, ks, Q⟩ := X
  obtain ⟨hx, hb, hnL, hml, hown, hts, hK, hD, hb0, hZ, hT, hF, hLo, hkc, hks, hNW⟩ := G
  intro H locs ls hP hS hl
  exact lv_icmp_lt hx hb hd ht (fun q0 => kt ((n_lt hx0 hy0).mp q0) H locs ls hP hS hl) (fun q0 => kf (fun q => q0 ((n_lt hx0 hy0).mpr q)) H locs ls hP hS hl)
theorem aw_if_lt {x off : Int} {tgt : Nat} (G : Gd X V cc own n F Lo) (hd : decode cc pc = .ok (.ifCond .lt off, 3)) (ht : (pc : Int) + off = (tgt : Int)) (hx0 : inR x) (kt : x < 0 → AW X V σ tgt st L) (kf : ¬ x < 0 → AW X V σ (pc + 3) st L) : AW X V σ pc (iv x :: st) L := by
  obtain ⟨p, l, e, R, s, m, args, below, meth, c, nL, kc, ks, Q⟩ := X
  obtain ⟨hx, hb, hnL, hml, hown, hts, hK, hD, hb0, hZ, hT, hF, hLo, hkc, hks, hNW⟩ := G
  intro H locs ls hP hS hl
  exact lv_if_lt hx hb hd ht (fun q0 => kt ((n_lt hx0 (show inR 0 by decide)).mp q0) H locs ls hP hS hl) (fun q0 => kf (fun q => q0 ((n_lt hx0 (show inR 0 by decide)).mpr q)) H locs ls hP hS hl)
theorem aw_icmp_ge {x y off : Int} {tgt : Nat} (G : Gd X V cc own n F Lo) (hd : decode cc pc = .ok (.if_icmp .ge off, 3)) (ht : (pc : Int) + off = (tgt : Int)) (hx0 : inR x) (hy0 : inR y) (kt : y ≤ x → AW X V σ tgt st L) (kf : ¬ y ≤ x → AW X V σ (pc + 3) st L) : AW X V σ pc (iv y :: iv x :: st) L := by
  obtain ⟨p, l, e, R, s, m, args, below, meth, c, nL, kc, ks, Q⟩ := X
  obtain ⟨hx, hb, hnL, hml, hown, hts, hK, hD, hb0, hZ, hT, hF, hLo, hkc, hks, hNW⟩ := G
  intro H locs ls hP hS hl
  exact lv_icmp_ge hx hb hd ht (fun q0 => kt ((n_le hy0 hx0).mp q0) H locs ls hP hS hl) (fun q0 => kf (fun q => q0 ((n_le hy0 hx0).mpr q)) H locs ls hP hS hl)
theorem aw_if_ge {x off : Int} {tgt : Nat} (G : Gd X V cc own n F Lo) (hd : decode cc pc = .ok (.ifCond .ge off, 3)) (ht : (pc : Int) + off = (tgt : Int)) (hx0 : inR x) (kt : 0 ≤ x → AW X V σ tgt st L) (kf : ¬ 0 ≤ x → AW X V σ (pc + 3) st L) : AW X V σ pc (iv x :: st) L := by
  obtain ⟨p, l, e, R, s, m, args, below, meth, c, nL, kc, ks, Q⟩ := X
  obtain ⟨hx, hb, hnL, hml, hown, hts, hK, hD, hb0, hZ, hT, hF, hLo, hkc, hks, hNW⟩ := G
  intro H locs ls hP hS hl
  exact lv_if_ge hx hb hd ht (fun q0 => kt ((n_le (show inR 0 by decide) hx0).mp q0) H locs ls hP hS hl) (fun q0 => kf (fun q => q0 ((n_le (show inR 0 by decide) hx0).mpr q)) H locs ls hP hS hl)
theorem aw_icmp_gt {x y off : Int} {tgt : Nat} (G : Gd X V cc own n F Lo) (hd : decode cc pc = .ok (.if_icmp .gt off, 3)) (ht : (pc : Int) + off = (tgt : Int)) (hx0 : inR x) (hy0 : inR y) (kt : y < x → AW X V σ tgt st L) (kf : ¬ y < x → AW X V σ (pc + 3) st L) : AW X V σ pc (iv y :: iv x :: st) L := by
  obtain ⟨p, l, e, R, s, m, args, below, meth, c, nL, kc, ks, Q⟩ := X
  obtain ⟨hx, hb, hnL, hml, hown, hts, hK, hD, hb0, hZ, hT, hF, hLo, hkc, hks, hNW⟩ := G
  intro H locs ls hP hS hl
  exact lv_icmp_gt hx hb hd ht (fun q0 => kt ((n_lt hy0 hx0).mp q0) H locs ls hP hS hl) (fun q0 => kf (fun q => q0 ((n_lt hy0 hx0).mpr q)) H locs ls hP hS hl)
theorem aw_if_gt {x off : Int} {tgt : Nat} (G : Gd X V cc own n F Lo) (hd : decode cc pc = .ok (.ifCond .gt off, 3)) (ht : (pc : Int) + off = (tgt : Int)) (hx0 : inR x) (kt : 0 < x → AW X V σ tgt st L) (kf : ¬ 0 < x → AW X V σ (pc + 3) st L) : AW X V σ pc (iv x :: st) L := by
  obtain ⟨p, l, e, R, s, m, args, below, meth, c, nL, kc, ks, Q⟩ := X
  obtain ⟨hx, hb, hnL, hml, hown, hts, hK, hD, hb0, hZ, hT, hF, hLo, hkc, hks, hNW⟩ := G
  intro H locs ls hP hS hl
  exact lv_if_gt hx hb hd ht (fun q0 => kt ((n_lt (show inR 0 by decide) hx0).mp q0) H locs ls hP hS hl) (fun q0 => kf (fun q => q0 ((n_lt (show inR 0 by decide) hx0).mpr q)) H locs ls hP hS hl)
theorem aw_icmp_le {x y off : Int} {tgt : Nat} (G : Gd X V cc own n F Lo) (hd : decode cc pc = .ok (.if_icmp .le off, 3)) (ht : (pc : Int) + off = (tgt : Int)) (hx0 : inR x) (hy0 : inR y) (kt : x ≤ y → AW X V σ tgt st L) (kf : ¬ x ≤ y → AW X V σ (pc + 3) st L) : AW X V σ pc (iv y :: iv x :: st) L := by
  obtain ⟨p, l, e, R, s, m, args, below, meth, c, nL, kc, ks, Q⟩ := X
  obtain ⟨hx, hb, hnL, hml, hown, hts, hK, hD, hb0, hZ, hT, hF, hLo, hkc, hks, hNW⟩ := G
  intro H locs ls hP hS hl
  exact lv_icmp_le hx hb hd ht (fun q0 => kt ((n_le hx0 hy0).mp q0) H locs ls hP hS hl) (fun q0 => kf (fun q => q0 ((n_le hx0 hy0).mpr q)) H locs ls hP hS hl)
theorem aw_if_le {x off : Int} {tgt : Nat} (G : Gd X V cc own n F Lo) (hd : decode cc pc = .ok (.ifCond .le off, 3)) (ht : (pc : Int) + off = (tgt : Int)) (hx0 : inR x) (kt : x ≤ 0 → AW X V σ tgt st L) (kf : ¬ x ≤ 0 → AW X V σ (pc + 3) st L) : AW X V σ pc (iv x :: st) L := by
  obtain ⟨p, l, e, R, s, m, args, below, meth, c, nL, kc, ks, Q⟩ := X
  obtain ⟨hx, hb, hnL, hml, hown, hts, hK, hD, hb0, hZ, hT, hF, hLo, hkc, hks, hNW⟩ := G
  intro H locs ls hP hS hl
  exact lv_if_le hx hb hd ht (fun q0 => kt ((n_le hx0 (show inR 0 by decide)).mp q0) H locs ls hP hS hl) (fun q0 => kf (fun q => q0 ((n_le hx0 (show inR 0 by decide)).mpr q)) H locs ls hP hS hl)
theorem aw_tswIn {x dflt lo hi off : Int} {offs : Array Int} {len tgt : Nat} (G : Gd X V cc own n F Lo) (hd : decode cc pc = .ok (.tableswitch dflt lo hi offs, len)) (hx0 : inR x) (h1 : ¬ x < lo) (h2 : ¬ hi < x) (ho : offs[(x - lo).toNat]? = some off) (ht : (pc : Int) + off = (tgt : Int)) (k : AW X V σ tgt st L) : AW X V σ pc (iv x :: st) L := by
  obtain ⟨p, l, e, R, s, m, args, below, meth, c, nL, kc, ks, Q⟩ := X
  obtain ⟨hx, hb, hnL, hml, hown, hts, hK, hD, hb0, hZ, hT, hF, hLo, hkc, hks, hNW⟩ := G
  intro H locs ls hP hS hl
  exact lv_tableIn hx hb hd (by rw [n_toInt hx0]; exact h1) (by rw [n_toInt hx0]; exact h2) (by rw [n_toInt hx0]; exact ho) ht (k H locs ls hP hS hl)
theorem aw_tswOut {x dflt lo hi : Int} {offs : Array Int} {len tgt : Nat} (G : Gd X V cc own n F Lo) (hd : decode cc pc = .ok (.tableswitch dflt lo hi offs, len)) (hx0 : inR x) (h1 : x < lo ∨ hi < x) (ht : (pc : Int) + dflt = (tgt : Int)) (k : AW X V σ tgt st L) : AW X V σ pc (iv x :: st) L := by
  obtain ⟨p, l, e, R, s, m, args, below, meth, c, nL, kc, ks, Q⟩ := X
  obtain ⟨hx, hb, hnL, hml, hown, hts, hK, hD, hb0, hZ, hT, hF, hLo, hkc, hks, hNW⟩ := G
  intro H locs ls hP hS hl
  exact lv_tableOut hx hb hd (by rw [n_toInt hx0]; exact h1) ht (k H locs ls hP hS hl)
theorem aw_lsw {x dflt off : Int} {ps : Array (Int × Int)} {len tgt : Nat} (G : Gd X V cc own n F Lo) (hd : decode cc pc = .ok (.lookupswitch dflt ps, len)) (hx0 : inR x) (hp : (ps.toList.zip (ps.toList.drop 1)).all (fun (a, next) => a.1 < next.1) = true) (ho : Op.lookupswitch.offset ps.toList dflt x = off) (ht : (pc : Int) + off = (tgt : Int)) (k : AW X V σ tgt st L) : AW X V σ pc (iv x :: st) L := by
  obtain ⟨p, l, e, R, s, m, args, below, meth, c, nL, kc, ks, Q⟩ := X
  obtain ⟨hx, hb, hnL, hml, hown, hts, hK, hD, hb0, hZ, hT, hF, hLo, hkc, hks, hNW⟩ := G
  intro H locs ls hP hS hl
  exact lv_lookup hx hb hd hp (by rw [n_toInt hx0]; exact ho) ht (k H locs ls hP hS hl)
theorem aw_get {C : String} {T : u_T} {N ci index k j : Nat} {lyt : Lay} {fs : List Value} {v : Value} (G : Gd X V cc own n F Lo) (hd : decode cc pc = .ok (.getfield index, 3)) (hin : ∀ w ∈ u_ws C T N, w ∈ tblG) (hlink : Cond.fieldLink own index C (T j).2.1 (T j).2.2.1 ∈ tblG) (hc : classes[ci]? = some (C, T, N)) (hj : j < N) (hown2 : (T j).1 = C) (hk : k < NC) (hE : ent V σ k = .inr (ci, fs)) (hv : fs[j]? = some v) (kk : AW X V σ (pc + 3) (v :: st) L) : AW X V σ pc (rv V k :: st) L := by
  obtain ⟨p, l, e, R, s, m, args, below, meth, c, nL, kc, ks, Q⟩ := X
  obtain ⟨hx, hb, hnL, hml, hown, hts, hK, hD, hb0, hZ, hT, hF, hLo, hkc, hks, hNW⟩ := G
  intro H locs ls hP hS hl
  exact va_get (C := C) (T := T) (N := N) (ci := ci) hx hb hts hin hown hK hP k (by rw [wld_at V σ hk, hE]) hc j hj (hts _ hlink) (fun x hx => by rw [hown2] at hx; exact hx) hv hd (kk H locs ls hP hS hl)
theorem aw_put {C : String} {T : u_T} {N ci index k j : Nat} {fs : List Value} {v : Value} {ty : FieldType} {τ : St} (ty0 : Nat → FieldType) (G : Gd X V cc own n F Lo) (hd : decode cc pc = .ok (.putfield index, 3)) (hin : ∀ w ∈ u_ws C T N, w ∈ tblG) (hty : ∀ k, k < N → parseFieldDescriptor (T k).2.2.1 = some (ty0 k)) (hnm : ∀ a, a < N → ∀ b, b < N → a ≠ b → (T a).2.1 ≠ (T b).2.1) (hlink : Cond.fieldLink own index C (T j).2.1 (T j).2.2.1 ∈ tblG) (hc : classes[ci]? = some (C, T, N)) (hj : j < N) (hown2 : (T j).1 = C) (hfin : (T j).2.2.2 = false) (hd2 : parseFieldDescriptor (T j).2.2.1 = some ty) (hn : narrow ty v = v) (hfit : fits ty v = true) (hk : k < NC) (hE : ent V σ k = .inr (ci, fs)) (hl0 : j < fs.length) (hE2 : ent V τ k = .inr (ci, fs.set j v)) (ho : ∀ k', k' ≠ k → τ k' = σ k') (kk : AW X V τ (pc + 3) st L) : AW X V σ pc (v :: rv V k :: st) L := by
  obtain ⟨p, l, e, R, s, m, args, below, meth, c, nL, kc, ks, Q⟩ := X
  obtain ⟨hx, hb, hnL, hml, hown, hts, hK, hD, hb0, hZ, hT, hF, hLo, hkc, hks, hNW⟩ := G
  intro H locs ls hP hS hl
  refine va_put (C := C) (T := T) (N := N) (ci := ci) (ty := ty) hx hb hts hin ty0 hty hnm hown hK hP (hD σ) hS k (by rw [wld_at V σ hk, hE]) hc j hj (hts _ hlink) (fun x hx => by rw [hown2] at hx; exact hx) hfin hd2 hn hfit hl0 hd (fun H1 locs1 hP1 hD1 hS1 => ?_)
  rw [wld_set V σ τ hk hE2.symm ho] at hP1
  exact kk H1 locs1 ls hP1 hS1 hl
theorem aw_iaload {k N : Nat} {j : Int} (G : Gd X V cc own n F Lo) (hd : decode cc pc = .ok (.iaload, 1)) (hk : k < NC) (hE : lay k = iE N) (hN : N < 2147483648) (hj : 0 ≤ j ∧ j < N) (kk : AW X V σ (pc + 1) (iv (σ k j) :: st) L) : AW X V σ pc (iv j :: rv V k :: st) L := by
  obtain ⟨p, l, e, R, s, m, args, below, meth, c, nL, kc, ks, Q⟩ := X
  obtain ⟨hx, hb, hnL, hml, hown, hts, hK, hD, hb0, hZ, hT, hF, hLo, hkc, hks, hNW⟩ := G
  intro H locs ls hP hS hl
  refine va_iald (n := N) (f := fun i => Int32.ofInt (σ k i)) hx hb hK hP k 0 (by rw [wld_at V σ hk]; unfold ent; rw [hE]; rfl) rfl (n_in hj hN) hd ?_
  have e1 : ((Int32.ofInt j).toNatClampNeg : Int) = j := by rw [n_clamp ⟨by omega, by omega⟩]; omega
  try dsimp only
  rw [e1]
  exact kk H locs ls hP hS hl
theorem aw_laload {k N : Nat} {j : Int} (G : Gd X V cc own n F Lo) (hd : decode cc pc = .ok (.laload, 1)) (hk : k < NC) (hE : lay k = jE N) (hN : N < 2147483648) (hj : 0 ≤ j ∧ j < N) (kk : AW X V σ (pc + 1) (jv (σ k j) :: st) L) : AW X V σ pc (iv j :: rv V k :: st) L := by
  obtain ⟨p, l, e, R, s, m, args, below, meth, c, nL, kc, ks, Q⟩ := X
  obtain ⟨hx, hb, hnL, hml, hown, hts, hK, hD, hb0, hZ, hT, hF, hLo, hkc, hks, hNW⟩ := G
  intro H locs ls hP hS hl
  refine va_lald (n := N) (f := fun i => Int64.ofInt (σ k i)) hx hb hK hP k 1 (by rw [wld_at V σ hk]; unfold ent; rw [hE]; rfl) rfl (n_in hj hN) hd ?_
  have e1 : ((Int32.ofInt j).toNatClampNeg : Int) = j := by rw [n_clamp ⟨by omega, by omega⟩]; omega
  try dsimp only
  rw [e1]
  exact kk H locs ls hP hS hl
theorem aw_iastore {k N : Nat} {j x : Int} (G : Gd X V cc own n F Lo) (hd : decode cc pc = .ok (.iastore, 1)) (hk : k < NC) (hE : lay k = iE N) (hN : N < 2147483648) (hj : 0 ≤ j ∧ j < N) (kk : AW X V (up σ k j x) (pc + 1) st L) : AW X V σ pc (iv x :: iv j :: rv V k :: st) L := by
  obtain ⟨p, l, e, R, s, m, args, below, meth, c, nL, kc, ks, Q⟩ := X
  obtain ⟨hx, hb, hnL, hml, hown, hts, hK, hD, hb0, hZ, hT, hF, hLo, hkc, hks, hNW⟩ := G
  intro H locs ls hP hS hl
  refine va_iast (n := N) (f := fun i => Int32.ofInt (σ k i)) hx hb hK hP (hD σ) hS k 0 (by rw [wld_at V σ hk]; unfold ent; rw [hE]; rfl) rfl (n_in hj hN) hd (fun H1 locs1 hP1 hD1 hS1 => ?_)
  rw [wld_set V σ (up σ k j x) hk (by
    unfold ent
    rw [hE]
    unfold iE
    try dsimp only
    congr 4
    funext i
    have e1 : (Int32.ofInt j).toNatClampNeg = j.toNat := n_clamp ⟨by omega, by omega⟩
    rw [e1]
    unfold upd up
    by_cases h : i = j.toNat
    · rw [if_pos h, if_pos ⟨rfl, by omega⟩]
    · rw [if_neg h, if_neg (by omega)]) (fun k' h' => up_ne h')] at hP1
  exact kk H1 locs1 ls hP1 hS1 hl
theorem aw_lastore {k N : Nat} {j x : Int} (G : Gd X V cc own n F Lo) (hd : decode cc pc = .ok (.lastore, 1)) (hk : k < NC) (hE : lay k = jE N) (hN : N < 2147483648) (hj : 0 ≤ j ∧ j < N) (kk : AW X V (up σ k j x) (pc + 1) st L) : AW X V σ pc (jv x :: iv j :: rv V k :: st) L := by
  obtain ⟨p, l, e, R, s, m, args, below, meth, c, nL, kc, ks, Q⟩ := X
  obtain ⟨hx, hb, hnL, hml, hown, hts, hK, hD, hb0, hZ, hT, hF, hLo, hkc, hks, hNW⟩ := G
  intro H locs ls hP hS hl
  refine va_last (n := N) (f := fun i => Int64.ofInt (σ k i)) hx hb hK hP (hD σ) hS k 1 (by rw [wld_at V σ hk]; unfold ent; rw [hE]; rfl) rfl (n_in hj hN) hd (fun H1 locs1 hP1 hD1 hS1 => ?_)
  rw [wld_set V σ (up σ k j x) hk (by
    unfold ent
    rw [hE]
    unfold jE
    try dsimp only
    congr 5
    funext i
    have e1 : (Int32.ofInt j).toNatClampNeg = j.toNat := n_clamp ⟨by omega, by omega⟩
    rw [e1]
    unfold vp_updL up
    by_cases h : i = j.toNat
    · rw [if_pos h, if_pos ⟨rfl, by omega⟩]
    · rw [if_neg h, if_neg (by omega)]) (fun k' h' => up_ne h')] at hP1
  exact kk H1 locs1 ls hP1 hS1 hl
theorem aw_aaload {k t N b : Nat} {j : Int} {ty : FieldType} (G : Gd X V cc own n F Lo) (hd : decode cc pc = .ok (.aaload, 1)) (hk : k < NC) (hE : lay k = qE t N b) (hN : N < 2147483648) (ht : (tysV V)[t]? = some (V.2.2.1 t, .array ty)) (hj : 0 ≤ j ∧ j < N) (kk : AW X V σ (pc + 1) (rv V (b + j.toNat) :: st) L) : AW X V σ pc (iv j :: rv V k :: st) L := by
  obtain ⟨p, l, e, R, s, m, args, below, meth, c, nL, kc, ks, Q⟩ := X
  obtain ⟨hx, hb, hnL, hml, hown, hts, hK, hD, hb0, hZ, hT, hF, hLo, hkc, hks, hNW⟩ := G
  intro H locs ls hP hS hl
  have e1 : (Int32.ofInt j).toNatClampNeg = j.toNat := n_clamp ⟨by omega, by omega⟩
  have hin := n_in hj hN
  have hlt : j.toNat < N := by omega
  have hc := hP k _ (wld_at V σ hk)
  unfold ent at hc
  rw [hE] at hc
  refine W.aald (v := rv V (b + j.toNat)) (ty := .array ty) hx hb (a := V.2.1 k) hc ((hK.2 t _ ht).1 N (fun q => va_rf (if q < N then some (V.2.1 (b + q)) else none))) rfl (fun q => by cases q) (by show ¬ (_ < 0 ∨ (arrV _ _ _).slots.size ≤ _); rw [arrV_size]; exact hin) (by show (arrV _ _ _).slots[_]? = _; rw [arrV_read _ _ (by rw [e1]; exact hlt), e1]; show some (va_rf (if j.toNat < N then some (V.2.1 (b + j.toNat)) else none)) = _; rw [if_pos hlt]; rfl) rfl rfl hd ?_
  exact kk H locs ls hP hS hl
def tv (V : Wd) : Value := .ref V.2.2.2.2
theorem aw_gets {index : Nat} (G : Gd X V cc own n F Lo) (hd : decode cc pc = .ok (.getstatic index, 3)) (hw : Cond.fieldLink own index "LabelsOfLines$Kinds" "ABOVE" "[I" ∈ tblG) (k : AW X V σ (pc + 3) (tv V :: st) L) : AW X V σ pc st L := by
  obtain ⟨p, l, e, R, s, m, args, below, meth, c, nL, kc, ks, Q⟩ := X
  obtain ⟨hx, hb, hnL, hml, hown, hts, hK, hD, hb0, hZ, hT, hF, hLo, hkc, hks, hNW⟩ := G
  intro H locs ls hP hS hl
  exact va_gets hx hb hZ hS hown (hts _ hw) (fun _ h => h) hd (k H locs ls hP hS hl)
theorem aw_tiald {j : Int} (G : Gd X V cc own n F Lo) (hd : decode cc pc = .ok (.iaload, 1)) (hj : 0 ≤ j ∧ j < 6) (k : AW X V σ (pc + 1) (iv (if j = 0 then -1 else if j = 3 then 1 else if j = 4 then 2 else 0) :: st) L) : AW X V σ pc (iv j :: tv V :: st) L := by
  obtain ⟨p, l, e, R, s, m, args, below, meth, c, nL, kc, ks, Q⟩ := X
  obtain ⟨hx, hb, hnL, hml, hown, hts, hK, hD, hb0, hZ, hT, hF, hLo, hkc, hks, hNW⟩ := G
  intro H locs ls hP hS hl
  have e1 : (Int32.ofInt j).toNatClampNeg = j.toNat := n_clamp ⟨by omega, by omega⟩
  refine va_ti (N := 6) hx hb hT hS (n_in (by exact hj) (by decide)) (v := iv (if j = 0 then -1 else if j = 3 then 1 else if j = 4 then 2 else 0)) ?_ hd (k H locs ls hP hS hl)
  rw [e1]
  rcases (show j = 0 ∨ j = 1 ∨ j = 2 ∨ j = 3 ∨ j = 4 ∨ j = 5 by omega) with h | h | h | h | h | h <;> subst h <;> rfl
def cpy (σ : St) (k0 : Nat) (sp : Int) (k1 : Nat) (dp m : Int) : St := fun k' j' => if k' = k1 ∧ dp ≤ j' ∧ j' < dp + m then σ k0 (sp + (j' - dp)) else σ k' j'
theorem aw_copy {index k0 k1 N0 N1 : Nat} {sp dp m0 : Int} (G : Gd X V cc own n F Lo) (hd : decode cc pc = .ok (.invokestatic index, 3)) (hw : Cond.methodLink own index arraycopyName ∈ tblG) (hw2 : Cond.native arraycopyName ∈ tblG) (hw3 : Cond.static arraycopyName ∈ tblG) (hw4 : Cond.initialized "java/lang/System" ∈ tblG) (hk0 : k0 < NC) (hk1 : k1 < NC) (hE0 : lay k0 = iE N0) (hE1 : lay k1 = iE N1) (hN0 : N0 < 2147483648) (hN1 : N1 < 2147483648) (h : 0 ≤ sp ∧ 0 ≤ dp ∧ 0 ≤ m0 ∧ sp + m0 ≤ N0 ∧ dp + m0 ≤ N1) (hroom : 1 ≤ F ∧ (st.map fun v => v.category).sum + (nativeFrameWords "java/lang/System" "arraycopy" 5 + 11) ≤ Lo) (kk : AW X V (cpy σ k0 sp k1 dp m0) (pc + 3) st L) : AW X V σ pc (iv m0 :: iv dp :: rv V k1 :: iv sp :: rv V k0 :: st) L := by
  obtain ⟨p, l, e, R, s, m, args, below, meth, c, nL, kc, ks, Q⟩ := X
  obtain ⟨hx, hb, hnL, hml, hown, hts, hK, hD, hb0, hZ, hT, hF, hLo, hkc, hks, hNW⟩ := G
  intro H locs ls hP hS hl
  have r1 : inR sp := ⟨by omega, by omega⟩
  have r2 : inR dp := ⟨by omega, by omega⟩
  have r3 : inR m0 := ⟨by omega, by omega⟩
  have c1 := n_clamp r1
  have c2 := n_clamp r2
  have c3 := n_clamp r3
  have z0 : inR 0 := by decide
  refine va_copyi (n0 := N0) (n1 := N1) (f := fun i => Int32.ofInt (σ k0 i)) (g := fun i => Int32.ofInt (σ k1 i)) (ty := .int) hx hb (by rw [hml, ← hnL]; exact hl.1.symm) hown (hts _ hw) (hts _ hw2) (hts _ hw3) (hts _ hw4) hK hP (hD σ) hS k0 k1 0 0 (by rw [wld_at V σ hk0]; unfold ent; rw [hE0]; rfl) (by rw [wld_at V σ hk1]; unfold ent; rw [hE1]; rfl) rfl rfl rfl (fun q => by have := (n_lt r1 z0).mp q; omega) (fun q => by have := (n_lt r2 z0).mp q; omega) (fun q => by have := (n_lt r3 z0).mp q; omega) (by rw [c1, c3]; omega) (by rw [c2, c3]; omega) (fun _ _ => rfl) (Nat.le_trans hroom.1 hF) (Nat.le_trans hroom.2 hLo) hd (fun H1 locs1 hP1 hD1 hS1 => ?_)
  rw [c1, c2, c3, wld_set V σ (cpy σ k0 sp k1 dp m0) hk1 (by
    unfold ent
    rw [hE1]
    unfold iE
    try dsimp only
    congr 4
    funext i
    unfold va_cpy cpy
    by_cases h9 : dp.toNat ≤ i ∧ i < dp.toNat + m0.toNat
    · rw [if_pos h9, if_pos ⟨rfl, by omega, by omega⟩]
      have e9 : ((sp.toNat + (i - dp.toNat) : Nat) : Int) = sp + ((i : Int) - dp) := by omega
      show Int32.ofInt (σ k0 ((sp.toNat + (i - dp.toNat) : Nat) : Int)) = _
      rw [e9]
    · rw [if_neg h9, if_neg (by omega)]) (fun k' h' => by
    funext j'
    unfold cpy
    rw [if_neg (by rintro ⟨q, -⟩; exact h' q)])] at hP1
  exact kk H1 locs1 ls hP1 hS1 hl
theorem aw_mmin {index : Nat} {x y : Int} (G : Gd X V cc own n F Lo) (hd : decode cc pc = .ok (.invokestatic index, 3)) (hw : Cond.methodLink own index Lib.Math.min.name ∈ tblG) (hw3 : Cond.static Lib.Math.min.name ∈ tblG) (hw4 : Cond.initialized "java/lang/Math" ∈ tblG) (hw5 : Cond.code Lib.Math.min.name Lib.Math.min.code 2 (some .int) ∈ tblG) (hx0 : inR x) (hy0 : inR y) (hroom : 1 ≤ F ∧ (st.map fun v => v.category).sum + 13 ≤ Lo) (k : AW X V σ (pc + 3) (iv (min x y) :: st) L) : AW X V σ pc (iv y :: iv x :: st) L := by
  obtain ⟨p, l, e, R, s, m, args, below, meth, c, nL, kc, ks, Q⟩ := X
  obtain ⟨hx, hb, hnL, hml, hown, hts, hK, hD, hb0, hZ, hT, hF, hLo, hkc, hks, hNW⟩ := G
  intro H locs ls hP hS hl
  refine va_mmin hx hb (by rw [hml, ← hnL]; exact hl.1.symm) hown (hts _ hw) (hts _ hw3) (hts _ hw4) (hts _ hw5) (Nat.le_trans hroom.1 hF) (Nat.le_trans hroom.2 hLo) hkc hks hd ?_
  have e1 : (if Int32.ofInt y < Int32.ofInt x then Int32.ofInt y else Int32.ofInt x) = Int32.ofInt (min x y) := by
    by_cases h : y < x
    · rw [if_pos ((n_lt hy0 hx0).mpr h), Int.min_eq_right (by omega)]
    · rw [if_neg (fun q => h ((n_lt hy0 hx0).mp q)), Int.min_eq_left (by omega)]
  rw [e1]
  exact k H locs ls hP hS hl
theorem aw_mmax {index : Nat} {x y : Int} (G : Gd X V cc own n F Lo) (hd : decode cc pc = .ok (.invokestatic index, 3)) (hw : Cond.methodLink own index Lib.Math.max.name ∈ tblG) (hw3 : Cond.static Lib.Math.max.name ∈ tblG) (hw4 : Cond.initialized "java/lang/Math" ∈ tblG) (hw5 : Cond.code Lib.Math.max.name Lib.Math.max.code 2 (some .int) ∈ tblG) (hx0 : inR x) (hy0 : inR y) (hroom : 1 ≤ F ∧ (st.map fun v => v.category).sum + 13 ≤ Lo) (k : AW X V σ (pc + 3) (iv (max x y) :: st) L) : AW X V σ pc (iv y :: iv x :: st) L := by
  obtain ⟨p, l, e, R, s, m, args, below, meth, c, nL, kc, ks, Q⟩ := X
  obtain ⟨hx, hb, hnL, hml, hown, hts, hK, hD, hb0, hZ, hT, hF, hLo, hkc, hks, hNW⟩ := G
  intro H locs ls hP hS hl
  refine va_mmax hx hb (by rw [hml, ← hnL]; exact hl.1.symm) hown (hts _ hw) (hts _ hw3) (hts _ hw4) (hts _ hw5) (Nat.le_trans hroom.1 hF) (Nat.le_trans hroom.2 hLo) hkc hks hd ?_
  have e1 : (if Int32.ofInt x < Int32.ofInt y then Int32.ofInt y else Int32.ofInt x) = Int32.ofInt (max x y) := by
    by_cases h : x < y
    · rw [if_pos ((n_lt hx0 hy0).mpr h), Int.max_eq_right (by omega)]
    · rw [if_neg (fun q => h ((n_lt hx0 hy0).mp q)), Int.max_eq_left (by omega)]
  rw [e1]
  exact k H locs ls hP hS hl
/-! contracts over the whole world -/
def WS (V : Wd) (σ : St) (U : State) : Prop := va_P V.1 classes (wld V σ) U.heap ∧ va_K V.1 classes (tysV V) U ∧ va_D (fr V) (wld V σ) ∧ V.2.2.2.1 ≤ U.heap.size ∧ va_Z "LabelsOfLines$Kinds" "ABOVE" "[I" (.ref V.2.2.2.2) (fr V) U U.heap ∧ va_T .int V.2.2.2.2 6 (fun k => iv (if k = 0 then -1 else if k = 3 then 1 else if k = 4 then 2 else 0)) (fr V) U U.heap ∧ NW U
def QcW (V : Wd) (post : Option Value → St → Prop) : Array Value → State → Outcome → State → Prop := fun _ st oc t => (∃ (v : Option Value) (τ : St), oc = .returned v ∧ post v τ ∧ va_P V.1 classes (wld V τ) t.heap) ∧ va_F (fr V) st t
def Ct (V : Wd) (y : MethodName) (bytes : ByteArray) (maxL : Nat) (ret : Option FieldType) (f2 lo2 : Nat) (av : List Value) (σ : St) (post : Option Value → St → Prop) : Prop :=
  ∀ l : Launch, Met l y (.code y bytes maxL ret :: tblG) ({ frames := f2, cells := 0, slots := 0, locals := lo2 }) (va_Pc av (fun U => WS V σ U)) (QcW V post) 0 0 (fr V)
def PI (p : Int → St → Prop) : Option Value → St → Prop := fun v τ => ∃ r, v = some (iv r) ∧ p r τ
def PJ (p : Int → St → Prop) : Option Value → St → Prop := fun v τ => ∃ r, v = some (jv r) ∧ p r τ
def PV (p : St → Prop) : Option Value → St → Prop := fun v τ => v = none ∧ p τ
theorem ws_blind {V : Wd} {σ : St} {av : List Value} : FrameBlind (va_Pc av (fun U => WS V σ U)) := by
  intro a U g mk q
  obtain ⟨q0, q1, q2, q3, q4, q5, q6, q7⟩ := q
  exact ⟨q0, q1, va_K.moved (u := U) (U := U.calling g mk a) (Vm.Alike.refl U.vm) q2, q3, q4, va_Z.moved (u := U) (U := U.calling g mk a) (Vm.Alike.refl U.vm) q5, va_T.moved (u := U) (U := U.calling g mk a) (Vm.Alike.refl U.vm) q6, va_Nw.same rfl (U := U.calling g mk a) rfl q7.1, va_Nw.same rfl (U := U.calling g mk a) rfl q7.2⟩
theorem ws_of {s U : State} {H : Heap} {locs : List Loc} (hP : va_P V.1 classes (wld V σ) H) (hK : va_K V.1 classes (tysV V) s) (hD : va_D (fr V) (wld V σ)) (hb0 : V.2.2.2.1 ≤ s.heap.size) (hZ : va_Z "LabelsOfLines$Kinds" "ABOVE" "[I" (.ref V.2.2.2.2) (fr V) s s.heap) (hT : va_T .int V.2.2.2.2 6 (fun k => iv (if k = 0 then -1 else if k = 3 then 1 else if k = 4 then 2 else 0)) (fr V) s s.heap) (hNW : NW s) (hS : va_S (fr V) s.heap H locs) (hU : U.heap = H) (hW : s.WarmedH U.vm) : WS V σ U := by
  have hvm : s.vm.Alike U.vm := hW.alike
  have hkept : ∀ a : Nat, a < s.heap.size → ¬ fr V a → U.heap[a]? = s.heap[a]? := fun a h1 h2 => by rw [hU]; exact hS.2.1 a h1 h2
  exact ⟨by rw [hU]; exact hP, hK.moved hvm, hD, by rw [hU]; exact Nat.le_trans hb0 hS.1, (hZ.kept hkept).moved hvm, (hT.kept hkept).moved hvm, va_Nw.warmM hW hNW.1, va_Nw.warmM hW hNW.2⟩
theorem aw_run {av stk : List Value} {post : Option Value → St → Prop}
    {p : Program} {l : Launch} {e : Env} {R : Room} {s : State} {m : MethodId} {args : Array Value} {below : List Frame} {meth : Method} {c : Code} {nL kc ks : Nat} {Q : State → Prop} {H : Heap} {locs : List Loc} {ls : Array Slot}
    (hr : va_Run p l e R s m args below meth c H locs kc ks 0 0 (F0 m pc ls stk) st (QcW V post av.toArray) (fr V)) (hS : va_S (fr V) s.heap H locs) (hl : lv_has ls nL (lvl 0 L))
    (kk : ∀ v τ, post v τ → AW (p, l, e, R, s, m, args, below, meth, c, nL, kc, ks, Q) V τ (pc + 3) (v.toList ++ st) L) : W p l e R s m args below meth c H locs kc ks Q (F0 m pc ls stk) := by
  intro T hT X
  obtain ⟨v, st₀, t, T', L1, h0, X', hL, e1, e2, ⟨⟨v', τ, hv, hp, hb⟩, hz, hk⟩, st9⟩ := hr T hT X
  cases hv
  rw [h0] at hz hk
  obtain ⟨t2, a1, b1⟩ := kk v τ hp T'.heap (locs ++ L1) ls (by rw [e1]; exact hb)
    ⟨Nat.le_trans hS.1 (by rw [e1]; exact hz), fun q h1 h2 => by rw [e1, hk q (Nat.lt_of_lt_of_le h1 hS.1) h2]; exact hS.2.1 q h1 h2, fun q hq => by
      rcases List.mem_append.mp hq with h | h
      · exact hS.2.2 q h
      · exact hL q h⟩ hl T' rfl X'
  exact ⟨t2, st9 t2 a1, b1⟩
abbrev plainY (y : MethodName) (k : Nat) : Prop := y.cls ≠ "java/lang/invoke/MethodHandle" ∧ y.cls ≠ "java/lang/invoke/VarHandle" ∧ (parseMethodDescriptor y.desc).map (fun d => d.parameters.length) = some k
theorem aw_callV {C : String} {index maxL f2 lo2 kb ci : Nat} {y : MethodName} {bytes : ByteArray} {ret : Option FieldType} {av stk : List Value} {post : Option Value → St → Prop} {fs : List Value} {q : vw_C} (G : Gd X V cc own n F Lo) (hd : decode cc pc = .ok (.invokevirtual index, 3)) (w1 : Cond.methodLink own index y ∈ tblG) (w2 : Cond.instanceMethod y ∈ tblG) (w3 : Cond.selects C y y ∈ tblG) (w4 : Cond.initialized C ∈ tblG) (w5 : Cond.code y bytes maxL ret ∈ tblG) (hcl : classes[ci]? = some q) (hq : q.1 = C) (hC : Ct V y bytes maxL ret f2 lo2 (rv V kb :: av) σ post) (hy : y.cls = C ∧ plainY y av.length) (hst : stk = av.reverse ++ rv V kb :: st) (hroom : f2 + 1 ≤ F ∧ 8 + (maxL + 11) + lo2 ≤ Lo) (hcat : (st.map fun v => v.category).sum ≤ 8) (hkb : kb < NC) (hE : ent V σ kb = .inr (ci, fs)) (kk : ∀ v τ, post v τ → AW X V τ (pc + 3) (v.toList ++ st) L) : AW X V σ pc stk L := by
  obtain ⟨p, l, e, R, s, m, args, below, meth, c, nL, kc, ks, Q⟩ := X
  obtain ⟨hx, hb, hnL, hml, hown, hts, hK, hD, hb0, hZ, hT, hF, hLo, hkc, hks, hNW⟩ := G
  intro H locs ls hP hS hl
  subst hst
  refine aw_run (va_runV (As := av) (rest := st) (b := V.2.1 kb) (nL := n) (Ts := tblG) (cc := cc) (own := own) (C := C) (ws := .code y bytes maxL ret :: tblG) (n := av.length) ⟨hx, hb, hml, hown, hts⟩ (hC l) (cwV (C := C) (ws' := tblG) av.length hts (tblG_GI (fun w hw => ?_)) rfl rfl rfl ⟨hy.1, hy.2⟩ ⟨Nat.le_trans hroom.1 hF, Nat.le_trans hroom.2 hLo⟩) ⟨ws_blind, ?_, fun U hU hW => ⟨rfl, ws_of hP hK (hD σ) hb0 hZ hT hNW hS hU hW⟩⟩ rfl rfl (by rw [← hnL]; exact hl.1) rfl (lv_room hcat) hd ⟨hkc, hks⟩) hS hl kk
  · unfold wsV at hw
    rcases List.mem_append.mp hw with h | h
    · simp only [List.mem_cons, List.not_mem_nil, or_false] at h
      rcases h with h | h | h | h <;> subst h <;> assumption
    · rcases List.mem_cons.mp h with h | h
      · subst h; exact w5
      · exact h
  · have := va_recv hK hP (ci := ci) (q0 := kb) hcl (by rw [wld_at V σ hkb, hE])
    rw [hq] at this
    exact this
theorem aw_callS {index maxL f2 lo2 : Nat} {y : MethodName} {bytes : ByteArray} {ret : Option FieldType} {av stk : List Value} {post : Option Value → St → Prop} (G : Gd X V cc own n F Lo) (hd : decode cc pc = .ok (.invokestatic index, 3)) (w1 : Cond.methodLink own index y ∈ tblG) (w2 : Cond.static y ∈ tblG) (w4 : Cond.initialized y.cls ∈ tblG) (w5 : Cond.code y bytes maxL ret ∈ tblG) (hC : Ct V y bytes maxL ret f2 lo2 av σ post) (hy : plainY y av.length) (hst : stk = av.reverse ++ st) (hroom : f2 + 1 ≤ F ∧ 8 + (maxL + 11) + lo2 ≤ Lo) (hcat : (st.map fun v => v.category).sum ≤ 8) (kk : ∀ v τ, post v τ → AW X V τ (pc + 3) (v.toList ++ st) L) : AW X V σ pc stk L := by
  obtain ⟨p, l, e, R, s, m, args, below, meth, c, nL, kc, ks, Q⟩ := X
  obtain ⟨hx, hb, hnL, hml, hown, hts, hK, hD, hb0, hZ, hT, hF, hLo, hkc, hks, hNW⟩ := G
  intro H locs ls hP hS hl
  subst hst
  refine aw_run (va_runS (As := av) (rest := st) (nL := n) (Ts := tblG) (cc := cc) (own := own) (ws := .code y bytes maxL ret :: tblG) (n := av.length) ⟨hx, hb, hml, hown, hts⟩ (hC l) (va_cwS (ws' := tblG) av.length hts (tblG_GI (fun w hw => ?_)) rfl rfl rfl hy ⟨Nat.le_trans hroom.1 hF, Nat.le_trans hroom.2 hLo⟩) ⟨ws_blind, fun U hU hW => ⟨rfl, ws_of hP hK (hD σ) hb0 hZ hT hNW hS hU hW⟩⟩ rfl rfl (by rw [← hnL]; exact hl.1) rfl (lv_room hcat) hd ⟨hkc, hks⟩) hS hl kk
  unfold va_wsS at hw
  rcases List.mem_append.mp hw with h | h
  · simp only [List.mem_cons, List.not_mem_nil, or_false] at h
    rcases h with h | h | h <;> subst h <;> assumption
  · rcases List.mem_cons.mp h with h | h
    · subst h; exact w5
    · exact h
theorem aw_callSN {host : String} {index maxL f2 lo2 : Nat} {y : MethodName} {bytes : ByteArray} {ret : Option FieldType} {av stk : List Value} {post : Option Value → St → Prop} (G : Gd X V cc own n F Lo) (hd : decode cc pc = .ok (.invokestatic index, 3)) (hlw : ∀ s : State, NW s → va_Nw (.methodLinkNest own index y host) s) (w2 : Cond.static y ∈ tblG) (w4 : Cond.initialized y.cls ∈ tblG) (w5 : Cond.code y bytes maxL ret ∈ tblG) (hC : Ct V y bytes maxL ret f2 lo2 av σ post) (hy : plainY y av.length) (hst : stk = av.reverse ++ st) (hroom : f2 + 1 ≤ F ∧ 8 + (maxL + 11) + lo2 ≤ Lo) (hcat : (st.map fun v => v.category).sum ≤ 8) (kk : ∀ v τ, post v τ → AW X V τ (pc + 3) (v.toList ++ st) L) : AW X V σ pc stk L := by
  obtain ⟨p, l, e, R, s, m, args, below, meth, c, nL, kc, ks, Q⟩ := X
  obtain ⟨hx, hb, hnL, hml, hown, hts, hK, hD, hb0, hZ, hT, hF, hLo, hkc, hks, hNW⟩ := G
  intro H locs ls hP hS hl
  subst hst
  refine aw_run (va_runSN (As := av) (rest := st) (nL := n) (Ts := tblG) (cc := cc) (own := own) (host := host) (ws := .code y bytes maxL ret :: tblG) (n := av.length) ⟨hx, hb, hml, hown, hts⟩ (hC l) ⟨va_cnB (ws' := tblG) av.length hts (tblG_GI (fun w hw => ?_)) rfl rfl rfl (hlw s hNW) (hts _ w4) hy ⟨Nat.le_trans hroom.1 hF, Nat.le_trans hroom.2 hLo⟩, hts _ w2, trivial⟩ ⟨ws_blind, fun U hU hW => ⟨rfl, ws_of hP hK (hD σ) hb0 hZ hT hNW hS hU hW⟩⟩ rfl rfl (by rw [← hnL]; exact hl.1) rfl (lv_room hcat) hd ⟨hkc, hks⟩) hS hl kk
  rcases List.mem_cons.mp hw with h | h
  · subst h; exact w5
  · exact h
theorem kk_I {p : Int → St → Prop} (k : ∀ r τ, p r τ → AW X V τ pc (iv r :: st) L) : ∀ v τ, PI p v τ → AW X V τ pc (v.toList ++ st) L := by
  rintro v τ ⟨r, rfl, h⟩
  exact k r τ h
theorem kk_J {p : Int → St → Prop} (k : ∀ r τ, p r τ → AW X V τ pc (jv r :: st) L) : ∀ v τ, PJ p v τ → AW X V τ pc (v.toList ++ st) L := by
  rintro v τ ⟨r, rfl, h⟩
  exact k r τ h
theorem kk_V {p : St → Prop} (k : ∀ τ, p τ → AW X V τ pc st L) : ∀ v τ, PV p v τ → AW X V τ pc (v.toList ++ st) L := by
  rintro v τ ⟨rfl, h⟩
  exact k τ h
/-! a method's end and its start -/
def Rt (X : Cx) (V : Wd) (ret : Option FieldType) (post : Option Value → St → Prop) : Prop :=
  match X with
  | (_, _, _, _, s, _, args, below, meth, _, _, kc, ks, Q) => meth.sig.returnType = ret ∧ meth.locks = false ∧ kc = 0 ∧ ks = 0 ∧ Q = MQ below (QcW V post) args s 0 0 (fr V)
theorem aw_iret {x : Int} {p0 : Int → St → Prop} (G : Gd X V cc own n F Lo) (T0 : Rt X V (some .int) (PI p0)) (hd : decode cc pc = .ok (.ireturn, 1)) (hp : p0 x σ) : AW X V σ pc [iv x] L := by
  obtain ⟨p, l, e, R, s, m, args, below, meth, c, nL, kc, ks, Q⟩ := X
  obtain ⟨hx, hb, hnL, hml, hown, hts, hK, hD, hb0, hZ, hT, hF, hLo, hkc, hks, hNW⟩ := G
  obtain ⟨hr, hlocks, rfl, rfl, rfl⟩ := T0
  intro H locs ls hP hS hl
  exact W.iret (v := Int32.ofInt x) hx hb hr (fun t ht hW => ⟨⟨_, σ, rfl, ⟨x, rfl, hp⟩, by rw [ht]; exact hP⟩, hS.F ht⟩) hS.2.2 hd
theorem aw_zret {x : Int} {p0 : Int → St → Prop} (G : Gd X V cc own n F Lo) (T0 : Rt X V (some .boolean) (PI p0)) (hd : decode cc pc = .ok (.ireturn, 1)) (hx0 : x = 0 ∨ x = 1) (hp : p0 x σ) : AW X V σ pc [iv x] L := by
  obtain ⟨p, l, e, R, s, m, args, below, meth, c, nL, kc, ks, Q⟩ := X
  obtain ⟨hx, hb, hnL, hml, hown, hts, hK, hD, hb0, hZ, hT, hF, hLo, hkc, hks, hNW⟩ := G
  obtain ⟨hr, hlocks, rfl, rfl, rfl⟩ := T0
  intro H locs ls hP hS hl
  exact W.zret (v := Int32.ofInt x) hx hb hr (by rcases hx0 with h | h <;> subst h <;> rfl) (fun t ht hW => ⟨⟨_, σ, rfl, ⟨x, rfl, hp⟩, by rw [ht]; exact hP⟩, hS.F ht⟩) hS.2.2 hd
theorem aw_lret {x : Int} {p0 : Int → St → Prop} (G : Gd X V cc own n F Lo) (T0 : Rt X V (some .long) (PJ p0)) (hd : decode cc pc = .ok (.lreturn, 1)) (hp : p0 x σ) : AW X V σ pc [jv x] L := by
  obtain ⟨p, l, e, R, s, m, args, below, meth, c, nL, kc, ks, Q⟩ := X
  obtain ⟨hx, hb, hnL, hml, hown, hts, hK, hD, hb0, hZ, hT, hF, hLo, hkc, hks, hNW⟩ := G
  obtain ⟨hr, hlocks, rfl, rfl, rfl⟩ := T0
  intro H locs ls hP hS hl
  exact W.lret (v := Int64.ofInt x) hx hb hr (fun t ht hW => ⟨⟨_, σ, rfl, ⟨x, rfl, hp⟩, by rw [ht]; exact hP⟩, hS.F ht⟩) hS.2.2 hd
theorem aw_vret {p0 : St → Prop} (G : Gd X V cc own n F Lo) (T0 : Rt X V none (PV p0)) (hd : decode cc pc = .ok (.return_, 1)) (hp : p0 σ) : AW X V σ pc [] L := by
  obtain ⟨p, l, e, R, s, m, args, below, meth, c, nL, kc, ks, Q⟩ := X
  obtain ⟨hx, hb, hnL, hml, hown, hts, hK, hD, hb0, hZ, hT, hF, hLo, hkc, hks, hNW⟩ := G
  obtain ⟨hr, hlocks, rfl, rfl, rfl⟩ := T0
  intro H locs ls hP hS hl
  exact W.vret hx hb hr (fun t ht hW => ⟨⟨_, σ, rfl, ⟨rfl, hp⟩, by rw [ht]; exact hP⟩, hS.F ht⟩) hS.2.2 hd
def lini : Nat → List Value → List (Option Value)
  | n, [] => List.replicate n none
  | 0, _ :: _ => []
  | n + 1, v :: r => if v.category = 2 then some v :: none :: lini (n - 1) r else some v :: lini n r
theorem lini_ok : ∀ (vs : List Value) (n i0 j : Nat) (v : Value), (lini n vs)[j]? = some (some v) → (i0 + j, v) ∈ lv_args i0 vs
  | [], n, i0, j, v, h => by
    unfold lini at h
    rw [List.getElem?_replicate] at h
    split at h <;> cases h
  | u :: vs, 0, i0, j, v, h => by
    unfold lini at h
    simp at h
  | u :: vs, n + 1, i0, j, v, h => by
    unfold lini at h
    unfold lv_args
    by_cases hc : u.category = 2
    · rw [if_pos hc] at h
      rw [if_pos hc]
      match j, h with
      | 0, h =>
        simp at h
        subst h
        exact List.mem_cons_self
      | 1, h => simp at h
      | j + 2, h =>
        have := lini_ok vs (n - 1) (i0 + 2) j v (by simpa using h)
        rw [show i0 + 2 + j = i0 + (j + 2) by omega] at this
        exact List.mem_cons_of_mem _ this
    · rw [if_neg hc] at h
      rw [if_neg hc]
      match j, h with
      | 0, h =>
        simp at h
        subst h
        exact List.mem_cons_self
      | j + 1, h =>
        have := lini_ok vs n (i0 + 1) j v (by simpa using h)
        rw [show i0 + 1 + j = i0 + (j + 1) by omega] at this
        exact List.mem_cons_of_mem _ this
theorem ct_of {y : MethodName} {bytes : ByteArray} {maxL f2 lo2 : Nat} {ret : Option FieldType} {av : List Value} {post : Option Value → St → Prop} (hy : plainName y.cls = true) (hlen : (lg_sl av).length ≤ maxL) (body : ∀ X : Cx, Gd X V bytes y.cls maxL f2 lo2 → Rt X V ret post → AW X V σ 0 [] (lini maxL av)) : Ct V y bytes maxL ret f2 lo2 av σ post := by
  intro l
  refine Met.ofW (cc := bytes) (maxL := maxL) (ret := ret) hy rfl ?_
  intro p e s m args below meth c s₁ B hml hv
  obtain ⟨rfl, hP, hK, hD, hb0, hZ, hT, hNW⟩ := hv
  have hts := atoms_spec (ws := .code y bytes maxL ret :: tblG) B.pre
  have hown : s.vm.findClass y.cls = some m.cls := findClass_of_methodNamed B.named
  have hl := lv_entry av (n := maxL) hlen
  rw [lg_entry_eq]
  generalize (lg_sl av ++ List.replicate (maxL - (lg_sl av).length) Slot.unset).toArray = ls at hl ⊢
  have hG : Gd (p, l, e, (headSpec (.code y bytes maxL ret :: tblG) ({ frames := f2, cells := 0, slots := 0, locals := lo2 } : Room)).room, s, m, av.toArray, below, meth, c, maxL, 0, 0, MQ below (QcW V post) av.toArray s 0 0 (fr V)) V bytes y.cls maxL f2 lo2 := ⟨B.exec, B.bytes, rfl, hml, hown, fun w hw => hts w (List.mem_cons_of_mem _ hw), hK, fun τ => wld_D σ τ hD, hb0, hZ, hT, Nat.le_refl _, Nat.le_refl _, Nat.le_refl _, Nat.le_refl _, hNW⟩
  exact body _ hG ⟨B.returns, B.notSynchronized, rfl, rfl, rfl⟩ s.heap [] ls hP va_S.rf (lvl_sub hl fun i v hi => by simpa using lini_ok av maxL 0 i v hi)
end ROWS
