theorem aw_alen {X : Cx} {V : Wd} {σ : St} {pc n F Lo : Nat} {st : List Value} {L : List (Option Value)} {cc : ByteArray} {own : String} {k N : Nat} (G : Gd X V cc own n F Lo) (hd : decode cc pc = .ok (.arraylength, 1)) (hk : k < NC := by first | decide | assumption) (hE : lay k = iE N := by first | rfl | assumption) (kk : AW X V σ (pc + 1) (iv N :: st) L) : AW X V σ pc (rv V k :: st) L := by
  obtain ⟨p, l, e, R, s, m, args, below, meth, c, nL, kc, ks, Q⟩ := X
  obtain ⟨hx, hb, hnL, hml, hown, hts, hK, hD, hb0, hZ, hT, hF, hLo, hkc, hks, hNW⟩ := G
  intro H locs ls hP hS hl
  refine va_alen (x := (N, .inl (fun i : Nat => Int32.ofInt (σ k i)))) (v := Int32.ofInt N) hx hb hK hP k 0 (by rw [wld_at V σ hk]; unfold ent; rw [hE]; rfl) rfl Int32.ofInt_eq_ofNat.symm hd ?_
  exact kk H locs ls hP hS hl
theorem ct_mono {V : Wd} {y : MethodName} {bytes : ByteArray} {maxL f2 lo2 : Nat} {ret : Option FieldType} {av : List Value} {σ : St} {post post' : Option Value → St → Prop} (h : Ct V y bytes maxL ret f2 lo2 av σ post) (hp : ∀ v τ, post v τ → post' v τ) : Ct V y bytes maxL ret f2 lo2 av σ post' := by
  intro l p e ha hc hk s m args below hf happ hP hK
  obtain ⟨k, o, h1, h2, h3, ⟨⟨v, τ, q1, q2, q3⟩, q4⟩, q5⟩ := h l p e ha hc hk s m args below hf happ hP hK
  exact ⟨k, o, h1, h2, h3, ⟨⟨v, τ, q1, hp v τ q2, q3⟩, q4⟩, q5⟩
theorem ct_I {V : Wd} {y : MethodName} {bytes : ByteArray} {maxL f2 lo2 : Nat} {ret : Option FieldType} {av : List Value} {σ : St} {p p' : Int → St → Prop} (h : Ct V y bytes maxL ret f2 lo2 av σ (PI p)) (hp : ∀ r τ, p r τ → p' r τ) : Ct V y bytes maxL ret f2 lo2 av σ (PI p') := ct_mono h (by
  rintro v τ ⟨r, rfl, q⟩
  exact ⟨r, rfl, hp r τ q⟩)
theorem cpy_o {σ : St} {k0 k1 k' : Nat} {sp dp m j : Int} (h : k' ≠ k1) : cpy σ k0 sp k1 dp m k' j = σ k' j := by
  unfold cpy
  rw [if_neg (fun q => h q.1)]
theorem cpy_i {σ : St} {k0 k1 : Nat} {sp dp m j : Int} (h : dp ≤ j ∧ j < dp + m) : cpy σ k0 sp k1 dp m k1 j = σ k0 (sp + (j - dp)) := by
  unfold cpy
  rw [if_pos ⟨rfl, h⟩]
theorem cpy_r {σ : St} {k0 k1 k' : Nat} {sp dp m : Int} (h : k' ≠ k1) : cpy σ k0 sp k1 dp m k' = σ k' := funext fun _ => cpy_o h
theorem fill_o {σ : St} {k k' : Nat} {n j : Int} {f : Int → Int} (h : k' ≠ k) : fill σ k n f k' j = σ k' j := by
  unfold fill
  rw [if_neg (fun q => h q.1)]
theorem fill_r {σ : St} {k k' : Nat} {n : Int} {f : Int → Int} (h : k' ≠ k) : fill σ k n f k' = σ k' := funext fun _ => fill_o h
theorem fill_i {σ : St} {k : Nat} {n j : Int} {f : Int → Int} (h : 0 ≤ j ∧ j < n) : fill σ k n f k j = f j := by
  unfold fill
  rw [if_pos ⟨rfl, h⟩]
theorem fill_0 {σ : St} {k : Nat} {f : Int → Int} : fill σ k 0 f = σ := by
  funext k' j
  unfold fill
  rw [if_neg (by omega)]
theorem fill_s {σ : St} {k : Nat} {n : Int} {f : Int → Int} (h : 0 ≤ n) : up (fill σ k n f) k n (f n) = fill σ k (n + 1) f := by
  funext k' j
  unfold up fill
  by_cases h1 : k' = k
  · by_cases h2 : j = n
    · subst h2
      rw [if_pos ⟨h1, rfl⟩, if_pos ⟨h1, by omega, by omega⟩]
    · rw [if_neg (fun q => h2 q.2)]
      by_cases h3 : 0 ≤ j ∧ j < n
      · rw [if_pos ⟨h1, h3⟩, if_pos ⟨h1, by omega, by omega⟩]
      · rw [if_neg (fun q => h3 q.2), if_neg (fun q => h3 ⟨q.2.1, by omega⟩)]
  · rw [if_neg (fun q => h1 q.1), if_neg (fun q => h1 q.1), if_neg (fun q => h1 q.1)]
/-- a sum depends on the net's cells alone -/
theorem nwt_c {σ τ : St} {b c : Nat} {p l : Int} (h1 : σ (b + 1) l = τ (c + 1) l) (h2 : σ (b + 2) l = τ (c + 2) l) (h3 : σ (b + 3) l = τ (c + 3) l) (h4 : σ (b + 4) l = τ (c + 4) l) : nwt σ b p l = nwt τ c p l := by
  unfold nwt
  rw [h1, h2, h3, h4]
theorem sumTo_c {f g : Int → Int} : ∀ {n : Nat}, (∀ i : Int, 0 ≤ i → i < n → f i = g i) → sumTo f n = sumTo g n
  | 0, _ => rfl
  | n + 1, h => by
    unfold sumTo
    rw [sumTo_c (fun i a b => h i a (by omega)), h n (by omega) (by omega)]
def NetEq (σ : St) (b : Nat) (τ : St) (c : Nat) : Prop := σ b 0 = τ c 0 ∧ σ b 1 = τ c 1 ∧ ∀ i : Int, 0 ≤ i → i < 8 → σ (b + 1) i = τ (c + 1) i ∧ σ (b + 2) i = τ (c + 2) i ∧ σ (b + 3) i = τ (c + 3) i ∧ σ (b + 4) i = τ (c + 4) i ∧ σ (b + 5) i = τ (c + 5) i
theorem NetEq.w {σ τ : St} {b c : Nat} (h : NetEq σ b τ c) {p l : Int} (hl : 0 ≤ l ∧ l < 8) : nwt σ b p l = nwt τ c p l := by
  obtain ⟨-, -, h⟩ := h
  have := h l hl.1 hl.2
  exact nwt_c this.1 this.2.1 this.2.2.1 this.2.2.2.1
theorem NetEq.s {σ τ : St} {b c : Nat} (h : NetEq σ b τ c) (hL : σ b 1 ≤ 8) (p : Int) : nsum σ b p = nsum τ c p := by
  unfold nsum
  rw [← h.2.1]
  refine sumTo_c fun i h0 h1 => ?_
  rw [h.w ⟨h0, by omega⟩, (h.2.2 i h0 (by omega)).2.2.2.2]
theorem NetEq.ok {σ τ : St} {b c : Nat} (h : NetEq σ b τ c) (hL : NetOK τ c) : NetOK σ b := by
  obtain ⟨q1, q2, q3⟩ := h
  obtain ⟨p1, p2, p3, p4, p5, p6⟩ := hL
  refine ⟨by omega, by omega, by omega, by omega, fun i h0 h1 => ?_, fun i h0 h1 => ?_⟩
  · obtain ⟨r1, r2, r3, r4, r5⟩ := q3 i h0 h1
    rw [r1, r2, r3, r4, r5]
    exact p5 i h0 h1
  · obtain ⟨r1, r2, r3, r4, r5⟩ := q3 i h0 (by omega)
    rw [r3, r4, q1]
    exact p6 i h0 (by omega)
theorem nsum_R {σ : St} {b : Nat} (h : RowOK σ b) (hL : 0 ≤ σ b 1 ∧ σ b 1 ≤ 8) (p : Int) : 0 ≤ nsum σ b p ∧ nsum σ b p ≤ 10296 := by
  have key : ∀ n : Nat, n ≤ 8 → 0 ≤ sumTo (fun l => nwt σ b p l * σ (b + 5) l) n ∧ sumTo (fun l => nwt σ b p l * σ (b + 5) l) n ≤ 1287 * n := by
    intro n
    induction n with
    | zero => intro _; unfold sumTo; omega
    | succ n ih =>
      intro hn
      have h1 := ih (by omega)
      have hr := h n (by omega) (by omega)
      have hw := nwt_R (σ := σ) (b := b) (p := p) (l := n) ⟨hr.2.2.1, hr.2.2.2.1⟩
      have h2 : 0 ≤ nwt σ b p n * σ (b + 5) n := Int.mul_nonneg hw.1 (by omega)
      have h3 : nwt σ b p n * σ (b + 5) n ≤ 13 * 99 := Int.mul_le_mul hw.2 (by omega) (by omega) (by omega)
      unfold sumTo
      omega
  have := key (σ b 1).toNat (by omega)
  unfold nsum
  omega
theorem upF_ok : True := trivial
def aboveK (j : Int) : Int := if j = 0 then -1 else if j = 3 then 1 else if j = 4 then 2 else 0
def upF : Nat → Int → Int → Prop
  | 0, _, _ => False
  | n + 1, a, u => 0 ≤ a ∧ a < 6 ∧ (a = u ∨ upF n (aboveK a) u)
set_option maxHeartbeats 4000000 in
theorem c_X0_isUnder {V : Wd} {σ : St} {k u : Int} (hk : 0 ≤ k ∧ k ≤ 5) (hu : inR u) : Ct V yX0_isUnder cX0_isUnder 4 (some .boolean) 1 20 [iv k, iv u] σ (PI (fun r τ => r = bP (upF 6 k u) ∧ τ = σ)) := by
  refine ct_of (by decide) (Nat.le_of_ble_eq_true rfl) (fun X G T => ?_)
  have G : Gd X V cX0_isUnder RX0 4 1 20 := G
  show AW X V σ 0 [] [some (iv k), some (iv u), none, none]
  have loop : ∀ (n0 : Nat) (i : Int) (a : Int), (0 ≤ i ∧ i ≤ 6) → (6 < i + (n0 : Int)) → (-1 ≤ a ∧ a ≤ 5) → (bP (upF (6 - i).toNat a u) = bP (upF 6 k u)) → AW X V (σ) 4 [] [some (iv k), some (iv u), some (iv a), some (iv i)] := by
    intro n0
    induction n0 with
    | zero =>
      intro i a h0 h1 ha hq
      exfalso
      omega
    | succ n0 ih =>
      intro i a h0 h1 ha hq
      refine aw_iload_n G dX0_isUnder_4 rfl ?_
      refine aw_bipush G dX0_isUnder_5 (k := ?_)
      refine aw_icmp_ge (tgt := 36) G dX0_isUnder_7 (by decide) (by omega) (by omega) (fun c7 => ?_) (fun c7 => ?_)
      · rw [show (6 - i).toNat = 0 by omega] at hq
        refine aw_iconst G dX0_isUnder_36 ?_
        exact aw_zret G T dX0_isUnder_37 (by first | exact Or.inl rfl | exact Or.inr rfl | assumption) (⟨by first | (rw [← hq]; exact (bP_f id).symm) | (rw [← hq, show (6 - i).toNat = (6 - (i + 1)).toNat + 1 by omega]; unfold upF; exact (bP_f (fun q => by have := b01_t (P := 0 ≤ a ∧ a < 6) ⟨q.1, q.2.1⟩; omega)).symm), rfl⟩)
      · refine aw_iload_n G dX0_isUnder_10 rfl ?_
        refine cs_X0_9 G dX0_isUnder_11 (c_X9_isKind (by first | assumption | omega)) (kk := fun r11 t11 h11 => ?_)
        obtain ⟨rfl, rfl⟩ := h11
        refine aw_if_eq (tgt := 36) G dX0_isUnder_14 (by decide) (b01_R _) (fun c14 => ?_) (fun c14 => ?_)
        · refine aw_iconst G dX0_isUnder_36 ?_
          exact aw_zret G T dX0_isUnder_37 (by first | exact Or.inl rfl | exact Or.inr rfl | assumption) (⟨by first | (rw [← hq]; exact (bP_f id).symm) | (rw [← hq, show (6 - i).toNat = (6 - (i + 1)).toNat + 1 by omega]; unfold upF; exact (bP_f (fun q => by have := b01_t (P := 0 ≤ a ∧ a < 6) ⟨q.1, q.2.1⟩; omega)).symm), rfl⟩)
        · refine aw_iload_n G dX0_isUnder_17 rfl ?_
          refine aw_iload_n G dX0_isUnder_18 rfl ?_
          refine aw_icmp_ne (tgt := 24) G dX0_isUnder_19 (by decide) (by omega) (hu) (fun c19 => ?_) (fun c19 => ?_)
          · refine gs_X0_13 G dX0_isUnder_24 ?_
            refine aw_iload_n G dX0_isUnder_27 rfl ?_
            refine aw_tiald G dX0_isUnder_28 (by have := b01_f (P := 0 ≤ a ∧ a < 6); omega) ?_
            refine aw_istore_2 G dX0_isUnder_29 (k := ?_)
            refine aw_iinc_3 G dX0_isUnder_30 rfl (k := ?_)
            refine aw_goto (tgt := 4) G dX0_isUnder_33 (by decide) ?_
            refine ih (i + 1) (aboveK a) (by omega) (by omega) (by unfold aboveK; omega) ?_
            rw [show (6 - i).toNat = (6 - (i + 1)).toNat + 1 by omega] at hq
            rw [← hq]
            show bP (upF (6 - (i + 1)).toNat (aboveK a) u) = bP (0 ≤ a ∧ a < 6 ∧ (a = u ∨ upF (6 - (i + 1)).toNat (aboveK a) u))
            exact bP_c ⟨fun q => ⟨by have := b01_f (P := 0 ≤ a ∧ a < 6); omega, by have := b01_f (P := 0 ≤ a ∧ a < 6); omega, Or.inr q⟩, fun q => q.2.2.elim (fun e => absurd e c19) id⟩
          · refine aw_iconst G dX0_isUnder_22 ?_
            exact aw_zret G T dX0_isUnder_23 (by first | exact Or.inl rfl | exact Or.inr rfl | assumption) (⟨by rw [← hq, show (6 - i).toNat = (6 - (i + 1)).toNat + 1 by omega]; unfold upF; exact (bP_t ⟨by have := b01_f (P := 0 ≤ a ∧ a < 6); omega, by have := b01_f (P := 0 ≤ a ∧ a < 6); omega, Or.inl c19⟩).symm, rfl⟩)
  refine aw_iload_n G dX0_isUnder_0 rfl ?_
  refine aw_istore_2 G dX0_isUnder_1 (k := ?_)
  refine aw_iconst G dX0_isUnder_2 ?_
  refine aw_istore_3 G dX0_isUnder_3 (k := ?_)
  exact loop 7 0 k (by omega) (by omega) (by omega) rfl
theorem nsum_f {σ : St} {k : Nat} {n : Int} {f : Int → Int} (b : Nat) (h : k ≠ b ∧ k ≠ b + 1 ∧ k ≠ b + 2 ∧ k ≠ b + 3 ∧ k ≠ b + 4 ∧ k ≠ b + 5) (p : Int) : nsum (fill σ k n f) b p = nsum σ b p := by
  unfold nsum nwt
  rw [fill_r (Ne.symm h.1), fill_r (Ne.symm h.2.1), fill_r (Ne.symm h.2.2.1), fill_r (Ne.symm h.2.2.2.1), fill_r (Ne.symm h.2.2.2.2.1), fill_r (Ne.symm h.2.2.2.2.2)]
theorem RowOK_f {σ : St} {k : Nat} {n : Int} {f : Int → Int} (b : Nat) (h : k ≠ b ∧ k ≠ b + 1 ∧ k ≠ b + 2 ∧ k ≠ b + 3 ∧ k ≠ b + 4 ∧ k ≠ b + 5) (q : RowOK σ b) : RowOK (fill σ k n f) b := by
  unfold RowOK
  rw [fill_r (Ne.symm h.2.1), fill_r (Ne.symm h.2.2.1), fill_r (Ne.symm h.2.2.2.1), fill_r (Ne.symm h.2.2.2.2.1), fill_r (Ne.symm h.2.2.2.2.2)]
  exact q
set_option maxHeartbeats 4000000 in
theorem c_X3_fillSums {V : Wd} {σ : St}  (h : NetOK σ 1) : Ct V yX3_fillSums cX3_fillSums 3 none 4 89 [rv V 1, rv V 73] σ (PV (fun τ => τ = fill σ 73 (σ 1 0) (nsum σ 1))) := by
  refine ct_of (by decide) (Nat.le_of_ble_eq_true rfl) (fun X G T => ?_)
  have G : Gd X V cX3_fillSums RX3 3 4 89 := G
  show AW X V σ 0 [] [some (rv V 1), some (rv V 73), none]
  obtain ⟨p1, p2, p3, p4, p5, p6⟩ := h
  have loop : ∀ (n0 : Nat) (i : Int), (0 ≤ i ∧ i ≤ σ 1 0) → (σ 1 0 < i + (n0 : Int)) → AW X V (fill σ 73 i (nsum σ 1)) 2 [] [some (rv V 1), some (rv V 73), some (iv i)] := by
    intro n0
    induction n0 with
    | zero =>
      intro i h0 h1
      exfalso
      omega
    | succ n0 ih =>
      intro i h0 h1
      refine aw_iload_n G dX3_fillSums_2 rfl ?_
      refine aw_aload_n G dX3_fillSums_3 rfl ?_
      refine gf_X3_9 G dX3_fillSums_4 (kk := ?_)
      rw [fill_o (show (1:Nat) ≠ 73 by decide)]
      refine aw_icmp_ge (tgt := 24) G dX3_fillSums_7 (by decide) (by omega) (by omega) (fun c7 => ?_) (fun c7 => ?_)
      · exact aw_vret G T dX3_fillSums_24 (by rw [show i = σ 1 0 by omega])
      · refine aw_aload_n G dX3_fillSums_10 rfl ?_
        refine aw_iload_n G dX3_fillSums_11 rfl ?_
        refine aw_aload_n G dX3_fillSums_12 rfl ?_
        refine aw_iload_n G dX3_fillSums_13 rfl ?_
        refine cv_X3_57 G dX3_fillSums_14 (c_X3_sumAt (by omega) (by rw [fill_o (show (1:Nat) ≠ 73 by decide)]; omega) (RowOK_f 1 (by decide) p5)) (kk := fun r14 t14 h14 => ?_)
        obtain ⟨rfl, rfl⟩ := h14
        rw [nsum_f 1 (by decide)]
        refine aw_iastore G dX3_fillSums_17 (by first | decide | assumption | omega) (by first | rfl | assumption) (by first | decide | assumption) (by omega) ?_
        refine aw_iinc_2 G dX3_fillSums_18 rfl (k := ?_)
        refine aw_goto (tgt := 2) G dX3_fillSums_21 (by decide) ?_
        rw [fill_s (by omega)]
        exact ih (i + 1) (by omega) (by omega)
  refine aw_iconst G dX3_fillSums_0 ?_
  refine aw_istore_2 G dX3_fillSums_1 (k := ?_)
  have := loop (σ 1 0 + 1).toNat 0 (by omega) (by omega)
  rw [fill_0] at this
  exact this
def cpNet (σ : St) (a b : Nat) : St := cpy (cpy (cpy (cpy (cpy (up (up σ a 0 (σ b 0)) a 1 (σ b 1)) (b + 1) 0 (a + 1) 0 8) (b + 2) 0 (a + 2) 0 8) (b + 3) 0 (a + 3) 0 8) (b + 4) 0 (a + 4) 0 8) (b + 5) 0 (a + 5) 0 8
set_option maxHeartbeats 4000000 in
theorem c_X3_copyFrom {V : Wd} {σ : St} {a b : Nat} (ha : isNet a) (hb : isNet b) (hab : a + 5 < b ∨ b + 5 < a) : Ct V yX3_copyFrom cX3_copyFrom 2 none 1 40 [rv V a, rv V b] σ (PV (fun τ => τ = cpNet σ a b)) := by
  refine ct_of (by decide) (Nat.le_of_ble_eq_true rfl) (fun X G T => ?_)
  have G : Gd X V cX3_copyFrom RX3 2 1 40 := G
  show AW X V σ 0 [] [some (rv V a), some (rv V b)]
  obtain ⟨hEa, h1a, h2a, h3a, h4a, h5a, hNa⟩ := ha
  have hk0a : a < NC := by show a < 97; omega
  have hk1a : a + 1 < NC := by show a + 1 < 97; omega
  have hk2a : a + 2 < NC := by show a + 2 < 97; omega
  have hk3a : a + 3 < NC := by show a + 3 < 97; omega
  have hk4a : a + 4 < NC := by show a + 4 < 97; omega
  have hk5a : a + 5 < NC := by show a + 5 < 97; omega
  obtain ⟨hEb, h1b, h2b, h3b, h4b, h5b, hNb⟩ := hb
  have hk0b : b < NC := by show b < 97; omega
  have hk1b : b + 1 < NC := by show b + 1 < 97; omega
  have hk2b : b + 2 < NC := by show b + 2 < 97; omega
  have hk3b : b + 3 < NC := by show b + 3 < 97; omega
  have hk4b : b + 4 < NC := by show b + 4 < 97; omega
  have hk5b : b + 5 < NC := by show b + 5 < 97; omega
  refine aw_aload_n G dX3_copyFrom_0 rfl ?_
  refine aw_aload_n G dX3_copyFrom_1 rfl ?_
  refine gf_X3_9 G dX3_copyFrom_2 (kk := ?_)
  refine pf_X3_9 G dX3_copyFrom_5 (kk := ?_)
  refine aw_aload_n G dX3_copyFrom_8 rfl ?_
  refine aw_aload_n G dX3_copyFrom_9 rfl ?_
  refine gf_X3_15 G dX3_copyFrom_10 (kk := ?_)
  rw [up_o (show b ≠ a by omega)]
  refine pf_X3_15 G dX3_copyFrom_13 (kk := ?_)
  refine aw_aload_n G dX3_copyFrom_16 rfl ?_
  refine gf_X3_18 G dX3_copyFrom_17 (kk := ?_)
  refine aw_iconst G dX3_copyFrom_20 ?_
  refine aw_aload_n G dX3_copyFrom_21 rfl ?_
  refine gf_X3_18 G dX3_copyFrom_22 (kk := ?_)
  refine aw_iconst G dX3_copyFrom_25 ?_
  refine aw_bipush G dX3_copyFrom_26 (k := ?_)
  refine ca_X3_34 G dX3_copyFrom_28 (h := by omega) (kk := ?_)
  refine aw_aload_n G dX3_copyFrom_31 rfl ?_
  refine gf_X3_22 G dX3_copyFrom_32 (kk := ?_)
  refine aw_iconst G dX3_copyFrom_35 ?_
  refine aw_aload_n G dX3_copyFrom_36 rfl ?_
  refine gf_X3_22 G dX3_copyFrom_37 (kk := ?_)
  refine aw_iconst G dX3_copyFrom_40 ?_
  refine aw_bipush G dX3_copyFrom_41 (k := ?_)
  refine ca_X3_34 G dX3_copyFrom_43 (h := by omega) (kk := ?_)
  refine aw_aload_n G dX3_copyFrom_46 rfl ?_
  refine gf_X3_25 G dX3_copyFrom_47 (kk := ?_)
  refine aw_iconst G dX3_copyFrom_50 ?_
  refine aw_aload_n G dX3_copyFrom_51 rfl ?_
  refine gf_X3_25 G dX3_copyFrom_52 (kk := ?_)
  refine aw_iconst G dX3_copyFrom_55 ?_
  refine aw_bipush G dX3_copyFrom_56 (k := ?_)
  refine ca_X3_34 G dX3_copyFrom_58 (h := by omega) (kk := ?_)
  refine aw_aload_n G dX3_copyFrom_61 rfl ?_
  refine gf_X3_28 G dX3_copyFrom_62 (kk := ?_)
  refine aw_iconst G dX3_copyFrom_65 ?_
  refine aw_aload_n G dX3_copyFrom_66 rfl ?_
  refine gf_X3_28 G dX3_copyFrom_67 (kk := ?_)
  refine aw_iconst G dX3_copyFrom_70 ?_
  refine aw_bipush G dX3_copyFrom_71 (k := ?_)
  refine ca_X3_34 G dX3_copyFrom_73 (h := by omega) (kk := ?_)
  refine aw_aload_n G dX3_copyFrom_76 rfl ?_
  refine gf_X3_31 G dX3_copyFrom_77 (kk := ?_)
  refine aw_iconst G dX3_copyFrom_80 ?_
  refine aw_aload_n G dX3_copyFrom_81 rfl ?_
  refine gf_X3_31 G dX3_copyFrom_82 (kk := ?_)
  refine aw_iconst G dX3_copyFrom_85 ?_
  refine aw_bipush G dX3_copyFrom_86 (k := ?_)
  refine ca_X3_34 G dX3_copyFrom_88 (h := by omega) (kk := ?_)
  exact aw_vret G T dX3_copyFrom_91 (rfl)

theorem cpNet_eq {σ : St} {a b : Nat} (hab : a + 5 < b ∨ b + 5 < a) : NetEq (cpNet σ a b) a σ b := by
  unfold cpNet
  refine ⟨?_, ?_, fun i h0 h1 => ⟨?_, ?_, ?_, ?_, ?_⟩⟩
  · simp [cpy, up]
  · simp [cpy, up]
  · rw [cpy_o (by omega), cpy_o (by omega), cpy_o (by omega), cpy_o (by omega), cpy_i (by omega), up_o (by omega), up_o (by omega)]
    congr 1
    omega
  · rw [cpy_o (by omega), cpy_o (by omega), cpy_o (by omega), cpy_i (by omega), cpy_o (by omega), up_o (by omega), up_o (by omega)]
    congr 1
    omega
  · rw [cpy_o (by omega), cpy_o (by omega), cpy_i (by omega), cpy_o (by omega), cpy_o (by omega), up_o (by omega), up_o (by omega)]
    congr 1
    omega
  · rw [cpy_o (by omega), cpy_i (by omega), cpy_o (by omega), cpy_o (by omega), cpy_o (by omega), up_o (by omega), up_o (by omega)]
    congr 1
    omega
  · rw [cpy_i (by omega), cpy_o (by omega), cpy_o (by omega), cpy_o (by omega), cpy_o (by omega), up_o (by omega), up_o (by omega)]
    congr 1
    omega
theorem cpNet_r {σ : St} {a b k : Nat} (h : k < a ∨ a + 5 < k) : cpNet σ a b k = σ k := by
  unfold cpNet
  rw [cpy_r (by omega), cpy_r (by omega), cpy_r (by omega), cpy_r (by omega), cpy_r (by omega), up_ne (by omega), up_ne (by omega)]
theorem lay_p1 : ∀ j : Nat, j < 8 → lay (23 + j) = iE 8 := by
  intro j h
  rcases j with _ | _ | _ | _ | _ | _ | _ | _ | j <;> first | rfl | omega
theorem lay_p2 : ∀ j : Nat, j < 8 → lay (31 + j) = iE 8 := by
  intro j h
  rcases j with _ | _ | _ | _ | _ | _ | _ | _ | j <;> first | rfl | omega
theorem lay_p3 : ∀ j : Nat, j < 8 → lay (39 + j) = iE 8 := by
  intro j h
  rcases j with _ | _ | _ | _ | _ | _ | _ | _ | j <;> first | rfl | omega
theorem lay_l : ∀ j : Nat, j < 3 → lay (68 + j) = iE 40 := by
  intro j h
  rcases j with _ | _ | _ | j <;> first | rfl | omega
theorem lay_s : ∀ j : Nat, j < 7 → lay (55 + j) = jE 8 := by
  intro j h
  rcases j with _ | _ | _ | _ | _ | _ | _ | j <;> first | rfl | omega
set_option maxHeartbeats 4000000 in
theorem c_X4_forget {V : Wd} {σ : St}   : Ct V yX4_forget cX4_forget 1 none 0 0 [rv V 19] σ (PV (fun τ => τ = up σ 19 4 0)) := by
  refine ct_of (by decide) (Nat.le_of_ble_eq_true rfl) (fun X G T => ?_)
  have G : Gd X V cX4_forget RX4 1 0 0 := G
  show AW X V σ 0 [] [some (rv V 19)]
  refine aw_aload_n G dX4_forget_0 rfl ?_
  refine aw_iconst G dX4_forget_1 ?_
  refine pf_X4_26 G dX4_forget_2 (kk := ?_)
  exact aw_vret G T dX4_forget_5 (rfl)

def keepS (σ : St) : St := up (up (cpy (cpy (cpy σ 2 0 (23 + (σ 19 3).toNat) 0 8) 3 0 (31 + (σ 19 3).toNat) 0 8) 6 0 (39 + (σ 19 3).toNat) 0 8) 19 3 ((σ 19 3 + 1) % 8)) 19 4 (min (σ 19 4 + 1) 8)
set_option maxHeartbeats 4000000 in
theorem c_X4_keep {V : Wd} {σ : St}  (hn : 0 ≤ σ 19 3 ∧ σ 19 3 < 8) (hc : 0 ≤ σ 19 4 ∧ σ 19 4 ≤ 8) : Ct V yX4_keep cX4_keep 2 none 1 40 [rv V 19, rv V 1] σ (PV (fun τ => τ = keepS σ)) := by
  refine ct_of (by decide) (Nat.le_of_ble_eq_true rfl) (fun X G T => ?_)
  have G : Gd X V cX4_keep RX4 2 1 40 := G
  show AW X V σ 0 [] [some (rv V 19), some (rv V 1)]
  have hl1 := lay_p1 (σ 19 3).toNat (by omega)
  have hl2 := lay_p2 (σ 19 3).toNat (by omega)
  have hl3 := lay_p3 (σ 19 3).toNat (by omega)
  have hk1 : 23 + (σ 19 3).toNat < NC := by show _ < 97; omega
  have hk2 : 31 + (σ 19 3).toNat < NC := by show _ < 97; omega
  have hk3 : 39 + (σ 19 3).toNat < NC := by show _ < 97; omega
  refine aw_aload_n G dX4_keep_0 rfl ?_
  refine gf_X4_29 G dX4_keep_1 (kk := ?_)
  refine aw_iconst G dX4_keep_4 ?_
  refine aw_aload_n G dX4_keep_5 rfl ?_
  refine gf_X4_11 G dX4_keep_6 (kk := ?_)
  refine aw_aload_n G dX4_keep_9 rfl ?_
  refine gf_X4_22 G dX4_keep_10 (kk := ?_)
  refine aw_aaload (ty := .int) G dX4_keep_13 (by first | decide | assumption) rfl (by decide) rfl (by omega) ?_
  refine aw_iconst G dX4_keep_14 ?_
  refine aw_bipush G dX4_keep_15 (k := ?_)
  refine ca_X4_34 G dX4_keep_17 (h := by omega) (kk := ?_)
  refine aw_aload_n G dX4_keep_20 rfl ?_
  refine gf_X4_40 G dX4_keep_21 (kk := ?_)
  refine aw_iconst G dX4_keep_24 ?_
  refine aw_aload_n G dX4_keep_25 rfl ?_
  refine gf_X4_16 G dX4_keep_26 (kk := ?_)
  refine aw_aload_n G dX4_keep_29 rfl ?_
  refine gf_X4_22 G dX4_keep_30 (kk := ?_)
  rw [cpy_o (show (19:Nat) ≠ _ by omega)]
  refine aw_aaload (ty := .int) G dX4_keep_33 (by first | decide | assumption) rfl (by decide) rfl (by omega) ?_
  refine aw_iconst G dX4_keep_34 ?_
  refine aw_bipush G dX4_keep_35 (k := ?_)
  refine ca_X4_34 G dX4_keep_37 (h := by omega) (kk := ?_)
  refine aw_aload_n G dX4_keep_40 rfl ?_
  refine gf_X4_42 G dX4_keep_41 (kk := ?_)
  refine aw_iconst G dX4_keep_44 ?_
  refine aw_aload_n G dX4_keep_45 rfl ?_
  refine gf_X4_19 G dX4_keep_46 (kk := ?_)
  refine aw_aload_n G dX4_keep_49 rfl ?_
  refine gf_X4_22 G dX4_keep_50 (kk := ?_)
  rw [cpy_o (show (19:Nat) ≠ _ by omega)]
  rw [cpy_o (show (19:Nat) ≠ _ by omega)]
  refine aw_aaload (ty := .int) G dX4_keep_53 (by first | decide | assumption) rfl (by decide) rfl (by omega) ?_
  refine aw_iconst G dX4_keep_54 ?_
  refine aw_bipush G dX4_keep_55 (k := ?_)
  refine ca_X4_34 G dX4_keep_57 (h := by omega) (kk := ?_)
  refine aw_aload_n G dX4_keep_60 rfl ?_
  refine aw_aload_n G dX4_keep_61 rfl ?_
  refine gf_X4_22 G dX4_keep_62 (kk := ?_)
  rw [cpy_o (show (19:Nat) ≠ _ by omega)]
  rw [cpy_o (show (19:Nat) ≠ _ by omega)]
  rw [cpy_o (show (19:Nat) ≠ _ by omega)]
  refine aw_iconst G dX4_keep_65 ?_
  refine aw_iadd G dX4_keep_66 ?_
  refine aw_bipush G dX4_keep_67 (k := ?_)
  refine aw_irem G dX4_keep_69 (by omega) (by omega) ?_
  rw [tm_em _ (by omega)]
  refine pf_X4_22 G dX4_keep_70 (kk := ?_)
  refine aw_aload_n G dX4_keep_73 rfl ?_
  refine aw_aload_n G dX4_keep_74 rfl ?_
  refine gf_X4_26 G dX4_keep_75 (kk := ?_)
  rw [up_nj (show (4:Int) ≠ 3 by decide)]
  rw [cpy_o (show (19:Nat) ≠ _ by omega)]
  rw [cpy_o (show (19:Nat) ≠ _ by omega)]
  rw [cpy_o (show (19:Nat) ≠ _ by omega)]
  refine aw_iconst G dX4_keep_78 ?_
  refine aw_iadd G dX4_keep_79 ?_
  refine aw_bipush G dX4_keep_80 (k := ?_)
  refine cm_X4_44 G dX4_keep_82 (by omega) (by omega) (k := ?_)
  refine pf_X4_26 G dX4_keep_85 (kk := ?_)
  exact aw_vret G T dX4_keep_88 (rfl)

def restS (σ : St) : St := cpy (cpy (cpy (up (up σ 19 3 ((σ 19 3 + 7) % 8)) 19 4 (σ 19 4 - 1)) (23 + ((σ 19 3 + 7) % 8).toNat) 0 2 0 8) (31 + ((σ 19 3 + 7) % 8).toNat) 0 3 0 8) (39 + ((σ 19 3 + 7) % 8).toNat) 0 6 0 8
set_option maxHeartbeats 4000000 in
theorem c_X4_restore {V : Wd} {σ : St}  (hn : 0 ≤ σ 19 3 ∧ σ 19 3 < 8) : Ct V yX4_restore cX4_restore 2 none 1 40 [rv V 19, rv V 1] σ (PV (fun τ => τ = restS σ)) := by
  refine ct_of (by decide) (Nat.le_of_ble_eq_true rfl) (fun X G T => ?_)
  have G : Gd X V cX4_restore RX4 2 1 40 := G
  show AW X V σ 0 [] [some (rv V 19), some (rv V 1)]
  have hl1 := lay_p1 ((σ 19 3 + 7) % 8).toNat (by omega)
  have hl2 := lay_p2 ((σ 19 3 + 7) % 8).toNat (by omega)
  have hl3 := lay_p3 ((σ 19 3 + 7) % 8).toNat (by omega)
  have hk1 : 23 + ((σ 19 3 + 7) % 8).toNat < NC := by show _ < 97; omega
  have hk2 : 31 + ((σ 19 3 + 7) % 8).toNat < NC := by show _ < 97; omega
  have hk3 : 39 + ((σ 19 3 + 7) % 8).toNat < NC := by show _ < 97; omega
  refine aw_aload_n G dX4_restore_0 rfl ?_
  refine aw_aload_n G dX4_restore_1 rfl ?_
  refine gf_X4_22 G dX4_restore_2 (kk := ?_)
  refine aw_bipush G dX4_restore_5 (k := ?_)
  refine aw_iadd G dX4_restore_7 ?_
  refine aw_iconst G dX4_restore_8 ?_
  refine aw_isub G dX4_restore_9 ?_
  refine aw_bipush G dX4_restore_10 (k := ?_)
  refine aw_irem G dX4_restore_12 (by omega) (by omega) ?_
  rw [show σ 19 3 + 8 - 1 = σ 19 3 + 7 by omega, tm_em _ (by omega)]
  refine pf_X4_22 G dX4_restore_13 (kk := ?_)
  refine aw_aload_n G dX4_restore_16 rfl ?_
  refine aw_dup G dX4_restore_17 (k := ?_)
  refine gf_X4_26 G dX4_restore_18 (kk := ?_)
  rw [up_nj (show (4:Int) ≠ 3 by decide)]
  refine aw_iconst G dX4_restore_21 ?_
  refine aw_isub G dX4_restore_22 ?_
  refine pf_X4_26 G dX4_restore_23 (kk := ?_)
  refine aw_aload_n G dX4_restore_26 rfl ?_
  refine gf_X4_11 G dX4_restore_27 (kk := ?_)
  refine aw_aload_n G dX4_restore_30 rfl ?_
  refine gf_X4_22 G dX4_restore_31 (kk := ?_)
  rw [up_nj (show (3:Int) ≠ 4 by decide), up_at]
  refine aw_aaload (ty := .int) G dX4_restore_34 (by first | decide | assumption) rfl (by decide) rfl (by omega) ?_
  refine aw_iconst G dX4_restore_35 ?_
  refine aw_aload_n G dX4_restore_36 rfl ?_
  refine gf_X4_29 G dX4_restore_37 (kk := ?_)
  refine aw_iconst G dX4_restore_40 ?_
  refine aw_bipush G dX4_restore_41 (k := ?_)
  refine ca_X4_34 G dX4_restore_43 (h := by omega) (kk := ?_)
  refine aw_aload_n G dX4_restore_46 rfl ?_
  refine gf_X4_16 G dX4_restore_47 (kk := ?_)
  refine aw_aload_n G dX4_restore_50 rfl ?_
  refine gf_X4_22 G dX4_restore_51 (kk := ?_)
  rw [cpy_o (show (19:Nat) ≠ _ by omega)]
  rw [up_nj (show (3:Int) ≠ 4 by decide), up_at]
  refine aw_aaload (ty := .int) G dX4_restore_54 (by first | decide | assumption) rfl (by decide) rfl (by omega) ?_
  refine aw_iconst G dX4_restore_55 ?_
  refine aw_aload_n G dX4_restore_56 rfl ?_
  refine gf_X4_40 G dX4_restore_57 (kk := ?_)
  refine aw_iconst G dX4_restore_60 ?_
  refine aw_bipush G dX4_restore_61 (k := ?_)
  refine ca_X4_34 G dX4_restore_63 (h := by omega) (kk := ?_)
  refine aw_aload_n G dX4_restore_66 rfl ?_
  refine gf_X4_19 G dX4_restore_67 (kk := ?_)
  refine aw_aload_n G dX4_restore_70 rfl ?_
  refine gf_X4_22 G dX4_restore_71 (kk := ?_)
  rw [cpy_o (show (19:Nat) ≠ _ by omega)]
  rw [cpy_o (show (19:Nat) ≠ _ by omega)]
  rw [up_nj (show (3:Int) ≠ 4 by decide), up_at]
  refine aw_aaload (ty := .int) G dX4_restore_74 (by first | decide | assumption) rfl (by decide) rfl (by omega) ?_
  refine aw_iconst G dX4_restore_75 ?_
  refine aw_aload_n G dX4_restore_76 rfl ?_
  refine gf_X4_42 G dX4_restore_77 (kk := ?_)
  refine aw_iconst G dX4_restore_80 ?_
  refine aw_bipush G dX4_restore_81 (k := ?_)
  refine ca_X4_34 G dX4_restore_83 (h := by omega) (kk := ?_)
  exact aw_vret G T dX4_restore_86 (rfl)

set_option maxHeartbeats 4000000 in
theorem c_X2_isMissing {V : Wd} {σ : St} {l : Int} (hl : 0 ≤ l ∧ l < 3) (hR : inR (σ 71 l)) : Ct V yX2_isMissing cX2_isMissing 2 (some .boolean) 0 0 [rv V 66, iv l] σ (PI (fun r τ => r = b01 (σ 71 l < 0) ∧ τ = σ)) := by
  refine ct_of (by decide) (Nat.le_of_ble_eq_true rfl) (fun X G T => ?_)
  have G : Gd X V cX2_isMissing RX2 2 0 0 := G
  show AW X V σ 0 [] [some (rv V 66), some (iv l)]
  refine aw_aload_n G dX2_isMissing_0 rfl ?_
  refine gf_X2_16 G dX2_isMissing_1 (kk := ?_)
  refine aw_iload_n G dX2_isMissing_4 rfl ?_
  refine aw_iaload G dX2_isMissing_5 (by first | decide | assumption | omega) (by first | rfl | assumption) (by first | decide | assumption) (by omega) ?_
  refine aw_if_ge (tgt := 13) G dX2_isMissing_6 (by decide) (by omega) (fun c6 => ?_) (fun c6 => ?_)
  · refine aw_iconst G dX2_isMissing_13 ?_
    exact aw_zret G T dX2_isMissing_14 (by first | exact Or.inl rfl | exact Or.inr rfl | assumption) (⟨by first | exact (b01_t (by omega)).symm | exact (b01_f (by omega)).symm, rfl⟩)
  · refine aw_iconst G dX2_isMissing_9 ?_
    refine aw_goto (tgt := 14) G dX2_isMissing_10 (by decide) ?_
    exact aw_zret G T dX2_isMissing_14 (by first | exact Or.inl rfl | exact Or.inr rfl | assumption) (⟨by first | exact (b01_t (by omega)).symm | exact (b01_f (by omega)).symm, rfl⟩)

set_option maxHeartbeats 4000000 in
theorem c_X2_renew {V : Wd} {σ : St} {l m : Int} (hl : 0 ≤ l ∧ l < 3) (hm : 0 ≤ m ∧ m ≤ 40) : Ct V yX2_renew cX2_renew 4 none 0 0 [rv V 66, iv l, iv m] σ (PV (fun τ => τ = up (fill σ (68 + l.toNat) m (fun _ => 0)) 71 l m)) := by
  refine ct_of (by decide) (Nat.le_of_ble_eq_true rfl) (fun X G T => ?_)
  have G : Gd X V cX2_renew RX2 4 0 0 := G
  show AW X V σ 0 [] [some (rv V 66), some (iv l), some (iv m), none]
  have hl1 := lay_l l.toNat (by omega)
  have hk1 : 68 + l.toNat < NC := by show _ < 97; omega
  have loop : ∀ (n0 : Nat) (i : Int), (0 ≤ i ∧ i ≤ m) → (m < i + (n0 : Int)) → AW X V (fill σ (68 + l.toNat) i (fun _ => 0)) 2 [] [some (rv V 66), some (iv l), some (iv m), some (iv i)] := by
    intro n0
    induction n0 with
    | zero =>
      intro i h0 h1
      exfalso
      omega
    | succ n0 ih =>
      intro i h0 h1
      refine aw_iload_n G dX2_renew_2 rfl ?_
      refine aw_iload_n G dX2_renew_3 rfl ?_
      refine aw_icmp_ge (tgt := 22) G dX2_renew_4 (by decide) (by omega) (by omega) (fun c4 => ?_) (fun c4 => ?_)
      · refine aw_aload_n G dX2_renew_22 rfl ?_
        refine gf_X2_16 G dX2_renew_23 (kk := ?_)
        refine aw_iload_n G dX2_renew_26 rfl ?_
        refine aw_iload_n G dX2_renew_27 rfl ?_
        refine aw_iastore G dX2_renew_28 (by first | decide | assumption | omega) (by first | rfl | assumption) (by first | decide | assumption) (by omega) ?_
        exact aw_vret G T dX2_renew_29 (by rw [show i = m by omega])
      · refine aw_aload_n G dX2_renew_7 rfl ?_
        refine gf_X2_11 G dX2_renew_8 (kk := ?_)
        refine aw_iload_n G dX2_renew_11 rfl ?_
        refine aw_aaload (ty := .int) G dX2_renew_12 (by first | decide | assumption) rfl (by decide) rfl (by omega) ?_
        refine aw_iload_n G dX2_renew_13 rfl ?_
        refine aw_iconst G dX2_renew_14 ?_
        refine aw_iastore G dX2_renew_15 (by first | decide | assumption | omega) (by first | rfl | assumption) (by first | decide | assumption) (by omega) ?_
        refine aw_iinc_3 G dX2_renew_16 rfl (k := ?_)
        refine aw_goto (tgt := 2) G dX2_renew_19 (by decide) ?_
        rw [fill_s (by omega)]
        exact ih (i + 1) (by omega) (by omega)
  refine aw_iconst G dX2_renew_0 ?_
  refine aw_istore_3 G dX2_renew_1 (k := ?_)
  have := loop (m + 1).toNat 0 (by omega) (by omega)
  rw [fill_0] at this
  exact this
set_option maxHeartbeats 4000000 in
theorem c_X2_allWithin {V : Wd} {σ : St} {l a b : Int} (hl : 0 ≤ l ∧ l < 3) (hm : inR (σ 71 l) ∧ σ 71 l ≤ 40) (hR : ∀ i, 0 ≤ i → i < σ 71 l → inR (σ (68 + l.toNat) i)) (ha : inR a) (hb : inR b) : Ct V yX2_allWithin cX2_allWithin 5 (some .boolean) 0 0 [rv V 66, iv l, iv a, iv b] σ (PI (fun r τ => r = bP (∀ i, 0 ≤ i → i < σ 71 l → a ≤ σ (68 + l.toNat) i ∧ σ (68 + l.toNat) i ≤ b) ∧ τ = σ)) := by
  refine ct_of (by decide) (Nat.le_of_ble_eq_true rfl) (fun X G T => ?_)
  have G : Gd X V cX2_allWithin RX2 5 0 0 := G
  show AW X V σ 0 [] [some (rv V 66), some (iv l), some (iv a), some (iv b), none]
  have hl1 := lay_l l.toNat (by omega)
  have hk1 : 68 + l.toNat < NC := by show _ < 97; omega
  have loop : ∀ (n0 : Nat) (i : Int), (0 ≤ i ∧ (i ≤ σ 71 l ∨ i = 0)) → (σ 71 l < i + (n0 : Int) ∧ 0 < n0) → (∀ j, 0 ≤ j → j < i → a ≤ σ (68 + l.toNat) j ∧ σ (68 + l.toNat) j ≤ b) → AW X V (σ) 3 [] [some (rv V 66), some (iv l), some (iv a), some (iv b), some (iv i)] := by
    intro n0
    induction n0 with
    | zero =>
      intro i h0 h1 hq
      exfalso
      omega
    | succ n0 ih =>
      intro i h0 h1 hq
      refine aw_iload G dX2_allWithin_3 rfl ?_
      refine aw_aload_n G dX2_allWithin_5 rfl ?_
      refine gf_X2_16 G dX2_allWithin_6 (kk := ?_)
      refine aw_iload_n G dX2_allWithin_9 rfl ?_
      refine aw_iaload G dX2_allWithin_10 (by first | decide | assumption | omega) (by first | rfl | assumption) (by first | decide | assumption) (by omega) ?_
      refine aw_icmp_ge (tgt := 48) G dX2_allWithin_11 (by decide) (by omega) (by omega) (fun c11 => ?_) (fun c11 => ?_)
      · refine aw_iconst G dX2_allWithin_48 ?_
        exact aw_zret G T dX2_allWithin_49 (by first | exact Or.inl rfl | exact Or.inr rfl | assumption) (⟨(bP_t fun j p q => hq j p (by omega)).symm, rfl⟩)
      · refine aw_aload_n G dX2_allWithin_14 rfl ?_
        refine gf_X2_11 G dX2_allWithin_15 (kk := ?_)
        refine aw_iload_n G dX2_allWithin_18 rfl ?_
        refine aw_aaload (ty := .int) G dX2_allWithin_19 (by first | decide | assumption) rfl (by decide) rfl (by omega) ?_
        refine aw_iload G dX2_allWithin_20 rfl ?_
        refine aw_iaload G dX2_allWithin_22 (by first | decide | assumption | omega) (by first | rfl | assumption) (by first | decide | assumption) (by omega) ?_
        refine aw_iload_n G dX2_allWithin_23 rfl ?_
        refine aw_icmp_lt (tgt := 40) G dX2_allWithin_24 (by decide) (hR i (by omega) (by omega)) (ha) (fun c24 => ?_) (fun c24 => ?_)
        · refine aw_iconst G dX2_allWithin_40 ?_
          exact aw_zret G T dX2_allWithin_41 (by first | exact Or.inl rfl | exact Or.inr rfl | assumption) (⟨(bP_f fun q => by have := q i (by omega) (by omega); omega).symm, rfl⟩)
        · refine aw_aload_n G dX2_allWithin_27 rfl ?_
          refine gf_X2_11 G dX2_allWithin_28 (kk := ?_)
          refine aw_iload_n G dX2_allWithin_31 rfl ?_
          refine aw_aaload (ty := .int) G dX2_allWithin_32 (by first | decide | assumption) rfl (by decide) rfl (by omega) ?_
          refine aw_iload G dX2_allWithin_33 rfl ?_
          refine aw_iaload G dX2_allWithin_35 (by first | decide | assumption | omega) (by first | rfl | assumption) (by first | decide | assumption) (by omega) ?_
          refine aw_iload_n G dX2_allWithin_36 rfl ?_
          refine aw_icmp_le (tgt := 42) G dX2_allWithin_37 (by decide) (hR i (by omega) (by omega)) (hb) (fun c37 => ?_) (fun c37 => ?_)
          · refine aw_iinc_4 G dX2_allWithin_42 rfl (k := ?_)
            refine aw_goto (tgt := 3) G dX2_allWithin_45 (by decide) ?_
            exact ih (i + 1) (by omega) (by omega) (fun j p q => if e : j = i then by rw [e]; omega else hq j p (by omega))
          · refine aw_iconst G dX2_allWithin_40 ?_
            exact aw_zret G T dX2_allWithin_41 (by first | exact Or.inl rfl | exact Or.inr rfl | assumption) (⟨(bP_f fun q => by have := q i (by omega) (by omega); omega).symm, rfl⟩)
  refine aw_iconst G dX2_allWithin_0 ?_
  refine aw_istore_4 G dX2_allWithin_1 (k := ?_)
  exact loop ((σ 71 l).toNat + 1) 0 (by omega) (by omega) (fun j p q => by omega)
set_option maxHeartbeats 4000000 in
theorem c_X9_refused {V : Wd} {σ : St} {r : Int} (hr : -6 ≤ r ∧ r ≤ -1) : Ct V yX9_refused cX9_refused 2 (some .int) 0 0 [rv V 0, iv r] σ (PI (fun q τ => q = r ∧ τ = up σ 72 (-r) (σ 72 (-r) + 1))) := by
  refine ct_of (by decide) (Nat.le_of_ble_eq_true rfl) (fun X G T => ?_)
  have G : Gd X V cX9_refused RX9 2 0 0 := G
  show AW X V σ 0 [] [some (rv V 0), some (iv r)]
  refine aw_iload_n G dX9_refused_0 rfl ?_
  refine aw_if_ge (tgt := 25) G dX9_refused_1 (by decide) (by omega) (fun c1 => ?_) (fun c1 => ?_)
  · exact absurd c1 (by omega)
  · refine aw_iload_n G dX9_refused_4 rfl ?_
    refine aw_aload_n G dX9_refused_5 rfl ?_
    refine gf_X9_67 G dX9_refused_6 (kk := ?_)
    refine aw_alen G dX9_refused_9 (kk := ?_)
    refine aw_ineg G dX9_refused_10 ?_
    refine aw_icmp_le (tgt := 25) G dX9_refused_11 (by decide) (by omega) (by omega) (fun c11 => ?_) (fun c11 => ?_)
    · exact absurd c11 (by omega)
    · refine aw_aload_n G dX9_refused_14 rfl ?_
      refine gf_X9_67 G dX9_refused_15 (kk := ?_)
      refine aw_iload_n G dX9_refused_18 rfl ?_
      refine aw_ineg G dX9_refused_19 ?_
      refine aw_dup2 G dX9_refused_20 (k := ?_)
      refine aw_iaload G dX9_refused_21 (by first | decide | assumption | omega) (by first | rfl | assumption) (by first | decide | assumption) (by omega) ?_
      refine aw_iconst G dX9_refused_22 ?_
      refine aw_iadd G dX9_refused_23 ?_
      refine aw_iastore G dX9_refused_24 (by first | decide | assumption | omega) (by first | rfl | assumption) (by first | decide | assumption) (by omega) ?_
      refine aw_iload_n G dX9_refused_25 rfl ?_
      exact aw_iret G T dX9_refused_26 (⟨rfl, rfl⟩)

set_option maxHeartbeats 4000000 in
theorem c_X9_found {V : Wd} {σ : St} {h i l : Int} (hh : inR h) (hi : inR i) (hl : i ≠ -1 → 0 ≤ l ∧ l < 8) : Ct V yX9_found cX9_found 4 (some .int) 0 0 [rv V 0, iv h, iv i, iv l] σ (PI (fun q τ => q = (if i = -1 then h else if i < h then σ 48 l else -9) ∧ τ = σ)) := by
  refine ct_of (by decide) (Nat.le_of_ble_eq_true rfl) (fun X G T => ?_)
  have G : Gd X V cX9_found RX9 4 0 0 := G
  show AW X V σ 0 [] [some (rv V 0), some (iv h), some (iv i), some (iv l)]
  refine aw_iload_n G dX9_found_0 rfl ?_
  refine aw_iconst G dX9_found_1 ?_
  refine aw_icmp_ne (tgt := 7) G dX9_found_2 (by decide) (by omega) (by omega) (fun c2 => ?_) (fun c2 => ?_)
  · refine aw_iload_n G dX9_found_7 rfl ?_
    refine aw_iload_n G dX9_found_8 rfl ?_
    refine aw_icmp_le (tgt := 24) G dX9_found_9 (by decide) (by omega) (by omega) (fun c9 => ?_) (fun c9 => ?_)
    · refine aw_bipush G dX9_found_24 (k := ?_)
      exact aw_iret G T dX9_found_26 (⟨by first | rw [if_pos c2] | (rw [if_neg c2]; first | rw [if_pos (by omega)] | rw [if_neg (by omega)]), rfl⟩)
    · refine aw_aload_n G dX9_found_12 rfl ?_
      refine gf_X9_35 G dX9_found_13 (kk := ?_)
      refine gf_X9_277 G dX9_found_16 (kk := ?_)
      refine aw_iload_n G dX9_found_19 rfl ?_
      refine aw_iaload G dX9_found_20 (by first | decide | assumption | omega) (by first | rfl | assumption) (by first | decide | assumption) (by omega) ?_
      refine aw_goto (tgt := 26) G dX9_found_21 (by decide) ?_
      exact aw_iret G T dX9_found_26 (⟨by first | rw [if_pos c2] | (rw [if_neg c2]; first | rw [if_pos (by omega)] | rw [if_neg (by omega)]), rfl⟩)
  · refine aw_iload_n G dX9_found_5 rfl ?_
    exact aw_iret G T dX9_found_6 (⟨by first | rw [if_pos c2] | (rw [if_neg c2]; first | rw [if_pos (by omega)] | rw [if_neg (by omega)]), rfl⟩)

