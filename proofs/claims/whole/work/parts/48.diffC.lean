def dif (f : Int → Int) : Nat → Int → Int
  | 0, r => f r
  | j + 1, r => dif f j (r + 1) - dif f j r
theorem dif_s (f : Int → Int) (j : Nat) (r : Int) : dif f (j + 1) r = dif f j (r + 1) - dif f j r := rfl
noncomputable def stl (f : Int → Int) : Nat → Nat → Int
  | 0, j => j
  | n + 1, j => if bP (likeP (dif f j) (7 - (j : Int))) = 1 then (j : Int) else stl f n (j + 1)
theorem stl_s (f : Int → Int) (n j : Nat) : stl f (n + 1) j = if bP (likeP (dif f j) (7 - (j : Int))) = 1 then (j : Int) else stl f n (j + 1) := rfl
noncomputable def an_difference (α : St) (j r : Int) : Int := if j < 0 ∨ r < 0 then 1000000000 - (-4) else if 6 < j ∨ 6 - j < r then 1000000000 - (-6) else dif (gaN α) j.toNat r
def nx_difference (α : St) (j r : Int) : St := if j < 0 ∨ r < 0 then rf α (-4) else if 6 < j ∨ 6 - j < r then rf α (-6) else α
noncomputable def an_settled (α : St) : Int := stl (gaN α) 6 0
def nx_settled (α : St) : St := α
theorem dif_R {f : Int → Int} (h : ∀ x : Int, 0 ≤ x → x ≤ 6 → 0 ≤ f x ∧ f x ≤ 16777216) : ∀ (j : Nat) (x : Int), 0 ≤ x → x + j ≤ 6 → -(2 ^ j * 16777216) ≤ dif f j x ∧ dif f j x ≤ 2 ^ j * 16777216
  | 0, x, h0, h1 => by
    have := h x h0 (by omega)
    unfold dif
    omega
  | j + 1, x, h0, h1 => by
    have a := dif_R h j x h0 (by omega)
    have b := dif_R h j (x + 1) (by omega) (by omega)
    rw [dif_s, Int.pow_succ]
    omega
theorem dif_I {f : Int → Int} (h : ∀ x : Int, 0 ≤ x → x ≤ 6 → 0 ≤ f x ∧ f x ≤ 16777216) (j : Nat) (x : Int) (h0 : 0 ≤ x) (h1 : x + j ≤ 6) : inR (dif f j x) := by
  have a := dif_R h j x h0 h1
  rcases (show j = 0 ∨ j = 1 ∨ j = 2 ∨ j = 3 ∨ j = 4 ∨ j = 5 ∨ j = 6 by omega) with e | e | e | e | e | e | e <;> rw [e] at a ⊢ <;> omega
theorem gN_R {W : Int → Int → Int} {L n r : Int} (hr : 0 ≤ r ∧ r ≤ 6) (hL : 0 ≤ L ∧ L ≤ 8) : 0 ≤ gN W L n r ∧ gN W L n r ≤ 16777216 := by
  have h := wayN_R (gQ W L n r) (nxT (r + 1) L.toNat) (gF L r) (fun _ => 0)
  have h2 := gF_R hr hL
  unfold gN
  omega
theorem ok1 {σ τ : St} {ks : List Nat} (h : Only ks σ τ) (hk : 1 ∉ ks ∧ 2 ∉ ks ∧ 3 ∉ ks ∧ 4 ∉ ks ∧ 5 ∉ ks ∧ 6 ∉ ks) (q : NetOK σ 1) : NetOK τ 1 := by
  unfold NetOK RowOK at q ⊢
  rw [h 1 hk.1, h (1 + 1) hk.2.1, h (1 + 2) hk.2.2.1, h (1 + 3) hk.2.2.2.1, h (1 + 4) hk.2.2.2.2.1, h (1 + 5) hk.2.2.2.2.2]
  exact q
theorem nw1 {σ τ : St} {ks : List Nat} (h : Only ks σ τ) (hk : 1 ∉ ks ∧ 2 ∉ ks ∧ 3 ∉ ks ∧ 4 ∉ ks ∧ 5 ∉ ks ∧ 6 ∉ ks) : nwt τ 1 = nwt σ 1 := by
  funext p l
  exact nwt_c (by rw [h (1 + 1) hk.2.1]) (by rw [h (1 + 2) hk.2.2.1]) (by rw [h (1 + 3) hk.2.2.2.1]) (by rw [h (1 + 4) hk.2.2.2.2.1])
abbrev thM : List Nat := [74, 47, 48, 49, 50, 51, 52]
theorem RX_tm {α σ τ : St} (ho : Only thM σ τ) (h : RX α σ) : RX α τ := RX_c (fun k hk => ho k (by unfold xP at hk; simp; omega)) h
theorem MS_tm {σ τ : St} (ho : Only thM σ τ) : MS σ τ := fun k hk => ho k (by simp; omega)
set_option maxHeartbeats 4000000 in
theorem c_X9_fillMagicRow {V : Wd} {σ : St} {a b : Int} (hN : NetOK σ 1) (ha : 0 ≤ a ∧ a ≤ 6) (hb : 0 ≤ b ∧ b ≤ 6) : Ct V yX9_fillMagicRow cX9_fillMagicRow 4 none 15 358 [rv V 0, iv a, iv b] σ (PV (fun τ => Only thM σ τ ∧ ∀ x : Int, a ≤ x → x ≤ b → τ 74 x = gN (nwt σ 1) (σ 1 1) (σ 1 0) x)) := by
  refine ct_of (by decide) (Nat.le_of_ble_eq_true rfl) (fun X G T => ?_)
  have G : Gd X V cX9_fillMagicRow RX9 4 15 358 := G
  show AW X V σ 0 [] [some (rv V 0), some (iv a), some (iv b), none]
  obtain ⟨n1, n2, n3, n4, n5, n6⟩ := id hN
  have loop : ∀ (n0 : Nat) (i : Int) (τ : St), (a ≤ i ∧ i ≤ 7) → (7 < i + (n0 : Int)) → (Only thM σ τ) → (∀ x : Int, a ≤ x → x < i → τ 74 x = gN (nwt σ 1) (σ 1 1) (σ 1 0) x) → AW X V (τ) 2 [] [some (rv V 0), some (iv a), some (iv b), some (iv i)] := by
    intro n0
    induction n0 with
    | zero =>
      intro i τ h0 h1 ho hq
      exfalso
      omega
    | succ n0 ih =>
      intro i τ h0 h1 ho hq
      refine aw_iload_n G dX9_fillMagicRow_2 rfl ?_
      refine aw_iload_n G dX9_fillMagicRow_3 rfl ?_
      refine aw_icmp_gt (tgt := 28) G dX9_fillMagicRow_4 (by decide) (by first | omega | exact b01_R _ | exact bP_R _) (by first | omega | exact b01_R _ | exact bP_R _) (fun c4 => ?_) (fun c4 => ?_)
      · exact aw_vret G T dX9_fillMagicRow_28 (⟨ho, fun x a1 a2 => hq x a1 (by omega)⟩)
      · refine aw_aload_n G dX9_fillMagicRow_7 rfl ?_
        refine gf_X9_74 G dX9_fillMagicRow_8 (kk := ?_)
        refine aw_iload_n G dX9_fillMagicRow_11 rfl ?_
        refine aw_aload_n G dX9_fillMagicRow_12 rfl ?_
        refine gf_X9_35 G dX9_fillMagicRow_13 (kk := ?_)
        refine aw_iload_n G dX9_fillMagicRow_16 rfl ?_
        refine aw_iconst G dX9_fillMagicRow_17 ?_
        refine cv_X9_183 G dX9_fillMagicRow_18 (c_X7_findMagic (ok1 ho (by decide) hN) (by omega) (by omega)) (kk := fun r18 t18 h18 => ?_)
        obtain ⟨ho18, hc18, hr18⟩ := h18
        refine aw_iastore G dX9_fillMagicRow_21 (by first | decide | assumption | omega) (by first | rfl | assumption) (by first | decide | assumption) (by omega) ?_
        refine aw_iinc_3 G dX9_fillMagicRow_22 rfl (hc := by first | rfl | assumption) (k := ?_)
        refine aw_goto (tgt := 2) G dX9_fillMagicRow_25 (by decide) ?_
        refine ih (i + 1) _ (by omega) (by omega) ((ho.tr (ho18.mono (by decide))).up (by decide)) (fun x a1 a2 => ?_)
        by_cases e : x = i
        · rw [e, up_at]
          rcases hc18 with ⟨q1, q2⟩ | ⟨q1, q2⟩
          · rw [q1, nw1 ho (by decide), ho 1 (by decide)]
          · omega
        · rw [up_nj e, ho18 74 (by decide)]
          exact hq x a1 (by omega)
  refine aw_iload_n G dX9_fillMagicRow_0 rfl ?_
  refine aw_istore_3 G dX9_fillMagicRow_1 (hc := by first | rfl | assumption) (k := ?_)
  exact loop 8 a σ (by omega) (by omega) (fun _ _ => rfl) (fun x a1 a2 => by omega)
set_option maxHeartbeats 4000000 in
theorem c_X9_becomeDifferences {V : Wd} {σ : St} {a b : Int} (ha : 0 ≤ a ∧ a ≤ 6) (hb : 0 ≤ b ∧ b ≤ 6) : Ct V yX9_becomeDifferences cX9_becomeDifferences 4 none 0 0 [rv V 0, iv a, iv b] σ (PV (fun τ => Only [74] σ τ ∧ ∀ x : Int, a ≤ x → x < b → τ 74 x = σ 74 (x + 1) - σ 74 x)) := by
  refine ct_of (by decide) (Nat.le_of_ble_eq_true rfl) (fun X G T => ?_)
  have G : Gd X V cX9_becomeDifferences RX9 4 0 0 := G
  show AW X V σ 0 [] [some (rv V 0), some (iv a), some (iv b), none]
  have loop : ∀ (n0 : Nat) (i : Int) (τ : St), (a ≤ i ∧ i ≤ 6) → (6 < i + (n0 : Int)) → (Only [74] σ τ) → (∀ x : Int, τ 74 x = if a ≤ x ∧ x < i then σ 74 (x + 1) - σ 74 x else σ 74 x) → AW X V (τ) 2 [] [some (rv V 0), some (iv a), some (iv b), some (iv i)] := by
    intro n0
    induction n0 with
    | zero =>
      intro i τ h0 h1 ho hq
      exfalso
      omega
    | succ n0 ih =>
      intro i τ h0 h1 ho hq
      refine aw_iload_n G dX9_becomeDifferences_2 rfl ?_
      refine aw_iload_n G dX9_becomeDifferences_3 rfl ?_
      refine aw_icmp_ge (tgt := 34) G dX9_becomeDifferences_4 (by decide) (by first | omega | exact b01_R _ | exact bP_R _) (by first | omega | exact b01_R _ | exact bP_R _) (fun c4 => ?_) (fun c4 => ?_)
      · exact aw_vret G T dX9_becomeDifferences_34 (⟨ho, fun x a1 a2 => by rw [hq, if_pos (by omega)]⟩)
      · refine aw_aload_n G dX9_becomeDifferences_7 rfl ?_
        refine gf_X9_74 G dX9_becomeDifferences_8 (kk := ?_)
        refine aw_iload_n G dX9_becomeDifferences_11 rfl ?_
        refine aw_aload_n G dX9_becomeDifferences_12 rfl ?_
        refine gf_X9_74 G dX9_becomeDifferences_13 (kk := ?_)
        refine aw_iload_n G dX9_becomeDifferences_16 rfl ?_
        refine aw_iconst G dX9_becomeDifferences_17 ?_
        refine aw_iadd G dX9_becomeDifferences_18 ?_
        refine aw_iaload G dX9_becomeDifferences_19 (by first | decide | assumption | omega) (by first | rfl | assumption) (by first | decide | assumption) (by omega) ?_
        refine aw_aload_n G dX9_becomeDifferences_20 rfl ?_
        refine gf_X9_74 G dX9_becomeDifferences_21 (kk := ?_)
        refine aw_iload_n G dX9_becomeDifferences_24 rfl ?_
        refine aw_iaload G dX9_becomeDifferences_25 (by first | decide | assumption | omega) (by first | rfl | assumption) (by first | decide | assumption) (by omega) ?_
        refine aw_isub G dX9_becomeDifferences_26 ?_
        refine aw_iastore G dX9_becomeDifferences_27 (by first | decide | assumption | omega) (by first | rfl | assumption) (by first | decide | assumption) (by omega) ?_
        refine aw_iinc_3 G dX9_becomeDifferences_28 rfl (hc := by first | rfl | assumption) (k := ?_)
        refine aw_goto (tgt := 2) G dX9_becomeDifferences_31 (by decide) ?_
        refine ih (i + 1) _ (by omega) (by omega) (ho.up (by decide)) (fun x => ?_)
        by_cases e : x = i
        · rw [e, up_at, if_pos (by omega), hq, hq, if_neg (by omega), if_neg (by omega)]
        · rw [up_nj e, hq]
          by_cases z : a ≤ x ∧ x < i
          · rw [if_pos z, if_pos (by omega)]
          · rw [if_neg z, if_neg (by omega)]
  refine aw_iload_n G dX9_becomeDifferences_0 rfl ?_
  refine aw_istore_3 G dX9_becomeDifferences_1 (hc := by first | rfl | assumption) (k := ?_)
  exact loop 8 a σ (by omega) (by omega) (fun _ _ => rfl) (fun x => by rw [if_neg (by omega)])
set_option maxHeartbeats 4000000 in
theorem c_X9_difference {V : Wd} {σ : St} {α : St} {j z : Int} (h1 : inR j) (h2 : inR z) (hk : OK α) (hX : RX α σ) : Ct V yX9_difference cX9_difference 4 (some .int) 16 381 [rv V 0, iv j, iv z] σ (PI (fun r τ => r = an_difference α j z ∧ RX (nx_difference α j z) τ ∧ MS σ τ)) := by
  refine ct_of (by decide) (Nat.le_of_ble_eq_true rfl) (fun X G T => ?_)
  have G : Gd X V cX9_difference RX9 4 16 381 := G
  show AW X V σ 0 [] [some (rv V 0), some (iv j), some (iv z), none]
  have hN : NetOK σ 1 := hX.1.ok hk.1
  obtain ⟨⟨e0, e1, er⟩, ⟨x1, x2⟩, xp, xl, xr, xi⟩ := id hX
  obtain ⟨⟨n1, n2, n3, n4, n5, n6⟩, u1, l1, l2, i1, s1, w1⟩ := id hk
  obtain ⟨p1, p2, p3, p4, p5, p6⟩ := id hN
  have hne : NetEq σ 1 α 75 := ⟨e0, e1, er⟩
  have loop : ∀ (n0 : Nat) (k : Int) (τ : St), (0 ≤ j ∧ j ≤ 6 ∧ 0 ≤ z ∧ z ≤ 6 - j) → (0 ≤ k ∧ k ≤ j) → (j < k + (n0 : Int)) → (Only thM σ τ) → (∀ x : Int, z ≤ x → x ≤ z + j - k → τ 74 x = dif (gaN α) k.toNat x) → AW X V (τ) 52 [] [some (rv V 0), some (iv j), some (iv z), some (iv k)] := by
    intro n0
    induction n0 with
    | zero =>
      intro k τ hj h0 hc ho hq
      exfalso
      omega
    | succ n0 ih =>
      intro k τ hj h0 hc ho hq
      refine aw_iload_n G dX9_difference_52 rfl ?_
      refine aw_iload_n G dX9_difference_53 rfl ?_
      refine aw_icmp_ge (tgt := 73) G dX9_difference_54 (by decide) (by first | omega | exact b01_R _ | exact bP_R _) (by first | omega | exact b01_R _ | exact bP_R _) (fun c54 => ?_) (fun c54 => ?_)
      · refine aw_aload_n G dX9_difference_73 rfl ?_
        refine gf_X9_74 G dX9_difference_74 (kk := ?_)
        refine aw_iload_n G dX9_difference_77 rfl ?_
        refine aw_iaload G dX9_difference_78 (by first | decide | assumption | omega) (by first | rfl | assumption) (by first | decide | assumption) (by omega) ?_
        exact aw_iret G T dX9_difference_79 (by
        refine ⟨?_, by unfold nx_difference; (repeat' split) <;> first | exact RX_tm ho hX | (exfalso; omega), MS_tm ho⟩
        unfold an_difference
        rw [if_neg (by omega), if_neg (by omega), hq z (by omega) (by omega), show k = j by omega])
      · refine aw_aload_n G dX9_difference_57 rfl ?_
        refine aw_iload_n G dX9_difference_58 rfl ?_
        refine aw_iload_n G dX9_difference_59 rfl ?_
        refine aw_iload_n G dX9_difference_60 rfl ?_
        refine aw_iadd G dX9_difference_61 ?_
        refine aw_iload_n G dX9_difference_62 rfl ?_
        refine aw_isub G dX9_difference_63 ?_
        refine cv_X9_191 G dX9_difference_64 (c_X9_becomeDifferences (by omega) (by omega)) (kk := fun t64 h64 => ?_)
        obtain ⟨o64, q64⟩ := h64
        refine aw_iinc_3 G dX9_difference_67 rfl (hc := by first | rfl | assumption) (k := ?_)
        refine aw_goto (tgt := 52) G dX9_difference_70 (by decide) ?_
        refine ih (k + 1) t64 hj (by omega) (by omega) (ho.tr (o64.mono (by decide))) (fun x a1 a2 => ?_)
        rw [q64 x a1 (by omega), hq (x + 1) (by omega) (by omega), hq x (by omega) (by omega), show (k + 1).toNat = k.toNat + 1 by omega, dif_s]
  refine aw_iload_n G dX9_difference_0 rfl ?_
  refine aw_if_lt (tgt := 8) G dX9_difference_1 (by decide) (by first | omega | exact b01_R _ | exact bP_R _) (fun c1 => ?_) (fun c1 => ?_)
  · refine lc_X9_186 G dX9_difference_8 ?_
    refine aw_aload_n G dX9_difference_10 rfl ?_
    refine aw_bipush G dX9_difference_11 (k := ?_)
    refine cv_X9_77 G dX9_difference_13 (c_X9_refused (by decide)) (kk := fun r13 t13 h13 => ?_)
    obtain ⟨rfl, ee13⟩ := h13
    obtain rfl := ee13.symm
    refine aw_isub G dX9_difference_16 ?_
    exact aw_iret G T dX9_difference_17 (⟨by unfold an_difference; (repeat' split) <;> first | rfl | (exfalso; omega) | omega, by unfold nx_difference; (repeat' split) <;> first | exact hX | exact RX_ref hX (by decide) | (exfalso; omega), by first | exact MS.rf _ | exact (MS.rf _).up (by decide)⟩)
  · refine aw_iload_n G dX9_difference_4 rfl ?_
    refine aw_if_ge (tgt := 18) G dX9_difference_5 (by decide) (by first | omega | exact b01_R _ | exact bP_R _) (fun c5 => ?_) (fun c5 => ?_)
    · refine aw_iload_n G dX9_difference_18 rfl ?_
      refine aw_bipush G dX9_difference_19 (k := ?_)
      refine aw_icmp_gt (tgt := 32) G dX9_difference_21 (by decide) (by first | omega | exact b01_R _ | exact bP_R _) (by first | omega | exact b01_R _ | exact bP_R _) (fun c21 => ?_) (fun c21 => ?_)
      · refine lc_X9_186 G dX9_difference_32 ?_
        refine aw_aload_n G dX9_difference_34 rfl ?_
        refine aw_bipush G dX9_difference_35 (k := ?_)
        refine cv_X9_77 G dX9_difference_37 (c_X9_refused (by decide)) (kk := fun r37 t37 h37 => ?_)
        obtain ⟨rfl, ee37⟩ := h37
        obtain rfl := ee37.symm
        refine aw_isub G dX9_difference_40 ?_
        exact aw_iret G T dX9_difference_41 (⟨by unfold an_difference; (repeat' split) <;> first | rfl | (exfalso; omega) | omega, by unfold nx_difference; (repeat' split) <;> first | exact hX | exact RX_ref hX (by decide) | (exfalso; omega), by first | exact MS.rf _ | exact (MS.rf _).up (by decide)⟩)
      · refine aw_iload_n G dX9_difference_24 rfl ?_
        refine aw_bipush G dX9_difference_25 (k := ?_)
        refine aw_iload_n G dX9_difference_27 rfl ?_
        refine aw_isub G dX9_difference_28 ?_
        refine aw_icmp_le (tgt := 42) G dX9_difference_29 (by decide) (by first | omega | exact b01_R _ | exact bP_R _) (by first | omega | exact b01_R _ | exact bP_R _) (fun c29 => ?_) (fun c29 => ?_)
        · refine aw_aload_n G dX9_difference_42 rfl ?_
          refine aw_iload_n G dX9_difference_43 rfl ?_
          refine aw_iload_n G dX9_difference_44 rfl ?_
          refine aw_iload_n G dX9_difference_45 rfl ?_
          refine aw_iadd G dX9_difference_46 ?_
          refine cv_X9_187 G dX9_difference_47 (c_X9_fillMagicRow hN (by omega) (by omega)) (kk := fun t47 h47 => ?_)
          obtain ⟨o47, q47⟩ := h47
          refine aw_iconst G dX9_difference_50 ?_
          refine aw_istore_3 G dX9_difference_51 (hc := by first | rfl | assumption) (k := ?_)
          exact loop (j.toNat + 1) 0 t47 (by omega) (by omega) (by omega) o47 (fun x a1 a2 => by rw [q47 x a1 (by omega)]; exact gN_e hne p4 x)
        · refine lc_X9_186 G dX9_difference_32 ?_
          refine aw_aload_n G dX9_difference_34 rfl ?_
          refine aw_bipush G dX9_difference_35 (k := ?_)
          refine cv_X9_77 G dX9_difference_37 (c_X9_refused (by decide)) (kk := fun r37 t37 h37 => ?_)
          obtain ⟨rfl, ee37⟩ := h37
          obtain rfl := ee37.symm
          refine aw_isub G dX9_difference_40 ?_
          exact aw_iret G T dX9_difference_41 (⟨by unfold an_difference; (repeat' split) <;> first | rfl | (exfalso; omega) | omega, by unfold nx_difference; (repeat' split) <;> first | exact hX | exact RX_ref hX (by decide) | (exfalso; omega), by first | exact MS.rf _ | exact (MS.rf _).up (by decide)⟩)
    · refine lc_X9_186 G dX9_difference_8 ?_
      refine aw_aload_n G dX9_difference_10 rfl ?_
      refine aw_bipush G dX9_difference_11 (k := ?_)
      refine cv_X9_77 G dX9_difference_13 (c_X9_refused (by decide)) (kk := fun r13 t13 h13 => ?_)
      obtain ⟨rfl, ee13⟩ := h13
      obtain rfl := ee13.symm
      refine aw_isub G dX9_difference_16 ?_
      exact aw_iret G T dX9_difference_17 (⟨by unfold an_difference; (repeat' split) <;> first | rfl | (exfalso; omega) | omega, by unfold nx_difference; (repeat' split) <;> first | exact hX | exact RX_ref hX (by decide) | (exfalso; omega), by first | exact MS.rf _ | exact (MS.rf _).up (by decide)⟩)
set_option maxHeartbeats 4000000 in
theorem c_X9_settled {V : Wd} {σ : St} {α : St}  (hk : OK α) (hX : RX α σ) : Ct V yX9_settled cX9_settled 2 (some .int) 16 381 [rv V 0] σ (PI (fun r τ => r = an_settled α ∧ RX (nx_settled α) τ ∧ MS σ τ)) := by
  refine ct_of (by decide) (Nat.le_of_ble_eq_true rfl) (fun X G T => ?_)
  have G : Gd X V cX9_settled RX9 2 16 381 := G
  show AW X V σ 0 [] [some (rv V 0), none]
  have hN : NetOK σ 1 := hX.1.ok hk.1
  obtain ⟨⟨e0, e1, er⟩, ⟨x1, x2⟩, xp, xl, xr, xi⟩ := id hX
  obtain ⟨⟨n1, n2, n3, n4, n5, n6⟩, u1, l1, l2, i1, s1, w1⟩ := id hk
  obtain ⟨p1, p2, p3, p4, p5, p6⟩ := id hN
  have hne : NetEq σ 1 α 75 := ⟨e0, e1, er⟩
  have loop : ∀ (n0 : Nat) (i : Int) (τ : St), (0 ≤ i ∧ i ≤ 6) → (6 < i + (n0 : Int)) → (Only thM σ τ) → (∀ x : Int, 0 ≤ x → x ≤ 6 - i → τ 74 x = dif (gaN α) i.toNat x) → (an_settled α = stl (gaN α) (6 - i).toNat i.toNat) → AW X V (τ) 9 [] [some (rv V 0), some (iv i)] := by
    intro n0
    induction n0 with
    | zero =>
      intro i τ h0 hc ho hq hs
      exfalso
      omega
    | succ n0 ih =>
      intro i τ h0 hc ho hq hs
      refine aw_iload_n G dX9_settled_9 rfl ?_
      refine aw_bipush G dX9_settled_10 (k := ?_)
      refine aw_icmp_ge (tgt := 47) G dX9_settled_12 (by decide) (by first | omega | exact b01_R _ | exact bP_R _) (by first | omega | exact b01_R _ | exact bP_R _) (fun c12 => ?_) (fun c12 => ?_)
      · refine aw_bipush G dX9_settled_47 (k := ?_)
        exact aw_iret G T dX9_settled_49 (by
          refine ⟨?_, RX_tm ho hX, MS_tm ho⟩
          rw [hs, show i = 6 by omega]
          rfl)
      · have ei : ((i.toNat : Nat) : Int) = i := by omega
        have hRs : ∀ x : Int, 0 ≤ x → x < 7 - i → inR (τ 74 x) := fun x a1 a2 => by
          rw [hq x a1 (by omega)]
          exact dif_I (fun y b1 b2 => by have hz := gN_R (W := nwt σ 1) (n := σ 1 0) (show 0 ≤ y ∧ y ≤ 6 from ⟨b1, b2⟩) (show 0 ≤ σ 1 1 ∧ σ 1 1 ≤ 8 by omega); rw [gN_e hne p4 y] at hz; exact hz) i.toNat x a1 (by omega)
        have hlk : ruleP 0 (τ 74) (7 - i) ↔ likeP (dif (gaN α) i.toNat) (7 - i) := by
          unfold ruleP
          rw [if_pos rfl]
          exact likeP_c fun x a1 a2 => hq x a1 (by omega)
        refine aw_iconst G dX9_settled_15 ?_
        refine aw_aload_n G dX9_settled_16 rfl ?_
        refine gf_X9_74 G dX9_settled_17 (kk := ?_)
        refine aw_bipush G dX9_settled_20 (k := ?_)
        refine aw_iload_n G dX9_settled_22 rfl ?_
        refine aw_isub G dX9_settled_23 ?_
        refine cs_X9_168 G dX9_settled_24 (c_X5_holds (k := 74) (N := 7) (by decide) rfl (by decide) (by omega) hRs (by omega) (by omega)) (kk := fun r24 t24 h24 => ?_)
        obtain ⟨rfl, ee24⟩ := h24
        obtain rfl := ee24.symm
        refine aw_if_eq (tgt := 32) G dX9_settled_27 (by decide) (bP_R _) (fun c27 => ?_) (fun c27 => ?_)
        · try simp only [b01_0, b01_n, bP_0, bP_n, Classical.not_not] at c27
          refine aw_aload_n G dX9_settled_32 rfl ?_
          refine aw_iconst G dX9_settled_33 ?_
          refine aw_bipush G dX9_settled_34 (k := ?_)
          refine aw_iload_n G dX9_settled_36 rfl ?_
          refine aw_isub G dX9_settled_37 ?_
          refine cv_X9_191 G dX9_settled_38 (c_X9_becomeDifferences (by omega) (by omega)) (kk := fun t38 h38 => ?_)
          obtain ⟨o38, q38⟩ := h38
          refine aw_iinc_1 G dX9_settled_41 rfl (hc := by first | rfl | assumption) (k := ?_)
          refine aw_goto (tgt := 9) G dX9_settled_44 (by decide) ?_
          rw [show (6 - i).toNat = (6 - (i + 1)).toNat + 1 by omega, stl_s, ei, bP_f (fun q => c27 (hlk.mpr q)), if_neg (by decide)] at hs
          refine ih (i + 1) t38 (by omega) (by omega) (ho.tr (o38.mono (by decide))) (fun x a1 a2 => ?_) (by rw [show (i + 1).toNat = i.toNat + 1 by omega]; exact hs)
          rw [q38 x a1 (by omega), hq (x + 1) (by omega) (by omega), hq x (by omega) (by omega), show (i + 1).toNat = i.toNat + 1 by omega, dif_s]
        · try simp only [b01_0, b01_n, bP_0, bP_n, Classical.not_not] at c27
          refine aw_iload_n G dX9_settled_30 rfl ?_
          exact aw_iret G T dX9_settled_31 (by
          refine ⟨?_, RX_tm ho hX, MS_tm ho⟩
          rw [hs, show (6 - i).toNat = (6 - (i + 1)).toNat + 1 by omega, stl_s, ei, bP_t (hlk.mp c27), if_pos rfl])
  refine aw_aload_n G dX9_settled_0 rfl ?_
  refine aw_iconst G dX9_settled_1 ?_
  refine aw_bipush G dX9_settled_2 (k := ?_)
  refine cv_X9_187 G dX9_settled_4 (c_X9_fillMagicRow hN (by omega) (by omega)) (kk := fun t4 h4 => ?_)
  obtain ⟨o4, q4⟩ := h4
  refine aw_iconst G dX9_settled_7 ?_
  refine aw_istore_1 G dX9_settled_8 (hc := by first | rfl | assumption) (k := ?_)
  exact loop 7 0 t4 (by omega) (by omega) o4 (fun x a1 a2 => by rw [q4 x a1 (by omega)]; exact gN_e hne p4 x) rfl
