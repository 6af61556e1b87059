abbrev shR : List Nat := [55, 56, 57, 58, 59, 60, 61]
theorem in55 {s : Int} (h : 0 ≤ s ∧ s < 7) : 55 + s.toNat ∈ shR ∧ 55 + s.toNat < NC ∧ lay (55 + s.toNat) = jE 8 := by
  rcases (show s = 0 ∨ s = 1 ∨ s = 2 ∨ s = 3 ∨ s = 4 ∨ s = 5 ∨ s = 6 by omega) with e | e | e | e | e | e | e <;> rw [e] <;> exact ⟨by decide, by decide, rfl⟩
theorem CB.c {N L n l : Int} {A B B' : Int → Int → Int} (h : CB N L n l A B) (e : ∀ s j : Int, n ≤ s → s < N → l ≤ j → j < L → B' s j = B s j) : CB N L n l A B' := by
  obtain ⟨c, hc, hB⟩ := h
  refine ⟨c, hc, fun s j s0 s1 j0 j1 => ?_⟩
  rw [e s j s0 s1 j0 j1]
  exact hB s j s0 s1 j0 j1
theorem CB.R {N L n l : Int} {A B : Int → Int → Int} (h : CB N L n l A B) {s j : Int} (s0 : n ≤ s) (s1 : s < N) (j0 : l ≤ j) (j1 : j < L) : ab (B s j) ≤ 2147483646 := by
  obtain ⟨c, hc, hB⟩ := h
  have := (hB s j s0 s1 j0 j1).2
  omega
/-- the class's rows -/
def mC (σ : St) : Int → Int → Int := fun s j => σ (55 + s.toNat) j
theorem mC_v (σ : St) (s j : Int) : mC σ s j = σ (55 + s.toNat) j := rfl
theorem mC_at {σ : St} {a k x : Int} : mC (up σ (55 + a.toNat) k x) a k = x := up_at _ _ _ _
theorem mC_o {σ : St} {a k x s j : Int} (ha : 0 ≤ a) (hs : 0 ≤ s) (h : ¬ (s = a ∧ j = k)) : mC (up σ (55 + a.toNat) k x) s j = mC σ s j := by
  unfold mC
  by_cases e : j = k
  · exact up_o (by omega)
  · exact up_nj e
theorem RX_sh {α σ τ : St} (ho : Only shR σ τ) (h : RX α σ) : RX α τ := RX_c (fun k hk => ho k (by unfold xP at hk; simp; omega)) h
theorem MS_sh {σ τ : St} (ho : Only shR σ τ) : MS σ τ := fun k hk => ho k (by simp; omega)
set_option maxHeartbeats 4000000 in
theorem c_X6_exchangeRows {V : Wd} {σ : St} {a b : Int} (ha : 0 ≤ a ∧ a < 7) (hb : 0 ≤ b ∧ b < 7) (hL : 0 ≤ σ 1 1 ∧ σ 1 1 ≤ 8) : Ct V yX6_exchangeRows cX6_exchangeRows 6 none 0 0 [rv V 53, iv a, iv b] σ (PV (fun τ => Only shR σ τ ∧ ∀ s j : Int, 0 ≤ s → 0 ≤ j → j < σ 1 1 → mC τ s j = mC σ (swi a b s) j)) := by
  refine ct_of (by decide) (Nat.le_of_ble_eq_true rfl) (fun X G T => ?_)
  have G : Gd X V cX6_exchangeRows RX6 6 0 0 := G
  show AW X V σ 0 [] [some (rv V 53), some (iv a), some (iv b), none, none, none]
  obtain ⟨a1, a2, a3⟩ := in55 ha
  obtain ⟨b1, b2, b3⟩ := in55 hb
  have loop : ∀ (n0 : Nat) (k : Int) (τ : St) (u4 : Option Value) (u5 : Option Value), (0 ≤ k ∧ k ≤ σ 1 1) → (σ 1 1 < k + (n0 : Int)) → (Only shR σ τ) → (∀ s j : Int, 0 ≤ s → 0 ≤ j → j < σ 1 1 → mC τ s j = if j < k then mC σ (swi a b s) j else mC σ s j) → AW X V (τ) 2 [] [some (rv V 53), some (iv a), some (iv b), some (iv k), u4, u5] := by
    intro n0
    induction n0 with
    | zero =>
      intro k τ u4 u5 h0 h1 ho hq
      exfalso
      omega
    | succ n0 ih =>
      intro k τ u4 u5 h0 h1 ho hq
      have e1 : τ 1 = σ 1 := ho 1 (by decide)
      refine aw_iload_n G dX6_exchangeRows_2 rfl ?_
      refine aw_aload_n G dX6_exchangeRows_3 rfl ?_
      refine gf_X6_16 G dX6_exchangeRows_4 (kk := ?_)
      refine gf_X6_26 G dX6_exchangeRows_7 (kk := ?_)
      rw [e1]
      refine aw_icmp_ge (tgt := 55) G dX6_exchangeRows_10 (by decide) (by first | omega | exact b01_R _ | exact bP_R _) (by first | omega | exact b01_R _ | exact bP_R _) (fun c10 => ?_) (fun c10 => ?_)
      · exact aw_vret G T dX6_exchangeRows_55 (⟨ho, fun s j s0 j0 j1 => by rw [hq s j s0 j0 j1, if_pos (by omega)]⟩)
      · refine aw_aload_n G dX6_exchangeRows_13 rfl ?_
        refine gf_X6_11 G dX6_exchangeRows_14 (kk := ?_)
        refine aw_iload_n G dX6_exchangeRows_17 rfl ?_
        refine aw_aaload (ty := .long) G dX6_exchangeRows_18 (by first | decide | assumption) rfl (by decide) rfl (by omega) ?_
        refine aw_iload_n G dX6_exchangeRows_19 rfl ?_
        refine aw_laload G dX6_exchangeRows_20 (by first | decide | assumption | omega) (by first | rfl | assumption) (by first | decide | assumption) (by omega) ?_
        refine aw_lstore_4 G dX6_exchangeRows_21 (hc := by first | rfl | assumption) (k := ?_)
        refine aw_aload_n G dX6_exchangeRows_23 rfl ?_
        refine gf_X6_11 G dX6_exchangeRows_24 (kk := ?_)
        refine aw_iload_n G dX6_exchangeRows_27 rfl ?_
        refine aw_aaload (ty := .long) G dX6_exchangeRows_28 (by first | decide | assumption) rfl (by decide) rfl (by omega) ?_
        refine aw_iload_n G dX6_exchangeRows_29 rfl ?_
        refine aw_aload_n G dX6_exchangeRows_30 rfl ?_
        refine gf_X6_11 G dX6_exchangeRows_31 (kk := ?_)
        refine aw_iload_n G dX6_exchangeRows_34 rfl ?_
        refine aw_aaload (ty := .long) G dX6_exchangeRows_35 (by first | decide | assumption) rfl (by decide) rfl (by omega) ?_
        refine aw_iload_n G dX6_exchangeRows_36 rfl ?_
        refine aw_laload G dX6_exchangeRows_37 (by first | decide | assumption | omega) (by first | rfl | assumption) (by first | decide | assumption) (by omega) ?_
        refine aw_lastore G dX6_exchangeRows_38 (by first | decide | assumption | omega) (by first | rfl | assumption) (by first | decide | assumption) (by omega) ?_
        refine aw_aload_n G dX6_exchangeRows_39 rfl ?_
        refine gf_X6_11 G dX6_exchangeRows_40 (kk := ?_)
        refine aw_iload_n G dX6_exchangeRows_43 rfl ?_
        refine aw_aaload (ty := .long) G dX6_exchangeRows_44 (by first | decide | assumption) rfl (by decide) rfl (by omega) ?_
        refine aw_iload_n G dX6_exchangeRows_45 rfl ?_
        refine aw_lload G dX6_exchangeRows_46 rfl ?_
        refine aw_lastore G dX6_exchangeRows_48 (by first | decide | assumption | omega) (by first | rfl | assumption) (by first | decide | assumption) (by omega) ?_
        refine aw_iinc_3 G dX6_exchangeRows_49 rfl (hc := by first | rfl | assumption) (k := ?_)
        refine aw_goto (tgt := 2) G dX6_exchangeRows_52 (by decide) ?_
        refine ih (k + 1) _ _ _ (by omega) (by omega) ((ho.up a1).up b1) (fun s j s0 j0 j1 => ?_)
        have va := hq a k ha.1 (by omega) (by omega)
        have vb := hq b k hb.1 (by omega) (by omega)
        rw [if_neg (by omega)] at va vb
        by_cases e1 : j = k
        · rw [if_pos (by omega), e1]
          by_cases e2 : s = b
          · rw [e2, mC_at, swi_r]
            exact va
          · rw [mC_o hb.1 s0 (fun q => e2 q.1)]
            by_cases e3 : s = a
            · rw [e3, mC_at, swi_n]
              exact vb
            · rw [mC_o ha.1 s0 (fun q => e3 q.1), hq s k s0 (by omega) (by omega), if_neg (by omega), swi_o e3 e2]
        · rw [mC_o hb.1 s0 (fun q => e1 q.2), mC_o ha.1 s0 (fun q => e1 q.2), hq s j s0 j0 j1]
          by_cases e4 : j < k
          · rw [if_pos e4, if_pos (by omega)]
          · rw [if_neg e4, if_neg (by omega)]
  refine aw_iconst G dX6_exchangeRows_0 ?_
  refine aw_istore_3 G dX6_exchangeRows_1 (hc := by first | rfl | assumption) (k := ?_)
  exact loop ((σ 1 1).toNat + 1) 0 σ _ _ (by omega) (by omega) (fun _ _ => rfl) (fun s j s0 j0 j1 => by rw [if_neg (by omega)])
set_option maxHeartbeats 4000000 in
theorem c_X6_bringUp {V : Wd} {σ : St} {n l : Int} (hN : 1 ≤ σ 1 0 ∧ σ 1 0 ≤ 7) (hL : 0 ≤ σ 1 1 ∧ σ 1 1 ≤ 8) (hn : 0 ≤ n ∧ n < σ 1 0) (hl : 0 ≤ l ∧ l < σ 1 1) (hR : ∀ s j : Int, n ≤ s → s < σ 1 0 → l ≤ j → j < σ 1 1 → ab (mC σ s j) ≤ 2147483646) : Ct V yX6_bringUp cX6_bringUp 4 (some .boolean) 1 25 [rv V 53, iv n, iv l] σ (PI (fun r τ => (r = 1 ∧ ∃ t : Int, n ≤ t ∧ t < σ 1 0 ∧ mC σ t l ≠ 0 ∧ (∀ i : Int, n ≤ i → i < t → mC σ i l = 0) ∧ Only shR σ τ ∧ ∀ s j : Int, 0 ≤ s → 0 ≤ j → j < σ 1 1 → mC τ s j = mC σ (swi n t s) j) ∨ (r = 0 ∧ (∀ i : Int, n ≤ i → i < σ 1 0 → mC σ i l = 0) ∧ τ = σ))) := by
  refine ct_of (by decide) (Nat.le_of_ble_eq_true rfl) (fun X G T => ?_)
  have G : Gd X V cX6_bringUp RX6 4 1 25 := G
  show AW X V σ 0 [] [some (rv V 53), some (iv n), some (iv l), none]
  have loop : ∀ (n0 : Nat) (i : Int), (n ≤ i ∧ i ≤ σ 1 0) → (σ 1 0 < i + (n0 : Int)) → (∀ s : Int, n ≤ s → s < i → mC σ s l = 0) → AW X V (σ) 2 [] [some (rv V 53), some (iv n), some (iv l), some (iv i)] := by
    intro n0
    induction n0 with
    | zero =>
      intro i h0 h1 hz
      exfalso
      omega
    | succ n0 ih =>
      intro i h0 h1 hz
      refine aw_iload_n G dX6_bringUp_2 rfl ?_
      refine aw_aload_n G dX6_bringUp_3 rfl ?_
      refine gf_X6_16 G dX6_bringUp_4 (kk := ?_)
      refine gf_X6_20 G dX6_bringUp_7 (kk := ?_)
      refine aw_icmp_ge (tgt := 40) G dX6_bringUp_10 (by decide) (by first | omega | exact b01_R _ | exact bP_R _) (by first | omega | exact b01_R _ | exact bP_R _) (fun c10 => ?_) (fun c10 => ?_)
      · refine aw_iconst G dX6_bringUp_40 ?_
        exact aw_zret G T dX6_bringUp_41 (Or.inl rfl) (Or.inr ⟨rfl, fun s a b => hz s a (by omega), rfl⟩)
      · obtain ⟨a1, a2, a3⟩ := in55 (s := i) (by omega)
        have hr := hR i l (by omega) (by omega) (by omega) (by omega)
        rw [ab_le] at hr
        refine aw_aload_n G dX6_bringUp_13 rfl ?_
        refine gf_X6_11 G dX6_bringUp_14 (kk := ?_)
        refine aw_iload_n G dX6_bringUp_17 rfl ?_
        refine aw_aaload (ty := .long) G dX6_bringUp_18 (by first | decide | assumption) rfl (by decide) rfl (by omega) ?_
        refine aw_iload_n G dX6_bringUp_19 rfl ?_
        refine aw_laload G dX6_bringUp_20 (by first | decide | assumption | omega) (by first | rfl | assumption) (by first | decide | assumption) (by omega) ?_
        rw [← mC_v σ i l]
        refine aw_lconst G dX6_bringUp_21 ?_
        change AW X V σ _ [jv (0 : Int), jv (mC σ i l)] _
        refine aw_lcmp G dX6_bringUp_22 (by omega) (by omega) ?_
        refine aw_if_eq (tgt := 34) G dX6_bringUp_23 (by decide) (by (repeat' split) <;> omega) (fun c23 => ?_) (fun c23 => ?_)
        · refine aw_iinc_3 G dX6_bringUp_34 rfl (hc := by first | rfl | assumption) (k := ?_)
          refine aw_goto (tgt := 2) G dX6_bringUp_37 (by decide) ?_
          refine ih (i + 1) (by omega) (by omega) (fun s a b => ?_)
          by_cases e : s = i
          · rw [e]
            revert c23
            (repeat' split) <;> omega
          · exact hz s a (by omega)
        · refine aw_aload_n G dX6_bringUp_26 rfl ?_
          refine aw_iload_n G dX6_bringUp_27 rfl ?_
          refine aw_iload_n G dX6_bringUp_28 rfl ?_
          refine cv_X6_41 G dX6_bringUp_29 (c_X6_exchangeRows (by omega) (by omega) hL) (kk := fun t29 h29 => ?_)
          obtain ⟨o29, q29⟩ := h29
          refine aw_iconst G dX6_bringUp_32 ?_
          exact aw_zret G T dX6_bringUp_33 (Or.inr rfl) (Or.inl ⟨rfl, i, by omega, by omega, fun q => c23 (by rw [q]; rfl), fun s a b => hz s a b, o29, q29⟩)
  refine aw_iload_n G dX6_bringUp_0 rfl ?_
  refine aw_istore_3 G dX6_bringUp_1 (hc := by first | rfl | assumption) (k := ?_)
  exact loop ((σ 1 0).toNat + 1) n (by omega) (by omega) (fun s a b => by omega)
set_option maxHeartbeats 4000000 in
theorem c_X6_clearBelow {V : Wd} {σ : St} {n l : Int} (hN : 1 ≤ σ 1 0 ∧ σ 1 0 ≤ 7) (hL : 0 ≤ σ 1 1 ∧ σ 1 1 ≤ 8) (hn : 0 ≤ n ∧ n < σ 1 0) (hl : 0 ≤ l ∧ l < σ 1 1) (hR : ∀ s j : Int, n ≤ s → s < σ 1 0 → l ≤ j → j < σ 1 1 → ab (mC σ s j) ≤ 2147483646) : Ct V yX6_clearBelow cX6_clearBelow 9 none 0 0 [rv V 53, iv n, iv l] σ (PV (fun τ => Only shR σ τ ∧ ∀ s j : Int, n < s → s < σ 1 0 → l ≤ j → j < σ 1 1 → mC τ s j = pvB n l (mC σ) s j)) := by
  refine ct_of (by decide) (Nat.le_of_ble_eq_true rfl) (fun X G T => ?_)
  have G : Gd X V cX6_clearBelow RX6 9 0 0 := G
  show AW X V σ 0 [] [some (rv V 53), some (iv n), some (iv l), none, none, none, none, none, none]
  obtain ⟨B, hB⟩ : ∃ B : Int → Int → Int, B = mC σ := ⟨_, rfl⟩
  rw [← hB] at hR
  obtain ⟨a1, a2, a3⟩ := in55 (s := n) (by omega)
  have loop : ∀ (n0 : Nat) (q : Int) (τ : St) (u6 : Option Value) (u7 : Option Value) (u8 : Option Value), (n + 1 ≤ q ∧ q ≤ σ 1 0) → (σ 1 0 < q + (n0 : Int)) → (Only shR σ τ) → (∀ s j : Int, n ≤ s → s < σ 1 0 → l ≤ j → j < σ 1 1 → mC τ s j = if n < s ∧ s < q then pvB n l B s j else B s j) → AW X V (τ) 14 [] [some (rv V 53), some (iv n), some (iv l), some (jv (B n l)), none, some (iv q), u6, u7, u8] := by
    intro n0
    induction n0 with
    | zero =>
      intro q τ u6 u7 u8 q0 q1 qo qM
      exfalso
      omega
    | succ n0 ih =>
      intro q τ u6 u7 u8 q0 q1 qo qM
      have e1 : τ 1 = σ 1 := qo 1 (by decide)
      refine aw_iload G dX6_clearBelow_14 rfl ?_
      refine aw_aload_n G dX6_clearBelow_16 rfl ?_
      refine gf_X6_16 G dX6_clearBelow_17 (kk := ?_)
      refine gf_X6_20 G dX6_clearBelow_20 (kk := ?_)
      rw [e1]
      refine aw_icmp_ge (tgt := 103) G dX6_clearBelow_23 (by decide) (by first | omega | exact b01_R _ | exact bP_R _) (by first | omega | exact b01_R _ | exact bP_R _) (fun c23 => ?_) (fun c23 => ?_)
      · exact aw_vret G T dX6_clearBelow_103 (⟨qo, fun s j s0 s1 j0 j1 => by rw [qM s j (by omega) s1 j0 j1, if_pos (by omega), hB]⟩)
      · obtain ⟨b1, b2, b3⟩ := in55 (s := q) (by omega)
        refine aw_aload_n G dX6_clearBelow_26 rfl ?_
        refine gf_X6_11 G dX6_clearBelow_27 (kk := ?_)
        refine aw_iload G dX6_clearBelow_30 rfl ?_
        refine aw_aaload (ty := .long) G dX6_clearBelow_32 (by first | decide | assumption) rfl (by decide) rfl (by omega) ?_
        refine aw_iload_n G dX6_clearBelow_33 rfl ?_
        refine aw_laload G dX6_clearBelow_34 (by first | decide | assumption | omega) (by first | rfl | assumption) (by first | decide | assumption) (by omega) ?_
        rw [← mC_v τ q l, qM q l (by omega) (by omega) (by omega) (by omega), if_neg (by omega)]
        refine aw_lstore_6 G dX6_clearBelow_35 (hc := by first | rfl | assumption) (k := ?_)
        refine aw_iload_n G dX6_clearBelow_37 rfl ?_
        refine aw_istore_8 G dX6_clearBelow_38 (hc := by first | rfl | assumption) (k := ?_)
        have inner : ∀ (n1 : Nat) (k : Int) (τ3 : St), (l ≤ k ∧ k ≤ σ 1 1) → (σ 1 1 < k + (n1 : Int)) → (Only shR σ τ3) → (∀ s j : Int, n ≤ s → s < σ 1 0 → l ≤ j → j < σ 1 1 → mC τ3 s j = if n < s ∧ (s < q ∨ (s = q ∧ j < k)) then pvB n l B s j else B s j) → AW X V (τ3) 40 [] [some (rv V 53), some (iv n), some (iv l), some (jv (B n l)), none, some (iv q), some (jv (B q l)), none, some (iv k)] := by
          intro n1
          induction n1 with
          | zero =>
            intro k τ3 k0 k1 ko kM
            exfalso
            omega
          | succ n1 ih1 =>
            intro k τ3 k0 k1 ko kM
            have e1 : τ3 1 = σ 1 := ko 1 (by decide)
            refine aw_iload G dX6_clearBelow_40 rfl ?_
            refine aw_aload_n G dX6_clearBelow_42 rfl ?_
            refine gf_X6_16 G dX6_clearBelow_43 (kk := ?_)
            refine gf_X6_26 G dX6_clearBelow_46 (kk := ?_)
            rw [e1]
            refine aw_icmp_ge (tgt := 97) G dX6_clearBelow_49 (by decide) (by first | omega | exact b01_R _ | exact bP_R _) (by first | omega | exact b01_R _ | exact bP_R _) (fun c49 => ?_) (fun c49 => ?_)
            · refine aw_iinc_5 G dX6_clearBelow_97 rfl (hc := by first | rfl | assumption) (k := ?_)
              refine aw_goto (tgt := 14) G dX6_clearBelow_100 (by decide) ?_
              refine ih (q + 1) τ3 _ _ _ (by omega) (by omega) ko (fun s j s0 s1 j0 j1 => ?_)
              rw [kM s j s0 s1 j0 j1]
              by_cases e4 : n < s ∧ (s < q ∨ (s = q ∧ j < k))
              · rw [if_pos e4, if_pos (by omega)]
              · rw [if_neg e4, if_neg (by omega)]
            · refine aw_aload_n G dX6_clearBelow_52 rfl ?_
              refine gf_X6_11 G dX6_clearBelow_53 (kk := ?_)
              refine aw_iload G dX6_clearBelow_56 rfl ?_
              refine aw_aaload (ty := .long) G dX6_clearBelow_58 (by first | decide | assumption) rfl (by decide) rfl (by omega) ?_
              refine aw_iload G dX6_clearBelow_59 rfl ?_
              refine aw_aload_n G dX6_clearBelow_61 rfl ?_
              refine gf_X6_11 G dX6_clearBelow_62 (kk := ?_)
              refine aw_iload G dX6_clearBelow_65 rfl ?_
              refine aw_aaload (ty := .long) G dX6_clearBelow_67 (by first | decide | assumption) rfl (by decide) rfl (by omega) ?_
              refine aw_iload G dX6_clearBelow_68 rfl ?_
              refine aw_laload G dX6_clearBelow_70 (by first | decide | assumption | omega) (by first | rfl | assumption) (by first | decide | assumption) (by omega) ?_
              rw [← mC_v τ3 q k, kM q k (by omega) (by omega) (by omega) (by omega), if_neg (by omega)]
              refine aw_lload_n G dX6_clearBelow_71 rfl ?_
              refine aw_lmul G dX6_clearBelow_72 ?_
              refine aw_aload_n G dX6_clearBelow_73 rfl ?_
              refine gf_X6_11 G dX6_clearBelow_74 (kk := ?_)
              refine aw_iload_n G dX6_clearBelow_77 rfl ?_
              refine aw_aaload (ty := .long) G dX6_clearBelow_78 (by first | decide | assumption) rfl (by decide) rfl (by omega) ?_
              refine aw_iload G dX6_clearBelow_79 rfl ?_
              refine aw_laload G dX6_clearBelow_81 (by first | decide | assumption | omega) (by first | rfl | assumption) (by first | decide | assumption) (by omega) ?_
              rw [← mC_v τ3 n k, kM n k (by omega) (by omega) (by omega) (by omega), if_neg (by omega)]
              refine aw_lload G dX6_clearBelow_82 rfl ?_
              refine aw_lmul G dX6_clearBelow_84 ?_
              refine aw_lsub G dX6_clearBelow_85 ?_
              refine lc_X6_44 G dX6_clearBelow_86 ?_
              refine aw_lrem G dX6_clearBelow_89 (by have hz := ab_R (hR q k (by omega) (by omega) (by omega) (by omega)) (hR n l (by omega) (by omega) (by omega) (by omega)) (hR n k (by omega) (by omega) (by omega) (by omega)) (hR q l (by omega) (by omega) (by omega) (by omega)) (by decide); rw [ab_le] at hz; omega) (by decide) ?_
              refine aw_lastore G dX6_clearBelow_90 (by first | decide | assumption | omega) (by first | rfl | assumption) (by first | decide | assumption) (by omega) ?_
              refine aw_iinc_8 G dX6_clearBelow_91 rfl (hc := by first | rfl | assumption) (k := ?_)
              refine aw_goto (tgt := 40) G dX6_clearBelow_94 (by decide) ?_
              refine ih1 (k + 1) _ (by omega) (by omega) (ko.up b1) (fun s j s0 s1 j0 j1 => ?_)
              by_cases e1 : s = q ∧ j = k
              · obtain ⟨e2, e3⟩ := e1
                rw [e2, e3, mC_at, if_pos (by omega)]
                rfl
              · rw [mC_o (by omega) (by omega) e1, kM s j s0 s1 j0 j1]
                by_cases e4 : n < s ∧ (s < q ∨ (s = q ∧ j < k))
                · rw [if_pos e4, if_pos (by omega)]
                · rw [if_neg e4, if_neg (by omega)]
        exact inner ((σ 1 1).toNat + 1) l τ (by omega) (by omega) qo (fun s j s0 s1 j0 j1 => by
          rw [qM s j s0 s1 j0 j1]
          by_cases e4 : n < s ∧ s < q
          · rw [if_pos e4, if_pos (by omega)]
          · rw [if_neg e4, if_neg (by omega)])
  refine aw_aload_n G dX6_clearBelow_0 rfl ?_
  refine gf_X6_11 G dX6_clearBelow_1 (kk := ?_)
  refine aw_iload_n G dX6_clearBelow_4 rfl ?_
  refine aw_aaload (ty := .long) G dX6_clearBelow_5 (by first | decide | assumption) rfl (by decide) rfl (by omega) ?_
  refine aw_iload_n G dX6_clearBelow_6 rfl ?_
  refine aw_laload G dX6_clearBelow_7 (by first | decide | assumption | omega) (by first | rfl | assumption) (by first | decide | assumption) (by omega) ?_
  rw [← mC_v σ n l, ← hB]
  refine aw_lstore_3 G dX6_clearBelow_8 (hc := by first | rfl | assumption) (k := ?_)
  refine aw_iload_n G dX6_clearBelow_9 rfl ?_
  refine aw_iconst G dX6_clearBelow_10 ?_
  refine aw_iadd G dX6_clearBelow_11 ?_
  refine aw_istore_5 G dX6_clearBelow_12 (hc := by first | rfl | assumption) (k := ?_)
  exact loop ((σ 1 0).toNat + 1) (n + 1) σ _ _ _ (by omega) (by omega) (fun _ _ => rfl) (fun s j s0 s1 j0 j1 => by rw [if_neg (by omega), hB])
set_option maxHeartbeats 4000000 in
theorem c_X6_rankOfTable {V : Wd} {σ : St} {A0 : Int → Int → Int} {fw bw : Int → Int} {K0 : Int} {g0 h0 : Int → Int} {x0 : Int → Int → Int} {f0 f0' : Int → Int} (hN : NetOK σ 1) (hA : ∀ s j : Int, 0 ≤ s → s < σ 1 0 → 0 ≤ j → j < σ 1 1 → nwt σ 1 s j = A0 s j) (hw : ∀ j : Int, 0 ≤ j → j < σ 1 1 → 0 ≤ fw j ∧ 0 ≤ bw j ∧ fw j + bw j ≤ 13) (hI0 : RKI (σ 1 0) (σ 1 1) fw bw 0 1 A0 K0 g0 h0 x0 f0 f0') : Ct V yX6_rankOfTable cX6_rankOfTable 3 (some .int) 3 66 [rv V 53] σ (PI (fun r τ => r = bar (σ 1 0) (σ 1 1).toNat 0 0 1 A0 ∧ Only shR σ τ ∧ 0 ≤ r ∧ r ≤ 8)) := by
  refine ct_of (by decide) (Nat.le_of_ble_eq_true rfl) (fun X G T => ?_)
  have G : Gd X V cX6_rankOfTable RX6 3 3 66 := G
  show AW X V σ 0 [] [some (rv V 53), none, none]
  obtain ⟨n1, n2, n3, n4, n5, n6⟩ := id hN
  have main : ∀ (n0 : Nat) (l : Int) (n : Int) (d : Int) (A : Int → Int → Int) (τ : St), (0 ≤ l ∧ l ≤ σ 1 1) → (σ 1 1 < l + (n0 : Int)) → (Only shR σ τ) → (∃ K g h x e e', RKI (σ 1 0) (σ 1 1) fw bw n d A K g h x e e') → (0 ≤ n ∧ n ≤ σ 1 0) → (CB (σ 1 0) (σ 1 1) n l A (mC τ)) → (bar (σ 1 0) (σ 1 1).toNat 0 0 1 A0 = bar (σ 1 0) (σ 1 1 - l).toNat l n d A) → AW X V (τ) 60 [] [some (rv V 53), some (iv n), some (iv l)] := by
    intro n0
    induction n0 with
    | zero =>
      intro l n d A τ h0x h1 ho hI hn hC hb
      exfalso
      omega
    | succ n0 ih =>
      intro l n d A τ h0x h1 ho hI hn hC hb
      have e1 : τ 1 = σ 1 := ho 1 (by decide)
      obtain ⟨K, g, h, x, e, e', hI⟩ := hI
      refine aw_iload_n G dX6_rankOfTable_60 rfl ?_
      refine aw_aload_n G dX6_rankOfTable_61 rfl ?_
      refine gf_X6_16 G dX6_rankOfTable_62 (kk := ?_)
      refine gf_X6_26 G dX6_rankOfTable_65 (kk := ?_)
      rw [e1]
      refine aw_icmp_ge (tgt := 106) G dX6_rankOfTable_68 (by decide) (by first | omega | exact b01_R _ | exact bP_R _) (by first | omega | exact b01_R _ | exact bP_R _) (fun c68 => ?_) (fun c68 => ?_)
      · refine aw_iload_n G dX6_rankOfTable_106 rfl ?_
        exact aw_iret G T dX6_rankOfTable_107 (by
        refine ⟨?_, ho, by omega, by omega⟩
        rw [hb]
        first
          | exact (bar_n (by omega) _ _ _ _).symm
          | (rw [show (σ 1 1 - l).toNat = 0 by omega]
             rfl))
      · refine aw_iload_n G dX6_rankOfTable_71 rfl ?_
        refine aw_aload_n G dX6_rankOfTable_72 rfl ?_
        refine gf_X6_16 G dX6_rankOfTable_73 (kk := ?_)
        refine gf_X6_20 G dX6_rankOfTable_76 (kk := ?_)
        rw [e1]
        refine aw_icmp_ge (tgt := 106) G dX6_rankOfTable_79 (by decide) (by first | omega | exact b01_R _ | exact bP_R _) (by first | omega | exact b01_R _ | exact bP_R _) (fun c79 => ?_) (fun c79 => ?_)
        · refine aw_iload_n G dX6_rankOfTable_106 rfl ?_
          exact aw_iret G T dX6_rankOfTable_107 (by
        refine ⟨?_, ho, by omega, by omega⟩
        rw [hb]
        first
          | exact (bar_n (by omega) _ _ _ _).symm
          | (rw [show (σ 1 1 - l).toNat = 0 by omega]
             rfl))
        · refine aw_aload_n G dX6_rankOfTable_82 rfl ?_
          refine aw_iload_n G dX6_rankOfTable_83 rfl ?_
          refine aw_iload_n G dX6_rankOfTable_84 rfl ?_
          refine cv_X6_33 G dX6_rankOfTable_85 (c_X6_bringUp (by rw [e1]; omega) (by rw [e1]; omega) (by rw [e1]; omega) (by rw [e1]; omega) (by rw [e1]; exact fun s j s0 s1 j0 j1 => hC.R s0 s1 j0 j1)) (kk := fun r85 t85 h85 => ?_)
          refine aw_if_eq (tgt := 100) G dX6_rankOfTable_88 (by decide) (by rcases h85 with ⟨q1, -⟩ | ⟨q1, -⟩ <;> omega) (fun c88 => ?_) (fun c88 => ?_)
          · refine aw_iinc_2 G dX6_rankOfTable_100 rfl (hc := by first | rfl | assumption) (k := ?_)
            refine aw_goto (tgt := 60) G dX6_rankOfTable_103 (by decide) ?_
            first
              | (obtain ⟨o94, q94⟩ := h94
                 refine ih (l + 1) (n + 1) (A1 n l) (pvA n l d A1) t94 (by omega) (by omega) ((ho.tr t4).tr o94) ⟨_, _, _, _, _, _, hI2⟩ (by omega) (hC3.c fun s j s0 s1 j0 j1 => q94 s j (by omega) (by rw [e2]; exact s1) (by omega) (by rw [e2]; exact j1)) ?_
                 rw [hb, show (σ 1 1 - l).toNat = (σ 1 1 - (l + 1)).toNat + 1 by omega, bar_y t0 t1 hAt hAz, hpe, hA1])
              | (rcases h85 with ⟨q1, q2⟩ | ⟨q1, q2, q3⟩
                 · omega
                 · rw [q3]
                   refine ih (l + 1) n d A τ (by omega) (by omega) ho ⟨_, _, _, _, _, _, hI⟩ (by omega) (hC.mono (by omega)) ?_
                   have hbz := rk_bd hw hI
                   rw [hb, show (σ 1 1 - l).toNat = (σ 1 1 - (l + 1)).toNat + 1 by omega, bar_no (by omega) (fun i a b => (hC.zero a b (Int.le_refl l) (by omega) (hbz.2 i l a b (by omega) (by omega))).mp (q2 i a (by rw [e1]; exact b)))])
          · have hbz := rk_bd hw hI
            have h85b : ∃ t : Int, n ≤ t ∧ t < σ 1 0 ∧ mC τ t l ≠ 0 ∧ (∀ i : Int, n ≤ i → i < t → mC τ i l = 0) ∧ Only shR τ t85 ∧ ∀ s j : Int, 0 ≤ s → 0 ≤ j → j < τ 1 1 → mC t85 s j = mC τ (swi n t s) j := by
              rcases h85 with ⟨q1, q2⟩ | ⟨q1, q2⟩
              · rw [e1] at q2 ⊢; exact q2
              · omega
            obtain ⟨t, t0, t1, t2, t3, t4, t5⟩ := h85b
            obtain ⟨A1, hA1⟩ : ∃ B : Int → Int → Int, B = fun s => A (swi n t s) := ⟨_, rfl⟩
            have hA2 : ∀ s j : Int, A1 s j = A (swi n t s) j := fun s j => by rw [hA1]
            have hI1 := rk_sw hI ⟨t0, t1⟩
            rw [← hA1] at hI1
            have hpe : A1 n l = A t l := by rw [hA2, swi_n]
            have hAt : A t l ≠ 0 := fun q => t2 ((hC.zero t0 t1 (Int.le_refl l) (by omega) (hbz.2 t l t0 t1 (by omega) (by omega))).mpr q)
            have hAz : ∀ i : Int, n ≤ i → i < t → A i l = 0 := fun i a b => (hC.zero a (by omega) (Int.le_refl l) (by omega) (hbz.2 i l a (by omega) (by omega) (by omega))).mp (t3 i a b)
            obtain ⟨hex, K2, g2, h2, x2, f2, f2', hI2⟩ := rk_pv (l := l) hw hI1 (by omega) ⟨by omega, by omega⟩ (by rw [hpe]; exact hAt)
            have hC1 := hC.sw ⟨t0, t1⟩
            rw [← hA1] at hC1
            have hC2 : CB (σ 1 0) (σ 1 1) n l A1 (mC t85) := hC1.c fun s j s0 s1 j0 j1 => t5 s j (by omega) (by omega) (by rw [e1]; exact j1)
            have hC3 := hC2.pv (by omega) (by omega) hI.2.1 hbz.1 (fun s j s0 s1 j0 j1 => hex s j s0 s1 (by omega) j1)
            have e2 : t85 1 = σ 1 := (t4 1 (by decide)).trans e1
            refine aw_aload_n G dX6_rankOfTable_91 rfl ?_
            refine aw_iload_n G dX6_rankOfTable_92 rfl ?_
            refine aw_iload_n G dX6_rankOfTable_93 rfl ?_
            refine cv_X6_37 G dX6_rankOfTable_94 (c_X6_clearBelow (by rw [e2]; omega) (by rw [e2]; omega) (by rw [e2]; omega) (by rw [e2]; omega) (by rw [e2]; exact fun s j s0 s1 j0 j1 => hC2.R s0 s1 j0 j1)) (kk := fun t94 h94 => ?_)
            refine aw_iinc_1 G dX6_rankOfTable_97 rfl (hc := by first | rfl | assumption) (k := ?_)
            refine aw_iinc_2 G dX6_rankOfTable_100 rfl (hc := by first | rfl | assumption) (k := ?_)
            refine aw_goto (tgt := 60) G dX6_rankOfTable_103 (by decide) ?_
            first
              | (obtain ⟨o94, q94⟩ := h94
                 refine ih (l + 1) (n + 1) (A1 n l) (pvA n l d A1) t94 (by omega) (by omega) ((ho.tr t4).tr o94) ⟨_, _, _, _, _, _, hI2⟩ (by omega) (hC3.c fun s j s0 s1 j0 j1 => q94 s j (by omega) (by rw [e2]; exact s1) (by omega) (by rw [e2]; exact j1)) ?_
                 rw [hb, show (σ 1 1 - l).toNat = (σ 1 1 - (l + 1)).toNat + 1 by omega, bar_y t0 t1 hAt hAz, hpe, hA1])
              | (rcases h85 with ⟨q1, q2⟩ | ⟨q1, q2, q3⟩
                 · omega
                 · rw [q3]
                   refine ih (l + 1) n d A τ (by omega) (by omega) ho ⟨_, _, _, _, _, _, hI⟩ (by omega) (hC.mono (by omega)) ?_
                   have hbz := rk_bd hw hI
                   rw [hb, show (σ 1 1 - l).toNat = (σ 1 1 - (l + 1)).toNat + 1 by omega, bar_no (by omega) (fun i a b => (hC.zero a b (Int.le_refl l) (by omega) (hbz.2 i l a b (by omega) (by omega))).mp (q2 i a (by rw [e1]; exact b)))])
  have lay : ∀ (n0 : Nat) (p : Int) (τ : St) (u2 : Option Value), (0 ≤ p ∧ p ≤ σ 1 0) → (σ 1 0 < p + (n0 : Int)) → (Only shR σ τ) → (∀ s j : Int, 0 ≤ s → s < p → 0 ≤ j → j < σ 1 1 → mC τ s j = nwt σ 1 s j) → AW X V (τ) 2 [] [some (rv V 53), some (iv p), u2] := by
    intro n0
    induction n0 with
    | zero =>
      intro p τ u2 h0x h1 ho hq
      exfalso
      omega
    | succ n0 ih =>
      intro p τ u2 h0x h1 ho hq
      have e1 : τ 1 = σ 1 := ho 1 (by decide)
      refine aw_iload_n G dX6_rankOfTable_2 rfl ?_
      refine aw_aload_n G dX6_rankOfTable_3 rfl ?_
      refine gf_X6_16 G dX6_rankOfTable_4 (kk := ?_)
      refine gf_X6_20 G dX6_rankOfTable_7 (kk := ?_)
      rw [e1]
      refine aw_icmp_ge (tgt := 56) G dX6_rankOfTable_10 (by decide) (by first | omega | exact b01_R _ | exact bP_R _) (by first | omega | exact b01_R _ | exact bP_R _) (fun c10 => ?_) (fun c10 => ?_)
      · refine aw_iconst G dX6_rankOfTable_56 ?_
        refine aw_istore_1 G dX6_rankOfTable_57 (hc := by first | rfl | assumption) (k := ?_)
        refine aw_iconst G dX6_rankOfTable_58 ?_
        refine aw_istore_2 G dX6_rankOfTable_59 (hc := by first | rfl | assumption) (k := ?_)
        exact main ((σ 1 1).toNat + 1) 0 0 1 A0 τ (by omega) (by omega) ho ⟨_, _, _, _, _, _, hI0⟩ (by omega) ⟨1, by decide, fun s j s0 s1 j0 j1 => by
          have h1 := hq s j s0 (by omega) j0 j1
          have h2 := (rk_bd hw hI0).2 s j s0 s1 j0 j1
          rw [h1, hA s j s0 s1 j0 j1, Int.one_mul, Int.sub_self]
          exact ⟨Int.dvd_zero _, by omega⟩⟩ (by rw [show σ 1 1 - 0 = σ 1 1 by omega])
      · obtain ⟨a1, a2, a3⟩ := in55 (s := p) (by omega)
        refine aw_iconst G dX6_rankOfTable_13 ?_
        refine aw_istore_2 G dX6_rankOfTable_14 (hc := by first | rfl | assumption) (k := ?_)
        have lay2 : ∀ (n1 : Nat) (i : Int) (τ : St), (0 ≤ i ∧ i ≤ σ 1 1) → (σ 1 1 < i + (n1 : Int)) → (Only shR σ τ) → (∀ s j : Int, 0 ≤ s → 0 ≤ j → j < σ 1 1 → s < p ∨ (s = p ∧ j < i) → mC τ s j = nwt σ 1 s j) → AW X V (τ) 15 [] [some (rv V 53), some (iv p), some (iv i)] := by
          intro n1
          induction n1 with
          | zero =>
            intro i τ g0x g1 go gq
            exfalso
            omega
          | succ n1 ih1 =>
            intro i τ g0x g1 go gq
            have e1 : τ 1 = σ 1 := go 1 (by decide)
            refine aw_iload_n G dX6_rankOfTable_15 rfl ?_
            refine aw_aload_n G dX6_rankOfTable_16 rfl ?_
            refine gf_X6_16 G dX6_rankOfTable_17 (kk := ?_)
            refine gf_X6_26 G dX6_rankOfTable_20 (kk := ?_)
            rw [e1]
            refine aw_icmp_ge (tgt := 50) G dX6_rankOfTable_23 (by decide) (by first | omega | exact b01_R _ | exact bP_R _) (by first | omega | exact b01_R _ | exact bP_R _) (fun c23 => ?_) (fun c23 => ?_)
            · refine aw_iinc_1 G dX6_rankOfTable_50 rfl (hc := by first | rfl | assumption) (k := ?_)
              refine aw_goto (tgt := 2) G dX6_rankOfTable_53 (by decide) ?_
              exact ih (p + 1) τ _ (by omega) (by omega) go (fun s j s0 s1 j0 j1 => gq s j s0 j0 j1 (by omega))
            · refine aw_aload_n G dX6_rankOfTable_26 rfl ?_
              refine gf_X6_11 G dX6_rankOfTable_27 (kk := ?_)
              refine aw_iload_n G dX6_rankOfTable_30 rfl ?_
              refine aw_aaload (ty := .long) G dX6_rankOfTable_31 (by first | decide | assumption) rfl (by decide) rfl (by omega) ?_
              refine aw_iload_n G dX6_rankOfTable_32 rfl ?_
              refine aw_aload_n G dX6_rankOfTable_33 rfl ?_
              refine gf_X6_16 G dX6_rankOfTable_34 (kk := ?_)
              refine aw_iload_n G dX6_rankOfTable_37 rfl ?_
              refine aw_iload_n G dX6_rankOfTable_38 rfl ?_
              refine cv_X6_29 G dX6_rankOfTable_39 (c_X3_weight (by omega) (by omega) (ok1 go (by decide) hN).2.2.2.2.1) (kk := fun r39 t39 h39 => ?_)
              obtain ⟨rfl, ee39⟩ := h39
              obtain rfl := ee39.symm
              refine aw_i2l G dX6_rankOfTable_42 (by have hz := nw1 (τ := τ) (σ := σ) go (by decide); rw [hz]; have hy := nwt_R (σ := σ) (b := 1) (p := p) (l := i) (by have := n5 i (by omega) (by omega); omega); omega) ?_
              refine aw_lastore G dX6_rankOfTable_43 (by first | decide | assumption | omega) (by first | rfl | assumption) (by first | decide | assumption) (by omega) ?_
              refine aw_iinc_2 G dX6_rankOfTable_44 rfl (hc := by first | rfl | assumption) (k := ?_)
              refine aw_goto (tgt := 15) G dX6_rankOfTable_47 (by decide) ?_
              rw [nw1 go (by decide)]
              refine ih1 (i + 1) _ (by omega) (by omega) (go.up a1) (fun s j s0 j0 j1 q => ?_)
              by_cases e : s = p ∧ j = i
              · rw [e.1, e.2, mC_at]
              · rw [mC_o (by omega) s0 e]
                exact gq s j s0 j0 j1 (by omega)
        exact lay2 ((σ 1 1).toNat + 1) 0 τ (by omega) (by omega) ho (fun s j s0 j0 j1 q => hq s j s0 (by omega) j0 j1)
  refine aw_iconst G dX6_rankOfTable_0 ?_
  refine aw_istore_1 G dX6_rankOfTable_1 (hc := by first | rfl | assumption) (k := ?_)
  exact lay ((σ 1 0).toNat + 1) 0 σ _ (by omega) (by omega) (fun _ _ => rfl) (fun s j s0 s1 j0 j1 => by omega)
set_option maxHeartbeats 4000000 in
theorem c_X9_rank {V : Wd} {σ : St} {α : St} {a : Int} (h1 : inR a) (hk : OK α) (hX : RX α σ) : Ct V yX9_rank cX9_rank 3 (some .int) 4 88 [rv V 0, iv a] σ (PI (fun r τ => r = an_rank α a ∧ RX (nx_rank α a) τ ∧ MS σ τ)) := by
  refine ct_of (by decide) (Nat.le_of_ble_eq_true rfl) (fun X G T => ?_)
  have G : Gd X V cX9_rank RX9 3 4 88 := G
  show AW X V σ 0 [] [some (rv V 0), some (iv a), none]
  have hN : NetOK σ 1 := hX.1.ok hk.1
  obtain ⟨⟨e0, e1, er⟩, ⟨x1, x2⟩, xp, xl, xr, xi⟩ := id hX
  obtain ⟨⟨n1, n2, n3, n4, n5, n6⟩, u1, l1, l2, i1, s1, w1⟩ := id hk
  obtain ⟨p1, p2, p3, p4, p5, p6⟩ := id hN
  have hne : NetEq σ 1 α 75 := ⟨e0, e1, er⟩
  obtain ⟨hw, hI0⟩ := rk0 hk.1
  refine aw_iload_n G dX9_rank_0 rfl ?_
  refine aw_if_eq (tgt := 16) G dX9_rank_1 (by decide) (by first | omega | exact b01_R _ | exact bP_R _) (fun c1 => ?_) (fun c1 => ?_)
  · try simp only [b01_0, b01_n, bP_0, bP_n, Classical.not_not] at c1
    refine aw_aload_n G dX9_rank_16 rfl ?_
    refine gf_X9_42 G dX9_rank_17 (kk := ?_)
    have hWA : ∀ s j : Int, 0 ≤ j → j < 8 → nwt σ 1 s j = nwt α 75 s j := fun s j j0 j1 => by
      have hz := er j j0 j1
      exact nwt_c hz.1 hz.2.1 hz.2.2.1 hz.2.2.2.1
    refine cv_X9_215 G dX9_rank_20 (c_X6_rankOfTable (A0 := nwt α 75) hN (fun s j s0 s1 j0 j1 => hWA s j j0 (by omega)) (by rw [e1]; exact hw) (by rw [e0, e1]; exact hI0)) (kk := fun r20 t20 h20 => ?_)
    obtain ⟨rfl, ho20, hr20⟩ := h20
    refine aw_istore_2 G dX9_rank_23 (hc := by first | rfl | assumption) (k := ?_)
    refine aw_iload_n G dX9_rank_24 rfl ?_
    refine aw_if_ne (tgt := 32) G dX9_rank_25 (by decide) (by first | omega | exact b01_R _ | exact bP_R _) (fun c25 => ?_) (fun c25 => ?_)
    · try simp only [b01_0, b01_n, bP_0, bP_n, Classical.not_not] at c25
      refine aw_aload_n G dX9_rank_32 rfl ?_
      refine gf_X9_10 G dX9_rank_33 (kk := ?_)
      refine gf_X9_109 G dX9_rank_36 (kk := ?_)
      refine aw_iload_n G dX9_rank_39 rfl ?_
      refine aw_isub G dX9_rank_40 ?_
      exact aw_iret G T dX9_rank_41 (by
    have hE : bar (σ 1 0) (σ 1 1).toNat 0 0 1 (nwt α 75) = rkN α := by unfold rkN; rw [e0, e1]
    first
      | (exfalso; omega)
      | exact ⟨by unfold an_rank; rw [if_neg (by omega), if_pos (by omega), hE], by unfold nx_rank; rw [if_neg (by omega)]; exact RX_sh ho20 hX, MS_sh ho20⟩
      | exact ⟨by unfold an_rank; rw [if_neg (by omega), if_neg (by omega), hE, ho20 1 (by decide), e1], by unfold nx_rank; rw [if_neg (by omega)]; exact RX_sh ho20 hX, MS_sh ho20⟩)
    · try simp only [b01_0, b01_n, bP_0, bP_n, Classical.not_not] at c25
      refine aw_iload_n G dX9_rank_28 rfl ?_
      refine aw_goto (tgt := 41) G dX9_rank_29 (by decide) ?_
      exact aw_iret G T dX9_rank_41 (by
    have hE : bar (σ 1 0) (σ 1 1).toNat 0 0 1 (nwt α 75) = rkN α := by unfold rkN; rw [e0, e1]
    first
      | (exfalso; omega)
      | exact ⟨by unfold an_rank; rw [if_neg (by omega), if_pos (by omega), hE], by unfold nx_rank; rw [if_neg (by omega)]; exact RX_sh ho20 hX, MS_sh ho20⟩
      | exact ⟨by unfold an_rank; rw [if_neg (by omega), if_neg (by omega), hE, ho20 1 (by decide), e1], by unfold nx_rank; rw [if_neg (by omega)]; exact RX_sh ho20 hX, MS_sh ho20⟩)
  · try simp only [b01_0, b01_n, bP_0, bP_n, Classical.not_not] at c1
    refine aw_iload_n G dX9_rank_4 rfl ?_
    refine aw_iconst G dX9_rank_5 ?_
    refine aw_icmp_eq (tgt := 16) G dX9_rank_6 (by decide) (by first | omega | exact b01_R _ | exact bP_R _) (by first | omega | exact b01_R _ | exact bP_R _) (fun c6 => ?_) (fun c6 => ?_)
    · refine aw_aload_n G dX9_rank_16 rfl ?_
      refine gf_X9_42 G dX9_rank_17 (kk := ?_)
      have hWA : ∀ s j : Int, 0 ≤ j → j < 8 → nwt σ 1 s j = nwt α 75 s j := fun s j j0 j1 => by
        have hz := er j j0 j1
        exact nwt_c hz.1 hz.2.1 hz.2.2.1 hz.2.2.2.1
      refine cv_X9_215 G dX9_rank_20 (c_X6_rankOfTable (A0 := nwt α 75) hN (fun s j s0 s1 j0 j1 => hWA s j j0 (by omega)) (by rw [e1]; exact hw) (by rw [e0, e1]; exact hI0)) (kk := fun r20 t20 h20 => ?_)
      obtain ⟨rfl, ho20, hr20⟩ := h20
      refine aw_istore_2 G dX9_rank_23 (hc := by first | rfl | assumption) (k := ?_)
      refine aw_iload_n G dX9_rank_24 rfl ?_
      refine aw_if_ne (tgt := 32) G dX9_rank_25 (by decide) (by first | omega | exact b01_R _ | exact bP_R _) (fun c25 => ?_) (fun c25 => ?_)
      · try simp only [b01_0, b01_n, bP_0, bP_n, Classical.not_not] at c25
        refine aw_aload_n G dX9_rank_32 rfl ?_
        refine gf_X9_10 G dX9_rank_33 (kk := ?_)
        refine gf_X9_109 G dX9_rank_36 (kk := ?_)
        refine aw_iload_n G dX9_rank_39 rfl ?_
        refine aw_isub G dX9_rank_40 ?_
        exact aw_iret G T dX9_rank_41 (by
    have hE : bar (σ 1 0) (σ 1 1).toNat 0 0 1 (nwt α 75) = rkN α := by unfold rkN; rw [e0, e1]
    first
      | (exfalso; omega)
      | exact ⟨by unfold an_rank; rw [if_neg (by omega), if_pos (by omega), hE], by unfold nx_rank; rw [if_neg (by omega)]; exact RX_sh ho20 hX, MS_sh ho20⟩
      | exact ⟨by unfold an_rank; rw [if_neg (by omega), if_neg (by omega), hE, ho20 1 (by decide), e1], by unfold nx_rank; rw [if_neg (by omega)]; exact RX_sh ho20 hX, MS_sh ho20⟩)
      · try simp only [b01_0, b01_n, bP_0, bP_n, Classical.not_not] at c25
        refine aw_iload_n G dX9_rank_28 rfl ?_
        refine aw_goto (tgt := 41) G dX9_rank_29 (by decide) ?_
        exact aw_iret G T dX9_rank_41 (by
    have hE : bar (σ 1 0) (σ 1 1).toNat 0 0 1 (nwt α 75) = rkN α := by unfold rkN; rw [e0, e1]
    first
      | (exfalso; omega)
      | exact ⟨by unfold an_rank; rw [if_neg (by omega), if_pos (by omega), hE], by unfold nx_rank; rw [if_neg (by omega)]; exact RX_sh ho20 hX, MS_sh ho20⟩
      | exact ⟨by unfold an_rank; rw [if_neg (by omega), if_neg (by omega), hE, ho20 1 (by decide), e1], by unfold nx_rank; rw [if_neg (by omega)]; exact RX_sh ho20 hX, MS_sh ho20⟩)
    · refine aw_aload_n G dX9_rank_9 rfl ?_
      refine aw_bipush G dX9_rank_10 (k := ?_)
      refine cv_X9_77 G dX9_rank_12 (c_X9_refused (by decide)) (kk := fun r12 t12 h12 => ?_)
      obtain ⟨rfl, ee12⟩ := h12
      obtain rfl := ee12.symm
      exact aw_iret G T dX9_rank_15 (⟨by unfold an_rank; (repeat' split) <;> first | rfl | (exfalso; omega) | omega, by unfold nx_rank; (repeat' split) <;> first | exact hX | exact RX_ref hX (by decide) | (exfalso; omega), by first | exact MS.rf _ | exact (MS.rf _).up (by decide)⟩)
