theorem mis_s (f : Int → Int) (m : Int) (n : Nat) (i d : Int) : mis f m (n + 1) i d = if d = -1 then (if dgs (f i) < 0 then i else mis f m n (i + 1) (dgs (f i))) else if 0 < d then (if f i < 48 ∨ 57 < f i then i else mis f m n (i + 1) (d - 1)) else (if f i = 59 then mis f m n (i + 1) (-1) else i) := rfl
set_option maxHeartbeats 4000000 in
theorem c_X1_digitsBehind {V : Wd} {σ : St} {c : Int} (hc : inR c) : Ct V yX1_digitsBehind cX1_digitsBehind 1 (some .int) 0 0 [iv c] σ (PI (fun r τ => r = dgs c ∧ τ = σ)) := by
  refine ct_of (by decide) (Nat.le_of_ble_eq_true rfl) (fun X G T => ?_)
  have G : Gd X V cX1_digitsBehind RX1 1 0 0 := G
  show AW X V σ 0 [] [some (iv c)]
  refine aw_iload_n G dX1_digitsBehind_0 rfl ?_
  by_cases s1_0 : c = 102
  · refine aw_lsw (off := 45) (tgt := 46) G dX1_digitsBehind_1 (by first | omega | exact b01_R _ | exact bP_R _) (by decide) (by rw [s1_0]; rfl) (by decide) ?_
    refine aw_iconst G dX1_digitsBehind_46 ?_
    exact aw_iret G T dX1_digitsBehind_47 (⟨by unfold dgs; simp_all, rfl⟩)
  by_cases s1_1 : c = 108
  · refine aw_lsw (off := 47) (tgt := 48) G dX1_digitsBehind_1 (by first | omega | exact b01_R _ | exact bP_R _) (by decide) (by rw [s1_1]; rfl) (by decide) ?_
    refine aw_iconst G dX1_digitsBehind_48 ?_
    exact aw_iret G T dX1_digitsBehind_49 (⟨by unfold dgs; simp_all, rfl⟩)
  by_cases s1_2 : c = 110
  · refine aw_lsw (off := 43) (tgt := 44) G dX1_digitsBehind_1 (by first | omega | exact b01_R _ | exact bP_R _) (by decide) (by rw [s1_2]; rfl) (by decide) ?_
    refine aw_iconst G dX1_digitsBehind_44 ?_
    exact aw_iret G T dX1_digitsBehind_45 (⟨by unfold dgs; simp_all, rfl⟩)
  by_cases s1_3 : c = 118
  · refine aw_lsw (off := 47) (tgt := 48) G dX1_digitsBehind_1 (by first | omega | exact b01_R _ | exact bP_R _) (by decide) (by rw [s1_3]; rfl) (by decide) ?_
    refine aw_iconst G dX1_digitsBehind_48 ?_
    exact aw_iret G T dX1_digitsBehind_49 (⟨by unfold dgs; simp_all, rfl⟩)
  refine aw_lsw (off := 49) (tgt := 50) G dX1_digitsBehind_1 (by first | omega | exact b01_R _ | exact bP_R _) (by decide) (by simp [Op.lookupswitch.offset, Ne.symm s1_0, s1_0, Ne.symm s1_1, s1_1, Ne.symm s1_2, s1_2, Ne.symm s1_3, s1_3]) (by decide) ?_
  refine aw_iconst G dX1_digitsBehind_50 ?_
  exact aw_iret G T dX1_digitsBehind_51 (⟨by unfold dgs; simp_all, rfl⟩)

set_option maxHeartbeats 4000000 in
theorem c_X1_misspelt {V : Wd} {σ : St}  (hm : 0 ≤ σ 62 2 ∧ σ 62 2 ≤ 72) (hf : ∀ i, 0 ≤ i → i < σ 62 2 → 0 ≤ σ 63 i ∧ σ 63 i ≤ 255) : Ct V yX1_misspelt cX1_misspelt 4 (some .int) 1 20 [rv V 62] σ (PI (fun r τ => r = mis (σ 63) (σ 62 2) (σ 62 2).toNat 0 (-1) ∧ τ = σ)) := by
  refine ct_of (by decide) (Nat.le_of_ble_eq_true rfl) (fun X G T => ?_)
  have G : Gd X V cX1_misspelt RX1 4 1 20 := G
  show AW X V σ 0 [] [some (rv V 62), none, none, none]
  have loop : ∀ (n0 : Nat) (i : Int) (d : Int) (u : Option Value), (0 ≤ i ∧ i ≤ σ 62 2) → (σ 62 2 < i + (n0 : Int)) → (-1 ≤ d ∧ d ≤ 3) → (mis (σ 63) (σ 62 2) (σ 62 2 - i).toNat i d = mis (σ 63) (σ 62 2) (σ 62 2).toNat 0 (-1)) → AW X V (σ) 4 [] [some (rv V 62), some (iv d), some (iv i), u] := by
    intro n0
    induction n0 with
    | zero =>
      intro i d u h0 h1 hd hq
      exfalso
      omega
    | succ n0 ih =>
      intro i d u h0 h1 hd hq
      refine aw_iload_n G dX1_misspelt_4 rfl ?_
      refine aw_aload_n G dX1_misspelt_5 rfl ?_
      refine gf_X1_22 G dX1_misspelt_6 (kk := ?_)
      refine aw_icmp_ge (tgt := 75) G dX1_misspelt_9 (by decide) (by first | omega | exact b01_R _ | exact bP_R _) (by first | omega | exact b01_R _ | exact bP_R _) (fun c9 => ?_) (fun c9 => ?_)
      · refine aw_aload_n G dX1_misspelt_75 rfl ?_
        refine gf_X1_22 G dX1_misspelt_76 (kk := ?_)
        refine aw_if_le (tgt := 91) G dX1_misspelt_79 (by decide) (by first | omega | exact b01_R _ | exact bP_R _) (fun c79 => ?_) (fun c79 => ?_)
        · refine aw_aload_n G dX1_misspelt_91 rfl ?_
          refine gf_X1_22 G dX1_misspelt_92 (kk := ?_)
          exact aw_iret G T dX1_misspelt_95 (⟨by rw [← hq, show (σ 62 2 - i).toNat = 0 by omega]; unfold mis; first | rw [if_pos (by omega)] | rw [if_neg (by omega)], rfl⟩)
        · refine aw_iload_n G dX1_misspelt_82 rfl ?_
          refine aw_iconst G dX1_misspelt_83 ?_
          refine aw_icmp_ne (tgt := 91) G dX1_misspelt_84 (by decide) (by first | omega | exact b01_R _ | exact bP_R _) (by first | omega | exact b01_R _ | exact bP_R _) (fun c84 => ?_) (fun c84 => ?_)
          · refine aw_aload_n G dX1_misspelt_91 rfl ?_
            refine gf_X1_22 G dX1_misspelt_92 (kk := ?_)
            exact aw_iret G T dX1_misspelt_95 (⟨by rw [← hq, show (σ 62 2 - i).toNat = 0 by omega]; unfold mis; first | rw [if_pos (by omega)] | rw [if_neg (by omega)], rfl⟩)
          · refine aw_iconst G dX1_misspelt_87 ?_
            refine aw_goto (tgt := 95) G dX1_misspelt_88 (by decide) ?_
            exact aw_iret G T dX1_misspelt_95 (⟨by rw [← hq, show (σ 62 2 - i).toNat = 0 by omega]; unfold mis; first | rw [if_pos (by omega)] | rw [if_neg (by omega)], rfl⟩)
      · have hfi := hf i (by omega) (by omega)
        have hdr := dgs_R (σ 63 i)
        refine aw_aload_n G dX1_misspelt_12 rfl ?_
        refine gf_X1_9 G dX1_misspelt_13 (kk := ?_)
        refine aw_iload_n G dX1_misspelt_16 rfl ?_
        refine aw_iaload G dX1_misspelt_17 (by first | decide | assumption | omega) (by first | rfl | assumption) (by first | decide | assumption) (by omega) ?_
        refine aw_istore_3 G dX1_misspelt_18 (hc := by first | rfl | assumption) (k := ?_)
        refine aw_iload_n G dX1_misspelt_19 rfl ?_
        refine aw_iconst G dX1_misspelt_20 ?_
        refine aw_icmp_ne (tgt := 35) G dX1_misspelt_21 (by decide) (by first | omega | exact b01_R _ | exact bP_R _) (by first | omega | exact b01_R _ | exact bP_R _) (fun c21 => ?_) (fun c21 => ?_)
        · refine aw_iload_n G dX1_misspelt_35 rfl ?_
          refine aw_if_le (tgt := 59) G dX1_misspelt_36 (by decide) (by first | omega | exact b01_R _ | exact bP_R _) (fun c36 => ?_) (fun c36 => ?_)
          · refine aw_iload_n G dX1_misspelt_59 rfl ?_
            refine aw_bipush G dX1_misspelt_60 (k := ?_)
            refine aw_icmp_eq (tgt := 67) G dX1_misspelt_62 (by decide) (by first | omega | exact b01_R _ | exact bP_R _) (by first | omega | exact b01_R _ | exact bP_R _) (fun c62 => ?_) (fun c62 => ?_)
            · refine aw_iconst G dX1_misspelt_67 ?_
              refine aw_istore_1 G dX1_misspelt_68 (hc := by first | rfl | assumption) (k := ?_)
              refine aw_iinc_2 G dX1_misspelt_69 rfl (hc := by first | rfl | assumption) (k := ?_)
              refine aw_goto (tgt := 4) G dX1_misspelt_72 (by decide) ?_
              rw [show (σ 62 2 - i).toNat = (σ 62 2 - (i + 1)).toNat + 1 by omega] at hq
              rw [mis_s] at hq
              first | rw [if_pos c21, if_neg (by omega)] at hq | rw [if_neg c21, if_pos (by omega), if_neg (by omega)] at hq | rw [if_neg c21, if_neg (by omega), if_pos c62] at hq
              exact ih (i + 1) _ _ (by omega) (by omega) (by omega) (by first | exact hq | (rw [show d - 1 = d + -1 by omega] at hq; exact hq))
            · refine aw_iload_n G dX1_misspelt_65 rfl ?_
              exact aw_iret G T dX1_misspelt_66 (⟨by rw [← hq, show (σ 62 2 - i).toNat = (σ 62 2 - (i + 1)).toNat + 1 by omega]; unfold mis; rw [if_neg c21, if_neg (by omega), if_neg c62], rfl⟩)
          · refine aw_iload_n G dX1_misspelt_39 rfl ?_
            refine aw_bipush G dX1_misspelt_40 (k := ?_)
            refine aw_icmp_lt (tgt := 51) G dX1_misspelt_42 (by decide) (by first | omega | exact b01_R _ | exact bP_R _) (by first | omega | exact b01_R _ | exact bP_R _) (fun c42 => ?_) (fun c42 => ?_)
            · refine aw_iload_n G dX1_misspelt_51 rfl ?_
              exact aw_iret G T dX1_misspelt_52 (⟨by rw [← hq, show (σ 62 2 - i).toNat = (σ 62 2 - (i + 1)).toNat + 1 by omega]; unfold mis; rw [if_neg c21, if_pos (by omega), if_pos (by omega)], rfl⟩)
            · refine aw_iload_n G dX1_misspelt_45 rfl ?_
              refine aw_bipush G dX1_misspelt_46 (k := ?_)
              refine aw_icmp_le (tgt := 53) G dX1_misspelt_48 (by decide) (by first | omega | exact b01_R _ | exact bP_R _) (by first | omega | exact b01_R _ | exact bP_R _) (fun c48 => ?_) (fun c48 => ?_)
              · refine aw_iinc_1 G dX1_misspelt_53 rfl (hc := by first | rfl | assumption) (k := ?_)
                refine aw_goto (tgt := 69) G dX1_misspelt_56 (by decide) ?_
                refine aw_iinc_2 G dX1_misspelt_69 rfl (hc := by first | rfl | assumption) (k := ?_)
                refine aw_goto (tgt := 4) G dX1_misspelt_72 (by decide) ?_
                rw [show (σ 62 2 - i).toNat = (σ 62 2 - (i + 1)).toNat + 1 by omega] at hq
                rw [mis_s] at hq
                first | rw [if_pos c21, if_neg (by omega)] at hq | rw [if_neg c21, if_pos (by omega), if_neg (by omega)] at hq | rw [if_neg c21, if_neg (by omega), if_pos c62] at hq
                exact ih (i + 1) _ _ (by omega) (by omega) (by omega) (by first | exact hq | (rw [show d - 1 = d + -1 by omega] at hq; exact hq))
              · refine aw_iload_n G dX1_misspelt_51 rfl ?_
                exact aw_iret G T dX1_misspelt_52 (⟨by rw [← hq, show (σ 62 2 - i).toNat = (σ 62 2 - (i + 1)).toNat + 1 by omega]; unfold mis; rw [if_neg c21, if_pos (by omega), if_pos (by omega)], rfl⟩)
        · refine aw_iload_n G dX1_misspelt_24 rfl ?_
          refine cs_X1_38 G dX1_misspelt_25 (c_X1_digitsBehind (by omega)) (kk := fun r25 t25 h25 => ?_)
          obtain ⟨rfl, ee25⟩ := h25
          obtain rfl := ee25.symm
          refine aw_istore_1 G dX1_misspelt_28 (hc := by first | rfl | assumption) (k := ?_)
          refine aw_iload_n G dX1_misspelt_29 rfl ?_
          refine aw_if_ge (tgt := 69) G dX1_misspelt_30 (by decide) (by first | omega | exact b01_R _ | exact bP_R _) (fun c30 => ?_) (fun c30 => ?_)
          · refine aw_iinc_2 G dX1_misspelt_69 rfl (hc := by first | rfl | assumption) (k := ?_)
            refine aw_goto (tgt := 4) G dX1_misspelt_72 (by decide) ?_
            rw [show (σ 62 2 - i).toNat = (σ 62 2 - (i + 1)).toNat + 1 by omega] at hq
            rw [mis_s] at hq
            first | rw [if_pos c21, if_neg (by omega)] at hq | rw [if_neg c21, if_pos (by omega), if_neg (by omega)] at hq | rw [if_neg c21, if_neg (by omega), if_pos c62] at hq
            exact ih (i + 1) _ _ (by omega) (by omega) (by omega) (by first | exact hq | (rw [show d - 1 = d + -1 by omega] at hq; exact hq))
          · refine aw_iload_n G dX1_misspelt_33 rfl ?_
            exact aw_iret G T dX1_misspelt_34 (⟨by rw [← hq, show (σ 62 2 - i).toNat = (σ 62 2 - (i + 1)).toNat + 1 by omega]; unfold mis; rw [if_pos c21, if_pos (by omega)], rfl⟩)
  refine aw_iconst G dX1_misspelt_0 ?_
  refine aw_istore_1 G dX1_misspelt_1 (hc := by first | rfl | assumption) (k := ?_)
  refine aw_iconst G dX1_misspelt_2 ?_
  refine aw_istore_2 G dX1_misspelt_3 (hc := by first | rfl | assumption) (k := ?_)
  exact loop ((σ 62 2).toNat + 1) 0 (-1) _ (by omega) (by omega) (by omega) (by rw [show σ 62 2 - 0 = σ 62 2 by omega])
set_option maxHeartbeats 4000000 in
theorem c_X1_digit {V : Wd} {σ : St} {p : Int} (hp : 0 ≤ p ∧ p ≤ 200) (hm : 0 ≤ σ 62 2 ∧ σ 62 2 ≤ 72) : Ct V yX1_digit cX1_digit 2 (some .int) 0 0 [rv V 62, iv p] σ (PI (fun r τ => r = (if p < σ 62 2 then σ 63 p - 48 else 0) ∧ τ = σ)) := by
  refine ct_of (by decide) (Nat.le_of_ble_eq_true rfl) (fun X G T => ?_)
  have G : Gd X V cX1_digit RX1 2 0 0 := G
  show AW X V σ 0 [] [some (rv V 62), some (iv p)]
  refine aw_iload_n G dX1_digit_0 rfl ?_
  refine aw_aload_n G dX1_digit_1 rfl ?_
  refine gf_X1_22 G dX1_digit_2 (kk := ?_)
  refine aw_icmp_ge (tgt := 20) G dX1_digit_5 (by decide) (by first | omega | exact b01_R _ | exact bP_R _) (by first | omega | exact b01_R _ | exact bP_R _) (fun c5 => ?_) (fun c5 => ?_)
  · refine aw_iconst G dX1_digit_20 ?_
    exact aw_iret G T dX1_digit_21 (⟨by first | rw [if_pos (by omega)] | rw [if_neg (by omega)], rfl⟩)
  · refine aw_aload_n G dX1_digit_8 rfl ?_
    refine gf_X1_9 G dX1_digit_9 (kk := ?_)
    refine aw_iload_n G dX1_digit_12 rfl ?_
    refine aw_iaload G dX1_digit_13 (by first | decide | assumption | omega) (by first | rfl | assumption) (by first | decide | assumption) (by omega) ?_
    refine aw_bipush G dX1_digit_14 (k := ?_)
    refine aw_isub G dX1_digit_16 ?_
    refine aw_goto (tgt := 21) G dX1_digit_17 (by decide) ?_
    exact aw_iret G T dX1_digit_21 (⟨by first | rw [if_pos (by omega)] | rw [if_neg (by omega)], rfl⟩)

set_option maxHeartbeats 4000000 in
theorem c_X1_comesPoints {V : Wd} {σ : St} {n : Int} (hn : inR n) : Ct V yX1_comesPoints cX1_comesPoints 2 (some .boolean) 1 21 [rv V 62, iv n] σ (PI (fun r τ => (r = 1 ∧ (1 ≤ n ∧ n ≤ 7) ∧ τ = up (up σ 13 0 n) 13 1 0) ∨ (r = 0 ∧ ¬ (1 ≤ n ∧ n ≤ 7) ∧ τ = σ))) := by
  refine ct_of (by decide) (Nat.le_of_ble_eq_true rfl) (fun X G T => ?_)
  have G : Gd X V cX1_comesPoints RX1 2 1 21 := G
  show AW X V σ 0 [] [some (rv V 62), some (iv n)]
  refine aw_iload_n G dX1_comesPoints_0 rfl ?_
  refine aw_iconst G dX1_comesPoints_1 ?_
  refine aw_icmp_lt (tgt := 11) G dX1_comesPoints_2 (by decide) (by first | omega | exact b01_R _ | exact bP_R _) (by first | omega | exact b01_R _ | exact bP_R _) (fun c2 => ?_) (fun c2 => ?_)
  · refine aw_iconst G dX1_comesPoints_11 ?_
    exact aw_zret G T dX1_comesPoints_12 (by first | exact Or.inl rfl | exact Or.inr rfl | assumption) (by first | exact Or.inl ⟨rfl, by omega, rfl⟩ | exact Or.inr ⟨rfl, by omega, rfl⟩)
  · refine aw_iload_n G dX1_comesPoints_5 rfl ?_
    refine aw_bipush G dX1_comesPoints_6 (k := ?_)
    refine aw_icmp_le (tgt := 13) G dX1_comesPoints_8 (by decide) (by first | omega | exact b01_R _ | exact bP_R _) (by first | omega | exact b01_R _ | exact bP_R _) (fun c8 => ?_) (fun c8 => ?_)
    · refine aw_aload_n G dX1_comesPoints_13 rfl ?_
      refine gf_X1_18 G dX1_comesPoints_14 (kk := ?_)
      refine aw_iload_n G dX1_comesPoints_17 rfl ?_
      refine cv_X1_65 G dX1_comesPoints_18 (c_X3_restart (by first | exact isNet_1 | exact isNet_13)) (kk := fun t18 h18 => ?_)
      obtain rfl := h18.symm
      refine aw_iconst G dX1_comesPoints_21 ?_
      exact aw_zret G T dX1_comesPoints_22 (by first | exact Or.inl rfl | exact Or.inr rfl | assumption) (by first | exact Or.inl ⟨rfl, by omega, rfl⟩ | exact Or.inr ⟨rfl, by omega, rfl⟩)
    · refine aw_iconst G dX1_comesPoints_11 ?_
      exact aw_zret G T dX1_comesPoints_12 (by first | exact Or.inl rfl | exact Or.inr rfl | assumption) (by first | exact Or.inl ⟨rfl, by omega, rfl⟩ | exact Or.inr ⟨rfl, by omega, rfl⟩)

set_option maxHeartbeats 4000000 in
theorem c_X1_comesLine {V : Wd} {σ : St} {k p q : Int} (h1 : inR k) (h2 : inR p) (h3 : inR q) (hn : NetOK σ 13) : Ct V yX1_comesLine cX1_comesLine 4 (some .boolean) 1 23 [rv V 62, iv k, iv p, iv q] σ (PI (fun r τ => (r = 1 ∧ ((0 ≤ k ∧ k ≤ 5) ∧ (0 ≤ p ∧ p < σ 13 0) ∧ (0 ≤ q ∧ q < σ 13 0) ∧ σ 13 1 < 8) ∧ τ = addLine σ 13 k p q) ∨ (r = 0 ∧ ¬ ((0 ≤ k ∧ k ≤ 5) ∧ (0 ≤ p ∧ p < σ 13 0) ∧ (0 ≤ q ∧ q < σ 13 0) ∧ σ 13 1 < 8) ∧ τ = σ))) := by
  refine ct_of (by decide) (Nat.le_of_ble_eq_true rfl) (fun X G T => ?_)
  have G : Gd X V cX1_comesLine RX1 4 1 23 := G
  show AW X V σ 0 [] [some (rv V 62), some (iv k), some (iv p), some (iv q)]
  obtain ⟨n1, n2, n3, n4, -⟩ := hn
  refine aw_iload_n G dX1_comesLine_0 rfl ?_
  refine cs_X1_69 G dX1_comesLine_1 (c_X9_isKind (by first | assumption | omega)) (kk := fun r1 t1 h1 => ?_)
  obtain ⟨rfl, ee1⟩ := h1
  obtain rfl := ee1.symm
  refine aw_if_eq (tgt := 41) G dX1_comesLine_4 (by decide) (by first | omega | exact b01_R _ | exact bP_R _) (fun c4 => ?_) (fun c4 => ?_)
  · try simp only [b01_0, b01_n, bP_0, bP_n, Classical.not_not] at c4
    refine aw_iconst G dX1_comesLine_41 ?_
    exact aw_zret G T dX1_comesLine_42 (by first | exact Or.inl rfl | exact Or.inr rfl | assumption) (by first | exact Or.inl ⟨rfl, by omega, rfl⟩ | exact Or.inr ⟨rfl, by omega, rfl⟩)
  · try simp only [b01_0, b01_n, bP_0, bP_n, Classical.not_not] at c4
    refine aw_aload_n G dX1_comesLine_7 rfl ?_
    refine gf_X1_18 G dX1_comesLine_8 (kk := ?_)
    refine aw_iload_n G dX1_comesLine_11 rfl ?_
    refine cv_X1_72 G dX1_comesLine_12 (c_X3_hasPoint (by first | exact isNet_1 | exact isNet_13) (by first | assumption | omega) (by omega)) (kk := fun r12 t12 h12 => ?_)
    obtain ⟨rfl, ee12⟩ := h12
    obtain rfl := ee12.symm
    refine aw_if_eq (tgt := 41) G dX1_comesLine_15 (by decide) (by first | omega | exact b01_R _ | exact bP_R _) (fun c15 => ?_) (fun c15 => ?_)
    · try simp only [b01_0, b01_n, bP_0, bP_n, Classical.not_not] at c15
      refine aw_iconst G dX1_comesLine_41 ?_
      exact aw_zret G T dX1_comesLine_42 (by first | exact Or.inl rfl | exact Or.inr rfl | assumption) (by first | exact Or.inl ⟨rfl, by omega, rfl⟩ | exact Or.inr ⟨rfl, by omega, rfl⟩)
    · try simp only [b01_0, b01_n, bP_0, bP_n, Classical.not_not] at c15
      refine aw_aload_n G dX1_comesLine_18 rfl ?_
      refine gf_X1_18 G dX1_comesLine_19 (kk := ?_)
      refine aw_iload_n G dX1_comesLine_22 rfl ?_
      refine cv_X1_72 G dX1_comesLine_23 (c_X3_hasPoint (by first | exact isNet_1 | exact isNet_13) (by first | assumption | omega) (by omega)) (kk := fun r23 t23 h23 => ?_)
      obtain ⟨rfl, ee23⟩ := h23
      obtain rfl := ee23.symm
      refine aw_if_eq (tgt := 41) G dX1_comesLine_26 (by decide) (by first | omega | exact b01_R _ | exact bP_R _) (fun c26 => ?_) (fun c26 => ?_)
      · try simp only [b01_0, b01_n, bP_0, bP_n, Classical.not_not] at c26
        refine aw_iconst G dX1_comesLine_41 ?_
        exact aw_zret G T dX1_comesLine_42 (by first | exact Or.inl rfl | exact Or.inr rfl | assumption) (by first | exact Or.inl ⟨rfl, by omega, rfl⟩ | exact Or.inr ⟨rfl, by omega, rfl⟩)
      · try simp only [b01_0, b01_n, bP_0, bP_n, Classical.not_not] at c26
        refine aw_aload_n G dX1_comesLine_29 rfl ?_
        refine gf_X1_18 G dX1_comesLine_30 (kk := ?_)
        refine gf_X1_75 G dX1_comesLine_33 (kk := ?_)
        refine aw_bipush G dX1_comesLine_36 (k := ?_)
        refine aw_icmp_lt (tgt := 43) G dX1_comesLine_38 (by decide) (by first | omega | exact b01_R _ | exact bP_R _) (by first | omega | exact b01_R _ | exact bP_R _) (fun c38 => ?_) (fun c38 => ?_)
        · refine aw_aload_n G dX1_comesLine_43 rfl ?_
          refine gf_X1_18 G dX1_comesLine_44 (kk := ?_)
          refine aw_iload_n G dX1_comesLine_47 rfl ?_
          refine aw_iload_n G dX1_comesLine_48 rfl ?_
          refine aw_iload_n G dX1_comesLine_49 rfl ?_
          refine cv_X1_78 G dX1_comesLine_50 (c_X3_add (by first | exact isNet_1 | exact isNet_13) (by omega)) (kk := fun t50 h50 => ?_)
          obtain rfl := h50.symm
          refine aw_iconst G dX1_comesLine_53 ?_
          exact aw_zret G T dX1_comesLine_54 (by first | exact Or.inl rfl | exact Or.inr rfl | assumption) (by first | exact Or.inl ⟨rfl, by omega, rfl⟩ | exact Or.inr ⟨rfl, by omega, rfl⟩)
        · refine aw_iconst G dX1_comesLine_41 ?_
          exact aw_zret G T dX1_comesLine_42 (by first | exact Or.inl rfl | exact Or.inr rfl | assumption) (by first | exact Or.inl ⟨rfl, by omega, rfl⟩ | exact Or.inr ⟨rfl, by omega, rfl⟩)

set_option maxHeartbeats 4000000 in
theorem c_X1_comesFigure {V : Wd} {σ : St} {l f : Int} (h1 : inR l) (hn : NetOK σ 13) : Ct V yX1_comesFigure cX1_comesFigure 3 (some .boolean) 1 21 [rv V 62, iv l, iv f] σ (PI (fun r τ => (r = 1 ∧ (0 ≤ l ∧ l < σ 13 1) ∧ τ = up σ 15 l f) ∨ (r = 0 ∧ ¬ (0 ≤ l ∧ l < σ 13 1) ∧ τ = σ))) := by
  refine ct_of (by decide) (Nat.le_of_ble_eq_true rfl) (fun X G T => ?_)
  have G : Gd X V cX1_comesFigure RX1 3 1 21 := G
  show AW X V σ 0 [] [some (rv V 62), some (iv l), some (iv f)]
  obtain ⟨n1, n2, n3, n4, -⟩ := hn
  refine aw_aload_n G dX1_comesFigure_0 rfl ?_
  refine gf_X1_18 G dX1_comesFigure_1 (kk := ?_)
  refine aw_iload_n G dX1_comesFigure_4 rfl ?_
  refine cv_X1_82 G dX1_comesFigure_5 (c_X3_hasLine (by first | exact isNet_1 | exact isNet_13) (by first | assumption | omega) (by omega)) (kk := fun r5 t5 h5 => ?_)
  obtain ⟨rfl, ee5⟩ := h5
  obtain rfl := ee5.symm
  refine aw_if_ne (tgt := 13) G dX1_comesFigure_8 (by decide) (by first | omega | exact b01_R _ | exact bP_R _) (fun c8 => ?_) (fun c8 => ?_)
  · try simp only [b01_0, b01_n, bP_0, bP_n, Classical.not_not] at c8
    refine aw_aload_n G dX1_comesFigure_13 rfl ?_
    refine gf_X1_18 G dX1_comesFigure_14 (kk := ?_)
    refine gf_X1_85 G dX1_comesFigure_17 (kk := ?_)
    refine aw_iload_n G dX1_comesFigure_20 rfl ?_
    refine aw_iload_n G dX1_comesFigure_21 rfl ?_
    refine aw_iastore G dX1_comesFigure_22 (by first | decide | assumption | omega) (by first | rfl | assumption) (by first | decide | assumption) (by omega) ?_
    refine aw_iconst G dX1_comesFigure_23 ?_
    exact aw_zret G T dX1_comesFigure_24 (by first | exact Or.inl rfl | exact Or.inr rfl | assumption) (by first | exact Or.inl ⟨rfl, by omega, rfl⟩ | exact Or.inr ⟨rfl, by omega, rfl⟩)
  · try simp only [b01_0, b01_n, bP_0, bP_n, Classical.not_not] at c8
    refine aw_iconst G dX1_comesFigure_11 ?_
    exact aw_zret G T dX1_comesFigure_12 (by first | exact Or.inl rfl | exact Or.inr rfl | assumption) (by first | exact Or.inl ⟨rfl, by omega, rfl⟩ | exact Or.inr ⟨rfl, by omega, rfl⟩)

set_option maxHeartbeats 4000000 in
theorem c_X1_comesLabel {V : Wd} {σ : St} {l f : Int} (h1 : inR l) (hn : NetOK σ 13) : Ct V yX1_comesLabel cX1_comesLabel 3 (some .boolean) 1 21 [rv V 62, iv l, iv f] σ (PI (fun r τ => (r = 1 ∧ (0 ≤ l ∧ l < σ 13 1) ∧ τ = up σ 18 l f) ∨ (r = 0 ∧ ¬ (0 ≤ l ∧ l < σ 13 1) ∧ τ = σ))) := by
  refine ct_of (by decide) (Nat.le_of_ble_eq_true rfl) (fun X G T => ?_)
  have G : Gd X V cX1_comesLabel RX1 3 1 21 := G
  show AW X V σ 0 [] [some (rv V 62), some (iv l), some (iv f)]
  obtain ⟨n1, n2, n3, n4, -⟩ := hn
  refine aw_aload_n G dX1_comesLabel_0 rfl ?_
  refine gf_X1_18 G dX1_comesLabel_1 (kk := ?_)
  refine aw_iload_n G dX1_comesLabel_4 rfl ?_
  refine cv_X1_82 G dX1_comesLabel_5 (c_X3_hasLine (by first | exact isNet_1 | exact isNet_13) (by first | assumption | omega) (by omega)) (kk := fun r5 t5 h5 => ?_)
  obtain ⟨rfl, ee5⟩ := h5
  obtain rfl := ee5.symm
  refine aw_if_ne (tgt := 13) G dX1_comesLabel_8 (by decide) (by first | omega | exact b01_R _ | exact bP_R _) (fun c8 => ?_) (fun c8 => ?_)
  · try simp only [b01_0, b01_n, bP_0, bP_n, Classical.not_not] at c8
    refine aw_aload_n G dX1_comesLabel_13 rfl ?_
    refine gf_X1_18 G dX1_comesLabel_14 (kk := ?_)
    refine gf_X1_88 G dX1_comesLabel_17 (kk := ?_)
    refine aw_iload_n G dX1_comesLabel_20 rfl ?_
    refine aw_iload_n G dX1_comesLabel_21 rfl ?_
    refine aw_iastore G dX1_comesLabel_22 (by first | decide | assumption | omega) (by first | rfl | assumption) (by first | decide | assumption) (by omega) ?_
    refine aw_iconst G dX1_comesLabel_23 ?_
    exact aw_zret G T dX1_comesLabel_24 (by first | exact Or.inl rfl | exact Or.inr rfl | assumption) (by first | exact Or.inl ⟨rfl, by omega, rfl⟩ | exact Or.inr ⟨rfl, by omega, rfl⟩)
  · try simp only [b01_0, b01_n, bP_0, bP_n, Classical.not_not] at c8
    refine aw_iconst G dX1_comesLabel_11 ?_
    exact aw_zret G T dX1_comesLabel_12 (by first | exact Or.inl rfl | exact Or.inr rfl | assumption) (by first | exact Or.inl ⟨rfl, by omega, rfl⟩ | exact Or.inr ⟨rfl, by omega, rfl⟩)

set_option maxHeartbeats 4000000 in
theorem c_X1_comes {V : Wd} {σ : St} {i : Int} (hm : 0 ≤ σ 62 2 ∧ σ 62 2 ≤ 72) (hf : ∀ i, 0 ≤ i → i < σ 62 2 → 0 ≤ σ 63 i ∧ σ 63 i ≤ 255) (hn : NetOK σ 13) (hi : 0 ≤ i ∧ i + dgs (σ 63 i) + 2 ≤ σ 62 2) (hd : 1 ≤ dgs (σ 63 i)) (hg : digP (σ 63) i (dgs (σ 63 i))) : Ct V yX1_comes cX1_comes 5 (some .boolean) 2 46 [rv V 62, iv i] σ (PI (fun r τ => (r = 1 ∧ stm σ 13 (σ 63) i = some τ) ∨ (r = 0 ∧ stm σ 13 (σ 63) i = none ∧ τ = σ))) := by
  refine ct_of (by decide) (Nat.le_of_ble_eq_true rfl) (fun X G T => ?_)
  have G : Gd X V cX1_comes RX1 5 2 46 := G
  show AW X V σ 0 [] [some (rv V 62), some (iv i), none, none, none]
  have hfi := hf i (by omega) (by omega)
  have d1 := hg 1 (by omega) hd
  have dR : ∀ p : Int, 0 ≤ p → -48 ≤ (if p < σ 62 2 then σ 63 p - 48 else 0) ∧ (if p < σ 62 2 then σ 63 p - 48 else 0) ≤ 207 := fun p a => by
    by_cases z : p < σ 62 2
    · rw [if_pos z]; have := hf p a z; omega
    · rw [if_neg z]; omega
  have r2 := dR (i + 2) (by omega)
  have r3 := dR (i + 3) (by omega)
  refine aw_aload_n G dX1_comes_0 rfl ?_
  refine aw_iload_n G dX1_comes_1 rfl ?_
  refine aw_iconst G dX1_comes_2 ?_
  refine aw_iadd G dX1_comes_3 ?_
  refine cv_X1_48 G dX1_comes_4 (c_X1_digit (by omega) (by omega)) (kk := fun r4 t4 h4 => ?_)
  obtain ⟨rfl, ee4⟩ := h4
  obtain rfl := ee4.symm
  refine aw_istore_2 G dX1_comes_7 (hc := by first | rfl | assumption) (k := ?_)
  rw [if_pos (by omega)]
  refine aw_aload_n G dX1_comes_8 rfl ?_
  refine aw_iload_n G dX1_comes_9 rfl ?_
  refine aw_iconst G dX1_comes_10 ?_
  refine aw_iadd G dX1_comes_11 ?_
  refine cv_X1_48 G dX1_comes_12 (c_X1_digit (by omega) (by omega)) (kk := fun r12 t12 h12 => ?_)
  obtain ⟨rfl, ee12⟩ := h12
  obtain rfl := ee12.symm
  refine aw_istore_3 G dX1_comes_15 (hc := by first | rfl | assumption) (k := ?_)
  refine aw_aload_n G dX1_comes_16 rfl ?_
  refine aw_iload_n G dX1_comes_17 rfl ?_
  refine aw_iconst G dX1_comes_18 ?_
  refine aw_iadd G dX1_comes_19 ?_
  refine cv_X1_48 G dX1_comes_20 (c_X1_digit (by omega) (by omega)) (kk := fun r20 t20 h20 => ?_)
  obtain ⟨rfl, ee20⟩ := h20
  obtain rfl := ee20.symm
  refine aw_istore_4 G dX1_comes_23 (hc := by first | rfl | assumption) (k := ?_)
  refine aw_aload_n G dX1_comes_25 rfl ?_
  refine gf_X1_9 G dX1_comes_26 (kk := ?_)
  refine aw_iload_n G dX1_comes_29 rfl ?_
  refine aw_iaload G dX1_comes_30 (by first | decide | assumption | omega) (by first | rfl | assumption) (by first | decide | assumption) (by omega) ?_
  by_cases s31_0 : σ 63 i = 102
  · refine aw_lsw (off := 48) (tgt := 79) G dX1_comes_31 (by first | omega | exact b01_R _ | exact bP_R _) (by decide) (by rw [s31_0]; rfl) (by decide) ?_
    have hd2 : dgs (σ 63 i) = 2 := by rw [s31_0]; rfl
    have d2 := hg 2 (by omega) (by omega)
    rw [if_pos (show i + 2 < σ 62 2 by omega)]
    refine aw_aload_n G dX1_comes_79 rfl ?_
    refine aw_iload_n G dX1_comes_80 rfl ?_
    refine aw_iload_n G dX1_comes_81 rfl ?_
    refine cv_X1_58 G dX1_comes_82 (c_X1_comesFigure (by omega) hn) (kk := fun r82 t82 h82 => ?_)
    exact aw_zret G T dX1_comes_85 (by rcases h82 with q | q <;> omega) (by
          unfold stm
          rw [if_neg (by omega), if_neg (by omega), if_pos s31_0]
          rcases h82 with ⟨q1, q2, q3⟩ | ⟨q1, q2, q3⟩
          · refine Or.inl ⟨q1, ?_⟩
            rw [if_pos (by omega), q3]
          · refine Or.inr ⟨q1, ?_, q3⟩
            rw [if_neg (by omega)])
  by_cases s31_1 : σ 63 i = 108
  · refine aw_lsw (off := 39) (tgt := 70) G dX1_comes_31 (by first | omega | exact b01_R _ | exact bP_R _) (by decide) (by rw [s31_1]; rfl) (by decide) ?_
    have hd2 : dgs (σ 63 i) = 3 := by rw [s31_1]; rfl
    have d2 := hg 2 (by omega) (by omega)
    have d3 := hg 3 (by omega) (by omega)
    rw [if_pos (show i + 2 < σ 62 2 by omega), if_pos (show i + 3 < σ 62 2 by omega)]
    refine aw_aload_n G dX1_comes_70 rfl ?_
    refine aw_iload_n G dX1_comes_71 rfl ?_
    refine aw_iload_n G dX1_comes_72 rfl ?_
    refine aw_iload G dX1_comes_73 rfl ?_
    refine cv_X1_54 G dX1_comes_75 (c_X1_comesLine (by omega) (by omega) (by omega) hn) (kk := fun r75 t75 h75 => ?_)
    exact aw_zret G T dX1_comes_78 (by rcases h75 with q | q <;> omega) (by
          unfold stm
          rw [if_neg (by omega), if_pos s31_1]
          rcases h75 with ⟨q1, q2, q3⟩ | ⟨q1, q2, q3⟩
          · refine Or.inl ⟨q1, ?_⟩
            rw [if_pos (by omega), q3]
          · refine Or.inr ⟨q1, ?_, q3⟩
            rw [if_neg (by omega)])
  by_cases s31_2 : σ 63 i = 110
  · refine aw_lsw (off := 33) (tgt := 64) G dX1_comes_31 (by first | omega | exact b01_R _ | exact bP_R _) (by decide) (by rw [s31_2]; rfl) (by decide) ?_
    refine aw_aload_n G dX1_comes_64 rfl ?_
    refine aw_iload_n G dX1_comes_65 rfl ?_
    refine cv_X1_51 G dX1_comes_66 (c_X1_comesPoints (by omega)) (kk := fun r66 t66 h66 => ?_)
    exact aw_zret G T dX1_comes_69 (by rcases h66 with q | q <;> omega) (by
          unfold stm
          rw [if_pos s31_2]
          rcases h66 with ⟨q1, q2, q3⟩ | ⟨q1, q2, q3⟩
          · refine Or.inl ⟨q1, ?_⟩
            rw [if_pos (by omega), q3]
          · refine Or.inr ⟨q1, ?_, q3⟩
            rw [if_neg (by omega)])
  refine aw_lsw (off := 55) (tgt := 86) G dX1_comes_31 (by first | omega | exact b01_R _ | exact bP_R _) (by decide) (by simp [Op.lookupswitch.offset, Ne.symm s31_0, s31_0, Ne.symm s31_1, s31_1, Ne.symm s31_2, s31_2]) (by decide) ?_
  have hd2 : dgs (σ 63 i) = 3 := by
    unfold dgs at hd ⊢
    rw [if_neg s31_2, if_neg s31_0, if_neg s31_1] at hd ⊢
    by_cases z : σ 63 i = 118
    · rw [if_pos z]
    · rw [if_neg z] at hd; omega
  have d2 := hg 2 (by omega) (by omega)
  have d3 := hg 3 (by omega) (by omega)
  rw [if_pos (show i + 2 < σ 62 2 by omega), if_pos (show i + 3 < σ 62 2 by omega)]
  refine aw_aload_n G dX1_comes_86 rfl ?_
  refine aw_iload_n G dX1_comes_87 rfl ?_
  refine aw_bipush G dX1_comes_88 (k := ?_)
  refine aw_iload_n G dX1_comes_90 rfl ?_
  refine aw_imul G dX1_comes_91 ?_
  refine aw_iload G dX1_comes_92 rfl ?_
  refine aw_iadd G dX1_comes_94 ?_
  refine cv_X1_62 G dX1_comes_95 (c_X1_comesLabel (by omega) hn) (kk := fun r95 t95 h95 => ?_)
  exact aw_zret G T dX1_comes_98 (by rcases h95 with q | q <;> omega) (by
          unfold stm
          rw [if_neg s31_2, if_neg s31_1, if_neg s31_0]
          rcases h95 with ⟨q1, q2, q3⟩ | ⟨q1, q2, q3⟩
          · refine Or.inl ⟨q1, ?_⟩
            rw [if_pos (by omega), q3]
          · refine Or.inr ⟨q1, ?_, q3⟩
            rw [if_neg (by omega)])

set_option maxHeartbeats 4000000 in
theorem c_X1_tell {V : Wd} {σ : St}  (hm : 0 ≤ σ 62 2 ∧ σ 62 2 ≤ 72) (hf : ∀ i, 0 ≤ i → i < σ 62 2 → 0 ≤ σ 63 i ∧ σ 63 i ≤ 255) (hn : NetOK σ 1) : Ct V yX1_tell cX1_tell 5 (some .int) 3 70 [rv V 62, rv V 1] σ (PI (fun r τ => (mis (σ 63) (σ 62 2) (σ 62 2).toNat 0 (-1) ≠ -1 ∧ r = -1000 - mis (σ 63) (σ 62 2) (σ 62 2).toNat 0 (-1) ∧ τ = σ) ∨ (mis (σ 63) (σ 62 2) (σ 62 2).toNat 0 (-1) = -1 ∧ ∃ ρ : St, r = (tellF 13 (σ 63) (σ 62 2) (σ 62 2).toNat 0 0 (cpNet σ 13 1)).1 ∧ TO 13 (cpNet σ 13 1) ρ ∧ ((r < 0 ∧ τ = ρ) ∨ (0 ≤ r ∧ ρ = (tellF 13 (σ 63) (σ 62 2) (σ 62 2).toNat 0 0 (cpNet σ 13 1)).2 ∧ τ = cpNet ρ 1 13))))) := by
  refine ct_of (by decide) (Nat.le_of_ble_eq_true rfl) (fun X G T => ?_)
  have G : Gd X V cX1_tell RX1 5 3 70 := G
  show AW X V σ 0 [] [some (rv V 62), some (rv V 1), none, none, none]
  have c63 : cpNet σ 13 1 63 = σ 63 := cpNet_r (by omega)
  have c62 : cpNet σ 13 1 62 = σ 62 := cpNet_r (by omega)
  have loop : ∀ (n0 : Nat) (i : Int) (n : Int) (τ : St) (k : Nat), (mis (σ 63) (σ 62 2) (σ 62 2).toNat 0 (-1) = -1) → (0 ≤ i ∧ i ≤ σ 62 2) → (σ 62 2 < i + (n0 : Int)) → (0 ≤ n ∧ n ≤ i) → (mis (σ 63) (σ 62 2) (σ 62 2 - i).toNat i (-1) = -1) → (TO 13 (cpNet σ 13 1) τ) → (NetOK τ 13) → (σ 62 2 ≤ i + k) → (tellF 13 (σ 63) (σ 62 2) k i n τ = tellF 13 (σ 63) (σ 62 2) (σ 62 2).toNat 0 0 (cpNet σ 13 1)) → AW X V (τ) 29 [] [some (rv V 62), some (rv V 1), some (iv (-1)), some (iv n), some (iv i)] := by
    intro n0
    induction n0 with
    | zero =>
      intro i n τ k hM h0 h1 hn2 hv hT hN hk hq
      exfalso
      omega
    | succ n0 ih =>
      intro i n τ k hM h0 h1 hn2 hv hT hN hk hq
      have e63 : τ 63 = σ 63 := (hT.1 63 (by omega)).trans c63
      have e62 : τ 62 = σ 62 := (hT.1 62 (by omega)).trans c62
      refine aw_iload G dX1_tell_29 rfl ?_
      refine aw_aload_n G dX1_tell_31 rfl ?_
      refine gf_X1_22 G dX1_tell_32 (kk := ?_)
      rw [e62]
      refine aw_icmp_ge (tgt := 81) G dX1_tell_35 (by decide) (by first | omega | exact b01_R _ | exact bP_R _) (by first | omega | exact b01_R _ | exact bP_R _) (fun c35 => ?_) (fun c35 => ?_)
      · refine aw_aload_n G dX1_tell_81 rfl ?_
        refine aw_aload_n G dX1_tell_82 rfl ?_
        refine gf_X1_18 G dX1_tell_83 (kk := ?_)
        refine cv_X1_30 G dX1_tell_86 (c_X3_copyFrom isNet_1 isNet_13 (by omega)) (kk := fun t86 h86 => ?_)
        obtain rfl := h86.symm
        refine aw_iload_n G dX1_tell_89 rfl ?_
        exact aw_iret G T dX1_tell_90 (by
          have hz := hq
          rw [show tellF 13 (σ 63) (σ 62 2) k i n τ = (n, τ) by
            cases k with
            | zero => rfl
            | succ k' =>
              show (if i < σ 62 2 then (match stm τ 13 (σ 63) i with | none => (-2000 - i, τ) | some υ => tellF 13 (σ 63) (σ 62 2) k' (i + dgs (σ 63 i) + 2) (n + 1) υ) else (n, τ)) = _
              rw [if_neg (by omega)]] at hz
          exact Or.inr ⟨hM, τ, by rw [← hz], hT, Or.inr ⟨by omega, by rw [← hz], rfl⟩⟩)
      · obtain ⟨s1, s2, s3, s4, s5⟩ := mis_st ⟨h0.1, by omega⟩ hv
        refine aw_aload_n G dX1_tell_38 rfl ?_
        refine aw_iload G dX1_tell_39 rfl ?_
        refine cv_X1_34 G dX1_tell_41 (c_X1_comes (by rw [e62]; omega) (by rw [e62, e63]; exact hf) hN (by rw [e62, e63]; omega) (by rw [e63]; exact s1) (by rw [e63]; exact s4)) (kk := fun r41 t41 h41 => ?_)
        refine aw_if_ne (tgt := 54) G dX1_tell_44 (by decide) (by rcases h41 with q | q <;> omega) (fun c44 => ?_) (fun c44 => ?_)
        · have hst : stm τ 13 (σ 63) i ≠ none := by
            rcases h41 with ⟨q1, q2⟩ | ⟨q1, q2, q3⟩
            · rw [e63] at q2; rw [q2]; exact fun z => by cases z
            · exact absurd q1 c44
          have e63b : t41 63 = σ 63 := by
            rcases h41 with ⟨q1, q2⟩ | ⟨q1, q2, q3⟩
            · rw [e63] at q2
              exact ((stm_ok hN s1 s4 q2).2.1 63 (by omega)).trans e63
            · rw [q3, e63]
          refine aw_iinc_3 G dX1_tell_54 rfl (hc := by first | rfl | assumption) (k := ?_)
          refine aw_iload G dX1_tell_57 rfl ?_
          refine aw_iconst G dX1_tell_59 ?_
          refine aw_iconst G dX1_tell_60 ?_
          refine aw_aload_n G dX1_tell_61 rfl ?_
          refine gf_X1_9 G dX1_tell_62 (kk := ?_)
          refine aw_iload G dX1_tell_65 rfl ?_
          refine aw_iaload G dX1_tell_67 (by first | decide | assumption | omega) (by first | rfl | assumption) (by first | decide | assumption) (by omega) ?_
          rw [e63b]
          have hfi := hf i h0.1 (by omega)
          refine cs_X1_38 G dX1_tell_68 (c_X1_digitsBehind (by omega)) (kk := fun r68 t68 h68 => ?_)
          obtain ⟨rfl, ee68⟩ := h68
          obtain rfl := ee68.symm
          refine cm_X1_42 G dX1_tell_71 (by decide) (by have := dgs_R (σ 63 i); omega) (k := ?_)
          rw [show max 0 (dgs (σ 63 i)) = dgs (σ 63 i) by omega]
          refine aw_iadd G dX1_tell_74 ?_
          refine aw_iadd G dX1_tell_75 ?_
          rw [show i + (2 + dgs (σ 63 i)) = i + dgs (σ 63 i) + 2 by omega]
          refine aw_istore_4 G dX1_tell_76 (hc := by first | rfl | assumption) (k := ?_)
          refine aw_goto (tgt := 29) G dX1_tell_78 (by decide) ?_
          have hdr := dgs_R (σ 63 i)
          rcases h41 with ⟨q1, q2⟩ | ⟨q1, q2, q3⟩
          · rw [e63] at q2
            obtain ⟨k1, k2⟩ := stm_ok hN s1 s4 q2
            obtain ⟨k', rfl⟩ : ∃ k', k = k' + 1 := ⟨k - 1, by omega⟩
            refine ih (i + dgs (σ 63 i) + 2) (n + 1) t41 k' hM (by omega) (by omega) (by omega) s5 (hT.tr k2) k1 (by omega) ?_
            rw [← hq]
            show _ = (if i < σ 62 2 then (match stm τ 13 (σ 63) i with | none => (-2000 - i, τ) | some υ => tellF 13 (σ 63) (σ 62 2) k' (i + dgs (σ 63 i) + 2) (n + 1) υ) else (n, τ))
            rw [if_pos (by omega), q2]
          · exact absurd q1 c44
        · refine aw_sipush G dX1_tell_47 (k := ?_)
          refine aw_iload G dX1_tell_50 rfl ?_
          refine aw_isub G dX1_tell_52 ?_
          exact aw_iret G T dX1_tell_53 (by
          rcases h41 with ⟨q1, q2⟩ | ⟨q1, q2, q3⟩
          · omega
          · rw [e63] at q2
            obtain ⟨k', rfl⟩ : ∃ k', k = k' + 1 := ⟨k - 1, by omega⟩
            have hz := hq
            rw [show tellF 13 (σ 63) (σ 62 2) (k' + 1) i n τ = (-2000 - i, τ) by
              show (if i < σ 62 2 then (match stm τ 13 (σ 63) i with | none => (-2000 - i, τ) | some υ => tellF 13 (σ 63) (σ 62 2) k' (i + dgs (σ 63 i) + 2) (n + 1) υ) else (n, τ)) = _
              rw [if_pos (by omega), q2]] at hz
            exact Or.inr ⟨hM, τ, by rw [← hz], hT, Or.inl ⟨by omega, q3⟩⟩)
  refine aw_aload_n G dX1_tell_0 rfl ?_
  refine cv_X1_26 G dX1_tell_1 (c_X1_misspelt hm hf) (kk := fun r1 t1 h1 => ?_)
  obtain ⟨rfl, ee1⟩ := h1
  obtain rfl := ee1.symm
  refine aw_istore_2 G dX1_tell_4 (hc := by first | rfl | assumption) (k := ?_)
  refine aw_iload_n G dX1_tell_5 rfl ?_
  refine aw_iconst G dX1_tell_6 ?_
  refine aw_icmp_eq (tgt := 16) G dX1_tell_7 (by decide) (by have := mis_R (σ 63) (σ 62 2) (σ 62 2).toNat 0 (-1) (by omega) (by omega); omega) (by first | omega | exact b01_R _ | exact bP_R _) (fun c7 => ?_) (fun c7 => ?_)
  · refine aw_aload_n G dX1_tell_16 rfl ?_
    refine gf_X1_18 G dX1_tell_17 (kk := ?_)
    refine aw_aload_n G dX1_tell_20 rfl ?_
    refine cv_X1_30 G dX1_tell_21 (c_X3_copyFrom isNet_13 isNet_1 (by omega)) (kk := fun t21 h21 => ?_)
    obtain rfl := h21.symm
    refine aw_iconst G dX1_tell_24 ?_
    refine aw_istore_3 G dX1_tell_25 (hc := by first | rfl | assumption) (k := ?_)
    refine aw_iconst G dX1_tell_26 ?_
    refine aw_istore_4 G dX1_tell_27 (hc := by first | rfl | assumption) (k := ?_)
    have hz := loop ((σ 62 2).toNat + 1) 0 0 (cpNet σ 13 1) (σ 62 2).toNat (by omega) (by omega) (by omega) (by omega) (by rw [show σ 62 2 - 0 = σ 62 2 by omega]; exact c7) (TO.rf 13 _) (NetEq.ok (cpNet_eq (by omega)) hn) (by omega) rfl
    rw [← c7] at hz
    exact hz
  · refine aw_sipush G dX1_tell_10 (k := ?_)
    refine aw_iload_n G dX1_tell_13 rfl ?_
    refine aw_isub G dX1_tell_14 ?_
    exact aw_iret G T dX1_tell_15 (Or.inl ⟨c7, rfl, rfl⟩)
