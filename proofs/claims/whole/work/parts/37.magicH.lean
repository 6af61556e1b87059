set_option maxHeartbeats 4000000 in
theorem c_X7_isAbove {V : Wd} {σ : St} {ρ : St} {f : Int → Int} {l r0 : Int} (hN : NetOK ρ 1) (hT : TH ρ σ f) (hf : ∀ j : Int, 0 ≤ j → j < ρ 1 1 → 0 ≤ f j ∧ f j ≤ 1000) (hl : 0 ≤ l ∧ l < ρ 1 1) (hr : 0 ≤ r0 ∧ r0 ≤ 6) : Ct V yX7_isAbove cX7_isAbove 3 (some .boolean) 0 0 [rv V 47, iv l, iv r0] σ (PI (fun r τ => r = bP (r0 < tsum (nwt ρ 1) f (ρ 1 1) (ρ 4 l) ∨ r0 < tsum (nwt ρ 1) f (ρ 1 1) (ρ 5 l)) ∧ τ = σ)) := by
  refine ct_of (by decide) (Nat.le_of_ble_eq_true rfl) (fun X G T => ?_)
  have G : Gd X V cX7_isAbove RX7 3 0 0 := G
  show AW X V σ 0 [] [some (rv V 47), some (iv l), some (iv r0)]
  obtain ⟨ho, hj, hs⟩ := id hT
  obtain ⟨n1, n2, n3, n4, n5, n6⟩ := id hN
  have e4 : σ 4 = ρ 4 := ho 4 (by decide)
  have e5 : σ 5 = ρ 5 := ho 5 (by decide)
  have hni : 0 ≤ ρ 2 l ∧ ρ 2 l ≤ 5 ∧ 0 ≤ ρ 3 l ∧ ρ 3 l ≤ 9 ∧ 0 ≤ ρ 4 l ∧ ρ 4 l ≤ 6 ∧ 0 ≤ ρ 5 l ∧ ρ 5 l ≤ 6 ∧ 0 ≤ ρ 6 l ∧ ρ 6 l ≤ 99 := n5 l hl.1 (by omega)
  have hR := TH_R hT hN hf
  have ha := hR (ρ 4 l) (by omega) (by omega)
  have hb := hR (ρ 5 l) (by omega) (by omega)
  rw [hs _ (by omega) (by omega)] at ha hb
  refine aw_aload_n G dX7_isAbove_0 rfl ?_
  refine gf_X7_15 G dX7_isAbove_1 (kk := ?_)
  refine aw_aload_n G dX7_isAbove_4 rfl ?_
  refine gf_X7_34 G dX7_isAbove_5 (kk := ?_)
  refine gf_X7_50 G dX7_isAbove_8 (kk := ?_)
  refine aw_iload_n G dX7_isAbove_11 rfl ?_
  refine aw_iaload G dX7_isAbove_12 (by first | decide | assumption | omega) (by first | rfl | assumption) (by first | decide | assumption) (by omega) ?_
  rw [e4]
  refine aw_iaload G dX7_isAbove_13 (by first | decide | assumption | omega) (by first | rfl | assumption) (by first | decide | assumption) (by omega) ?_
  rw [hs _ (by omega) (by omega)]
  refine aw_iload_n G dX7_isAbove_14 rfl ?_
  refine aw_icmp_gt (tgt := 36) G dX7_isAbove_15 (by decide) (by first | omega | exact b01_R _ | exact bP_R _) (by first | omega | exact b01_R _ | exact bP_R _) (fun c15 => ?_) (fun c15 => ?_)
  · refine aw_iconst G dX7_isAbove_36 ?_
    refine aw_goto (tgt := 41) G dX7_isAbove_37 (by decide) ?_
    exact aw_zret G T dX7_isAbove_41 (by first | exact Or.inl rfl | exact Or.inr rfl | assumption) (by
    refine ⟨?_, rfl⟩
    first
      | exact (bP_t (Or.inl (by omega))).symm
      | exact (bP_t (Or.inr (by omega))).symm
      | exact (bP_f (by omega)).symm)
  · refine aw_aload_n G dX7_isAbove_18 rfl ?_
    refine gf_X7_15 G dX7_isAbove_19 (kk := ?_)
    refine aw_aload_n G dX7_isAbove_22 rfl ?_
    refine gf_X7_34 G dX7_isAbove_23 (kk := ?_)
    refine gf_X7_53 G dX7_isAbove_26 (kk := ?_)
    refine aw_iload_n G dX7_isAbove_29 rfl ?_
    refine aw_iaload G dX7_isAbove_30 (by first | decide | assumption | omega) (by first | rfl | assumption) (by first | decide | assumption) (by omega) ?_
    rw [e5]
    refine aw_iaload G dX7_isAbove_31 (by first | decide | assumption | omega) (by first | rfl | assumption) (by first | decide | assumption) (by omega) ?_
    rw [hs _ (by omega) (by omega)]
    refine aw_iload_n G dX7_isAbove_32 rfl ?_
    refine aw_icmp_le (tgt := 40) G dX7_isAbove_33 (by decide) (by first | omega | exact b01_R _ | exact bP_R _) (by first | omega | exact b01_R _ | exact bP_R _) (fun c33 => ?_) (fun c33 => ?_)
    · refine aw_iconst G dX7_isAbove_40 ?_
      exact aw_zret G T dX7_isAbove_41 (by first | exact Or.inl rfl | exact Or.inr rfl | assumption) (by
    refine ⟨?_, rfl⟩
    first
      | exact (bP_t (Or.inl (by omega))).symm
      | exact (bP_t (Or.inr (by omega))).symm
      | exact (bP_f (by omega)).symm)
    · refine aw_iconst G dX7_isAbove_36 ?_
      refine aw_goto (tgt := 41) G dX7_isAbove_37 (by decide) ?_
      exact aw_zret G T dX7_isAbove_41 (by first | exact Or.inl rfl | exact Or.inr rfl | assumption) (by
    refine ⟨?_, rfl⟩
    first
      | exact (bP_t (Or.inl (by omega))).symm
      | exact (bP_t (Or.inr (by omega))).symm
      | exact (bP_f (by omega)).symm)

set_option maxHeartbeats 4000000 in
theorem c_X7_leavesNoLess {V : Wd} {σ : St} {ρ : St} {f : Int → Int} {l r0 : Int} (hN : NetOK ρ 1) (hT : TH ρ σ f) (hf : ∀ j : Int, 0 ≤ j → j < ρ 1 1 → 0 ≤ f j ∧ f j ≤ 1000) (hl : 0 ≤ l ∧ l < ρ 1 1) (hr : 0 ≤ r0 ∧ r0 ≤ 6) (hLL : LastL ρ σ (ρ 1 1)) : Ct V yX7_leavesNoLess cX7_leavesNoLess 5 (some .boolean) 0 0 [rv V 47, iv l, iv r0] σ (PI (fun r τ => r = bP ((σ 52 (ρ 4 l) = l → tsum (nwt ρ 1) f (ρ 1 1) (ρ 4 l) = r0) ∧ (σ 52 (ρ 5 l) = l → tsum (nwt ρ 1) f (ρ 1 1) (ρ 5 l) = r0)) ∧ τ = σ)) := by
  refine ct_of (by decide) (Nat.le_of_ble_eq_true rfl) (fun X G T => ?_)
  have G : Gd X V cX7_leavesNoLess RX7 5 0 0 := G
  show AW X V σ 0 [] [some (rv V 47), some (iv l), some (iv r0), none, none]
  obtain ⟨ho, hj, hs⟩ := id hT
  obtain ⟨n1, n2, n3, n4, n5, n6⟩ := id hN
  have e4 : σ 4 = ρ 4 := ho 4 (by decide)
  have e5 : σ 5 = ρ 5 := ho 5 (by decide)
  have hni : 0 ≤ ρ 2 l ∧ ρ 2 l ≤ 5 ∧ 0 ≤ ρ 3 l ∧ ρ 3 l ≤ 9 ∧ 0 ≤ ρ 4 l ∧ ρ 4 l ≤ 6 ∧ 0 ≤ ρ 5 l ∧ ρ 5 l ≤ 6 ∧ 0 ≤ ρ 6 l ∧ ρ 6 l ≤ 99 := n5 l hl.1 (by omega)
  have hR := TH_R hT hN hf
  have ha := hR (ρ 4 l) (by omega) (by omega)
  have hb := hR (ρ 5 l) (by omega) (by omega)
  rw [hs _ (by omega) (by omega)] at ha hb
  have hla : inR (σ 52 (ρ 4 l)) := by
    rcases hLL (ρ 4 l) (by omega) (by omega) with ⟨q1, q2⟩ | ⟨q1, q2, q3⟩ <;> omega
  have hlb : inR (σ 52 (ρ 5 l)) := by
    rcases hLL (ρ 5 l) (by omega) (by omega) with ⟨q1, q2⟩ | ⟨q1, q2, q3⟩ <;> omega
  refine aw_aload_n G dX7_leavesNoLess_0 rfl ?_
  refine gf_X7_34 G dX7_leavesNoLess_1 (kk := ?_)
  refine gf_X7_50 G dX7_leavesNoLess_4 (kk := ?_)
  refine aw_iload_n G dX7_leavesNoLess_7 rfl ?_
  refine aw_iaload G dX7_leavesNoLess_8 (by first | decide | assumption | omega) (by first | rfl | assumption) (by first | decide | assumption) (by omega) ?_
  rw [e4]
  refine aw_istore_3 G dX7_leavesNoLess_9 (hc := by first | rfl | assumption) (k := ?_)
  refine aw_aload_n G dX7_leavesNoLess_10 rfl ?_
  refine gf_X7_34 G dX7_leavesNoLess_11 (kk := ?_)
  refine gf_X7_53 G dX7_leavesNoLess_14 (kk := ?_)
  refine aw_iload_n G dX7_leavesNoLess_17 rfl ?_
  refine aw_iaload G dX7_leavesNoLess_18 (by first | decide | assumption | omega) (by first | rfl | assumption) (by first | decide | assumption) (by omega) ?_
  rw [e5]
  refine aw_istore_4 G dX7_leavesNoLess_19 (hc := by first | rfl | assumption) (k := ?_)
  refine aw_aload_n G dX7_leavesNoLess_21 rfl ?_
  refine gf_X7_24 G dX7_leavesNoLess_22 (kk := ?_)
  refine aw_iload_n G dX7_leavesNoLess_25 rfl ?_
  refine aw_iaload G dX7_leavesNoLess_26 (by first | decide | assumption | omega) (by first | rfl | assumption) (by first | decide | assumption) (by omega) ?_
  refine aw_iload_n G dX7_leavesNoLess_27 rfl ?_
  refine aw_icmp_ne (tgt := 41) G dX7_leavesNoLess_28 (by decide) (by first | omega | exact b01_R _ | exact bP_R _) (by first | omega | exact b01_R _ | exact bP_R _) (fun c28 => ?_) (fun c28 => ?_)
  · refine aw_aload_n G dX7_leavesNoLess_41 rfl ?_
    refine gf_X7_24 G dX7_leavesNoLess_42 (kk := ?_)
    refine aw_iload G dX7_leavesNoLess_45 rfl ?_
    refine aw_iaload G dX7_leavesNoLess_47 (by first | decide | assumption | omega) (by first | rfl | assumption) (by first | decide | assumption) (by omega) ?_
    refine aw_iload_n G dX7_leavesNoLess_48 rfl ?_
    refine aw_icmp_ne (tgt := 63) G dX7_leavesNoLess_49 (by decide) (by first | omega | exact b01_R _ | exact bP_R _) (by first | omega | exact b01_R _ | exact bP_R _) (fun c49 => ?_) (fun c49 => ?_)
    · refine aw_iconst G dX7_leavesNoLess_63 ?_
      refine aw_goto (tgt := 68) G dX7_leavesNoLess_64 (by decide) ?_
      exact aw_zret G T dX7_leavesNoLess_68 (by first | exact Or.inl rfl | exact Or.inr rfl | assumption) (by
    refine ⟨?_, rfl⟩
    first
      | exact (bP_t ⟨fun q => by omega, fun q => by omega⟩).symm
      | exact (bP_f (fun q => by have q1 := q.1; have q2 := q.2; omega)).symm)
    · refine aw_aload_n G dX7_leavesNoLess_52 rfl ?_
      refine gf_X7_15 G dX7_leavesNoLess_53 (kk := ?_)
      refine aw_iload G dX7_leavesNoLess_56 rfl ?_
      refine aw_iaload G dX7_leavesNoLess_58 (by first | decide | assumption | omega) (by first | rfl | assumption) (by first | decide | assumption) (by omega) ?_
      rw [hs _ (by omega) (by omega)]
      refine aw_iload_n G dX7_leavesNoLess_59 rfl ?_
      refine aw_icmp_ne (tgt := 67) G dX7_leavesNoLess_60 (by decide) (by first | omega | exact b01_R _ | exact bP_R _) (by first | omega | exact b01_R _ | exact bP_R _) (fun c60 => ?_) (fun c60 => ?_)
      · refine aw_iconst G dX7_leavesNoLess_67 ?_
        exact aw_zret G T dX7_leavesNoLess_68 (by first | exact Or.inl rfl | exact Or.inr rfl | assumption) (by
    refine ⟨?_, rfl⟩
    first
      | exact (bP_t ⟨fun q => by omega, fun q => by omega⟩).symm
      | exact (bP_f (fun q => by have q1 := q.1; have q2 := q.2; omega)).symm)
      · refine aw_iconst G dX7_leavesNoLess_63 ?_
        refine aw_goto (tgt := 68) G dX7_leavesNoLess_64 (by decide) ?_
        exact aw_zret G T dX7_leavesNoLess_68 (by first | exact Or.inl rfl | exact Or.inr rfl | assumption) (by
    refine ⟨?_, rfl⟩
    first
      | exact (bP_t ⟨fun q => by omega, fun q => by omega⟩).symm
      | exact (bP_f (fun q => by have q1 := q.1; have q2 := q.2; omega)).symm)
  · refine aw_aload_n G dX7_leavesNoLess_31 rfl ?_
    refine gf_X7_15 G dX7_leavesNoLess_32 (kk := ?_)
    refine aw_iload_n G dX7_leavesNoLess_35 rfl ?_
    refine aw_iaload G dX7_leavesNoLess_36 (by first | decide | assumption | omega) (by first | rfl | assumption) (by first | decide | assumption) (by omega) ?_
    rw [hs _ (by omega) (by omega)]
    refine aw_iload_n G dX7_leavesNoLess_37 rfl ?_
    refine aw_icmp_ne (tgt := 67) G dX7_leavesNoLess_38 (by decide) (by first | omega | exact b01_R _ | exact bP_R _) (by first | omega | exact b01_R _ | exact bP_R _) (fun c38 => ?_) (fun c38 => ?_)
    · refine aw_iconst G dX7_leavesNoLess_67 ?_
      exact aw_zret G T dX7_leavesNoLess_68 (by first | exact Or.inl rfl | exact Or.inr rfl | assumption) (by
    refine ⟨?_, rfl⟩
    first
      | exact (bP_t ⟨fun q => by omega, fun q => by omega⟩).symm
      | exact (bP_f (fun q => by have q1 := q.1; have q2 := q.2; omega)).symm)
    · refine aw_aload_n G dX7_leavesNoLess_41 rfl ?_
      refine gf_X7_24 G dX7_leavesNoLess_42 (kk := ?_)
      refine aw_iload G dX7_leavesNoLess_45 rfl ?_
      refine aw_iaload G dX7_leavesNoLess_47 (by first | decide | assumption | omega) (by first | rfl | assumption) (by first | decide | assumption) (by omega) ?_
      refine aw_iload_n G dX7_leavesNoLess_48 rfl ?_
      refine aw_icmp_ne (tgt := 63) G dX7_leavesNoLess_49 (by decide) (by first | omega | exact b01_R _ | exact bP_R _) (by first | omega | exact b01_R _ | exact bP_R _) (fun c49 => ?_) (fun c49 => ?_)
      · refine aw_iconst G dX7_leavesNoLess_63 ?_
        refine aw_goto (tgt := 68) G dX7_leavesNoLess_64 (by decide) ?_
        exact aw_zret G T dX7_leavesNoLess_68 (by first | exact Or.inl rfl | exact Or.inr rfl | assumption) (by
    refine ⟨?_, rfl⟩
    first
      | exact (bP_t ⟨fun q => by omega, fun q => by omega⟩).symm
      | exact (bP_f (fun q => by have q1 := q.1; have q2 := q.2; omega)).symm)
      · refine aw_aload_n G dX7_leavesNoLess_52 rfl ?_
        refine gf_X7_15 G dX7_leavesNoLess_53 (kk := ?_)
        refine aw_iload G dX7_leavesNoLess_56 rfl ?_
        refine aw_iaload G dX7_leavesNoLess_58 (by first | decide | assumption | omega) (by first | rfl | assumption) (by first | decide | assumption) (by omega) ?_
        rw [hs _ (by omega) (by omega)]
        refine aw_iload_n G dX7_leavesNoLess_59 rfl ?_
        refine aw_icmp_ne (tgt := 67) G dX7_leavesNoLess_60 (by decide) (by first | omega | exact b01_R _ | exact bP_R _) (by first | omega | exact b01_R _ | exact bP_R _) (fun c60 => ?_) (fun c60 => ?_)
        · refine aw_iconst G dX7_leavesNoLess_67 ?_
          exact aw_zret G T dX7_leavesNoLess_68 (by first | exact Or.inl rfl | exact Or.inr rfl | assumption) (by
    refine ⟨?_, rfl⟩
    first
      | exact (bP_t ⟨fun q => by omega, fun q => by omega⟩).symm
      | exact (bP_f (fun q => by have q1 := q.1; have q2 := q.2; omega)).symm)
        · refine aw_iconst G dX7_leavesNoLess_63 ?_
          refine aw_goto (tgt := 68) G dX7_leavesNoLess_64 (by decide) ?_
          exact aw_zret G T dX7_leavesNoLess_68 (by first | exact Or.inl rfl | exact Or.inr rfl | assumption) (by
    refine ⟨?_, rfl⟩
    first
      | exact (bP_t ⟨fun q => by omega, fun q => by omega⟩).symm
      | exact (bP_f (fun q => by have q1 := q.1; have q2 := q.2; omega)).symm)

set_option maxHeartbeats 4000000 in
theorem c_X7_allPointsCount {V : Wd} {σ : St} {ρ : St} (hN : NetOK ρ 1) (ho : Only thS ρ σ) (hLL : LastL ρ σ (ρ 1 1)) : Ct V yX7_allPointsCount cX7_allPointsCount 2 (some .boolean) 0 0 [rv V 47] σ (PI (fun r τ => r = bP (∀ p : Int, 0 ≤ p → p < ρ 1 0 → 0 ≤ σ 52 p) ∧ τ = σ)) := by
  refine ct_of (by decide) (Nat.le_of_ble_eq_true rfl) (fun X G T => ?_)
  have G : Gd X V cX7_allPointsCount RX7 2 0 0 := G
  show AW X V σ 0 [] [some (rv V 47), none]
  obtain ⟨n1, n2, n3, n4, n5, n6⟩ := id hN
  have loop : ∀ (n0 : Nat) (i : Int), (0 ≤ i ∧ i ≤ ρ 1 0) → (ρ 1 0 < i + (n0 : Int)) → (∀ p : Int, 0 ≤ p → p < i → 0 ≤ σ 52 p) → AW X V (σ) 2 [] [some (rv V 47), some (iv i)] := by
    intro n0
    induction n0 with
    | zero =>
      intro i h0 h1 hq
      exfalso
      omega
    | succ n0 ih =>
      intro i h0 h1 hq
      refine aw_iload_n G dX7_allPointsCount_2 rfl ?_
      refine aw_aload_n G dX7_allPointsCount_3 rfl ?_
      refine gf_X7_34 G dX7_allPointsCount_4 (kk := ?_)
      refine gf_X7_63 G dX7_allPointsCount_7 (kk := ?_)
      rw [ho 1 (by decide)]
      refine aw_icmp_ge (tgt := 30) G dX7_allPointsCount_10 (by decide) (by first | omega | exact b01_R _ | exact bP_R _) (by first | omega | exact b01_R _ | exact bP_R _) (fun c10 => ?_) (fun c10 => ?_)
      · refine aw_iconst G dX7_allPointsCount_30 ?_
        exact aw_zret G T dX7_allPointsCount_31 (by first | exact Or.inl rfl | exact Or.inr rfl | assumption) (⟨(bP_t (fun p a b => hq p a (by omega))).symm, rfl⟩)
      · have hLi : inR (σ 52 i) := by
          rcases hLL i (by omega) (by omega) with ⟨q1, q2⟩ | ⟨q1, q2, q3⟩ <;> omega
        refine aw_aload_n G dX7_allPointsCount_13 rfl ?_
        refine gf_X7_24 G dX7_allPointsCount_14 (kk := ?_)
        refine aw_iload_n G dX7_allPointsCount_17 rfl ?_
        refine aw_iaload G dX7_allPointsCount_18 (by first | decide | assumption | omega) (by first | rfl | assumption) (by first | decide | assumption) (by omega) ?_
        refine aw_if_ge (tgt := 24) G dX7_allPointsCount_19 (by decide) (by first | omega | exact b01_R _ | exact bP_R _) (fun c19 => ?_) (fun c19 => ?_)
        · refine aw_iinc_1 G dX7_allPointsCount_24 rfl (hc := by first | rfl | assumption) (k := ?_)
          refine aw_goto (tgt := 2) G dX7_allPointsCount_27 (by decide) ?_
          refine ih (i + 1) (by omega) (by omega) (fun p a b => ?_)
          by_cases e : p = i
          · rw [e]; omega
          · exact hq p a (by omega)
        · refine aw_iconst G dX7_allPointsCount_22 ?_
          exact aw_zret G T dX7_allPointsCount_23 (by first | exact Or.inl rfl | exact Or.inr rfl | assumption) (⟨(bP_f (fun q => by have := q i (by omega) (by omega); omega)).symm, rfl⟩)
  refine aw_iconst G dX7_allPointsCount_0 ?_
  refine aw_istore_1 G dX7_allPointsCount_1 (hc := by first | rfl | assumption) (k := ?_)
  exact loop ((ρ 1 0).toNat + 1) 0 (by omega) (by omega) (fun p a b => by omega)
set_option maxHeartbeats 4000000 in
theorem c_X10_isAbove {V : Wd} {σ : St} {r0 : Int} (hn : 0 ≤ σ 75 0 ∧ σ 75 0 ≤ 7) (hr : 0 ≤ r0 ∧ r0 ≤ 6) (hR : ∀ p : Int, 0 ≤ p → p < σ 75 0 → inR (σ 89 p)) : Ct V yX10_isAbove cX10_isAbove 3 (some .boolean) 0 0 [rv V 75, iv r0] σ (PI (fun r τ => r = bP (∃ p : Int, 0 ≤ p ∧ p < σ 75 0 ∧ r0 < σ 89 p) ∧ τ = σ)) := by
  refine ct_of (by decide) (Nat.le_of_ble_eq_true rfl) (fun X G T => ?_)
  have G : Gd X V cX10_isAbove RX10 3 0 0 := G
  show AW X V σ 0 [] [some (rv V 75), some (iv r0), none]
  have loop : ∀ (n0 : Nat) (i : Int), (0 ≤ i ∧ i ≤ σ 75 0) → (σ 75 0 < i + (n0 : Int)) → (∀ p : Int, 0 ≤ p → p < i → ¬ r0 < σ 89 p) → AW X V (σ) 2 [] [some (rv V 75), some (iv r0), some (iv i)] := by
    intro n0
    induction n0 with
    | zero =>
      intro i h0 h1 hq
      exfalso
      omega
    | succ n0 ih =>
      intro i h0 h1 hq
      refine aw_iload_n G dX10_isAbove_2 rfl ?_
      refine aw_aload_n G dX10_isAbove_3 rfl ?_
      refine gf_X10_7 G dX10_isAbove_4 (kk := ?_)
      refine aw_icmp_ge (tgt := 28) G dX10_isAbove_7 (by decide) (by first | omega | exact b01_R _ | exact bP_R _) (by first | omega | exact b01_R _ | exact bP_R _) (fun c7 => ?_) (fun c7 => ?_)
      · refine aw_iconst G dX10_isAbove_28 ?_
        exact aw_zret G T dX10_isAbove_29 (by first | exact Or.inl rfl | exact Or.inr rfl | assumption) (⟨(bP_f (fun ⟨p, a, b, c⟩ => hq p a (by omega) c)).symm, rfl⟩)
      · have hRi := hR i (by omega) (by omega)
        refine aw_aload_n G dX10_isAbove_10 rfl ?_
        refine gf_X10_53 G dX10_isAbove_11 (kk := ?_)
        refine aw_iload_n G dX10_isAbove_14 rfl ?_
        refine aw_iaload G dX10_isAbove_15 (by first | decide | assumption | omega) (by first | rfl | assumption) (by first | decide | assumption) (by omega) ?_
        refine aw_iload_n G dX10_isAbove_16 rfl ?_
        refine aw_icmp_le (tgt := 22) G dX10_isAbove_17 (by decide) (by first | omega | exact b01_R _ | exact bP_R _) (by first | omega | exact b01_R _ | exact bP_R _) (fun c17 => ?_) (fun c17 => ?_)
        · refine aw_iinc_2 G dX10_isAbove_22 rfl (hc := by first | rfl | assumption) (k := ?_)
          refine aw_goto (tgt := 2) G dX10_isAbove_25 (by decide) ?_
          refine ih (i + 1) (by omega) (by omega) (fun p a b => ?_)
          by_cases e : p = i
          · rw [e]; omega
          · exact hq p a (by omega)
        · refine aw_iconst G dX10_isAbove_20 ?_
          exact aw_zret G T dX10_isAbove_21 (by first | exact Or.inl rfl | exact Or.inr rfl | assumption) (⟨(bP_t ⟨i, by omega, by omega, by omega⟩).symm, rfl⟩)
  refine aw_iconst G dX10_isAbove_0 ?_
  refine aw_istore_2 G dX10_isAbove_1 (hc := by first | rfl | assumption) (k := ?_)
  exact loop ((σ 75 0).toNat + 1) 0 (by omega) (by omega) (fun p a b => by omega)
set_option maxHeartbeats 4000000 in
theorem c_X10_isAll {V : Wd} {σ : St} {r0 : Int} (hn : 0 ≤ σ 75 0 ∧ σ 75 0 ≤ 7) (hr : 0 ≤ r0 ∧ r0 ≤ 6) (hR : ∀ p : Int, 0 ≤ p → p < σ 75 0 → inR (σ 89 p)) : Ct V yX10_isAll cX10_isAll 3 (some .boolean) 0 0 [rv V 75, iv r0] σ (PI (fun r τ => r = bP (∀ p : Int, 0 ≤ p → p < σ 75 0 → σ 89 p = r0) ∧ τ = σ)) := by
  refine ct_of (by decide) (Nat.le_of_ble_eq_true rfl) (fun X G T => ?_)
  have G : Gd X V cX10_isAll RX10 3 0 0 := G
  show AW X V σ 0 [] [some (rv V 75), some (iv r0), none]
  have loop : ∀ (n0 : Nat) (i : Int), (0 ≤ i ∧ i ≤ σ 75 0) → (σ 75 0 < i + (n0 : Int)) → (∀ p : Int, 0 ≤ p → p < i → σ 89 p = r0) → AW X V (σ) 2 [] [some (rv V 75), some (iv r0), some (iv i)] := by
    intro n0
    induction n0 with
    | zero =>
      intro i h0 h1 hq
      exfalso
      omega
    | succ n0 ih =>
      intro i h0 h1 hq
      refine aw_iload_n G dX10_isAll_2 rfl ?_
      refine aw_aload_n G dX10_isAll_3 rfl ?_
      refine gf_X10_7 G dX10_isAll_4 (kk := ?_)
      refine aw_icmp_ge (tgt := 28) G dX10_isAll_7 (by decide) (by first | omega | exact b01_R _ | exact bP_R _) (by first | omega | exact b01_R _ | exact bP_R _) (fun c7 => ?_) (fun c7 => ?_)
      · refine aw_iconst G dX10_isAll_28 ?_
        exact aw_zret G T dX10_isAll_29 (by first | exact Or.inl rfl | exact Or.inr rfl | assumption) (⟨(bP_t (fun p a b => hq p a (by omega))).symm, rfl⟩)
      · have hRi := hR i (by omega) (by omega)
        refine aw_aload_n G dX10_isAll_10 rfl ?_
        refine gf_X10_53 G dX10_isAll_11 (kk := ?_)
        refine aw_iload_n G dX10_isAll_14 rfl ?_
        refine aw_iaload G dX10_isAll_15 (by first | decide | assumption | omega) (by first | rfl | assumption) (by first | decide | assumption) (by omega) ?_
        refine aw_iload_n G dX10_isAll_16 rfl ?_
        refine aw_icmp_eq (tgt := 22) G dX10_isAll_17 (by decide) (by first | omega | exact b01_R _ | exact bP_R _) (by first | omega | exact b01_R _ | exact bP_R _) (fun c17 => ?_) (fun c17 => ?_)
        · refine aw_iinc_2 G dX10_isAll_22 rfl (hc := by first | rfl | assumption) (k := ?_)
          refine aw_goto (tgt := 2) G dX10_isAll_25 (by decide) ?_
          refine ih (i + 1) (by omega) (by omega) (fun p a b => ?_)
          by_cases e : p = i
          · rw [e]; omega
          · exact hq p a (by omega)
        · refine aw_iconst G dX10_isAll_20 ?_
          exact aw_zret G T dX10_isAll_21 (by first | exact Or.inl rfl | exact Or.inr rfl | assumption) (⟨(bP_f (fun q => c17 (q i (by omega) (by omega)))).symm, rfl⟩)
  refine aw_iconst G dX10_isAll_0 ?_
  refine aw_istore_2 G dX10_isAll_1 (hc := by first | rfl | assumption) (k := ?_)
  exact loop ((σ 75 0).toNat + 1) 0 (by omega) (by omega) (fun p a b => by omega)
