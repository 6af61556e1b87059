set_option maxHeartbeats 4000000 in
theorem c_X10_goesUp {V : Wd} {σ : St} {ρ : St} {f : Int → Int} (hn : NetOK ρ 75) (hT : MT ρ σ f) (hf : ∀ j : Int, 0 ≤ j → j < ρ 75 1 → 0 ≤ f j ∧ f j ≤ 8) : Ct V yX10_goesUp cX10_goesUp 1 (some .boolean) 1 22 [rv V 75] σ (PI (fun r τ => (r = 1 ∧ 0 < ρ 75 1 ∧ MT ρ τ (upf f (ρ 75 1 - 1) (f (ρ 75 1 - 1) + 1))) ∨ (r = 0 ∧ ρ 75 1 = 0 ∧ τ = σ))) := by
  refine ct_of (by decide) (Nat.le_of_ble_eq_true rfl) (fun X G T => ?_)
  have G : Gd X V cX10_goesUp RX10 1 1 22 := G
  show AW X V σ 0 [] [some (rv V 75)]
  obtain ⟨n1, n2, n3, n4, n5, n6⟩ := id hn
  obtain ⟨hO, hw, hl, hs⟩ := id hT
  have e75 : σ 75 = ρ 75 := hO 75 (by decide)
  refine aw_aload_n G dX10_goesUp_0 rfl ?_
  refine gf_X10_82 G dX10_goesUp_1 (kk := ?_)
  rw [e75]
  refine aw_if_ne (tgt := 9) G dX10_goesUp_4 (by decide) (by first | omega | exact b01_R _ | exact bP_R _) (fun c4 => ?_) (fun c4 => ?_)
  · try simp only [b01_0, b01_n, bP_0, bP_n, Classical.not_not] at c4
    refine aw_aload_n G dX10_goesUp_9 rfl ?_
    refine gf_X10_50 G dX10_goesUp_10 (kk := ?_)
    refine aw_aload_n G dX10_goesUp_13 rfl ?_
    refine gf_X10_82 G dX10_goesUp_14 (kk := ?_)
    rw [e75]
    refine aw_iconst G dX10_goesUp_17 ?_
    refine aw_isub G dX10_goesUp_18 ?_
    refine aw_dup2 G dX10_goesUp_19 (k := ?_)
    refine aw_iaload G dX10_goesUp_20 (by first | decide | assumption | omega) (by first | rfl | assumption) (by first | decide | assumption) (by omega) ?_
    rw [hl (ρ 75 1 - 1) (by omega) (by omega)]
    refine aw_iconst G dX10_goesUp_21 ?_
    refine aw_iadd G dX10_goesUp_22 ?_
    refine aw_iastore G dX10_goesUp_23 (by first | decide | assumption | omega) (by first | rfl | assumption) (by first | decide | assumption) (by omega) ?_
    refine aw_aload_n G dX10_goesUp_24 rfl ?_
    have e75b : up σ 88 (ρ 75 1 - 1) (f (ρ 75 1 - 1) + 1) 75 = ρ 75 := (up_ne (by decide)).trans e75
    refine cv_X10_144 G dX10_goesUp_25 (c_X10_laySums (by rw [e75b]; omega)) (kk := fun t25 h25 => ?_)
    obtain ⟨o1, q1⟩ := h25
    refine aw_iconst G dX10_goesUp_28 ?_
    exact aw_zret G T dX10_goesUp_29 (Or.inr rfl) (by
    refine Or.inl ⟨rfl, by omega, MT_lay (hO.up (by decide)) (fun p l a b c d => by rw [up_o (by decide)]; exact hw p l a b c d) (fun j a b => ?_) o1 q1⟩
    by_cases e : j = ρ 75 1 - 1
    · rw [e, up_at, upf_at]
    · rw [up_nj e, upf_o e]
      exact hl j a b)
  · try simp only [b01_0, b01_n, bP_0, bP_n, Classical.not_not] at c4
    refine aw_iconst G dX10_goesUp_7 ?_
    exact aw_zret G T dX10_goesUp_8 (Or.inl rfl) (Or.inr ⟨rfl, by omega, rfl⟩)

set_option maxHeartbeats 4000000 in
theorem c_X10_goesPast {V : Wd} {σ : St} {ρ : St} {f : Int → Int} (hn : NetOK ρ 75) (hT : MT ρ σ f) (hf : ∀ j : Int, 0 ≤ j → j < ρ 75 1 → 0 ≤ f j ∧ f j ≤ 8) : Ct V yX10_goesPast cX10_goesPast 2 (some .boolean) 1 22 [rv V 75] σ (PI (fun r τ => (r = 1 ∧ (∃ i : Int, 1 ≤ i ∧ i < ρ 75 1 ∧ f i ≠ 0 ∧ (∀ j : Int, i < j → j < ρ 75 1 → f j = 0) ∧ MT ρ τ (upf (upf f i 0) (i - 1) (f (i - 1) + 1)))) ∨ (r = 0 ∧ (∀ j : Int, 0 < j → j < ρ 75 1 → f j = 0) ∧ Only mTr ρ τ))) := by
  refine ct_of (by decide) (Nat.le_of_ble_eq_true rfl) (fun X G T => ?_)
  have G : Gd X V cX10_goesPast RX10 2 1 22 := G
  show AW X V σ 0 [] [some (rv V 75), none]
  obtain ⟨n1, n2, n3, n4, n5, n6⟩ := id hn
  obtain ⟨hO, hw, hl, hs⟩ := id hT
  have e75 : σ 75 = ρ 75 := hO 75 (by decide)
  have loop : ∀ (n0 : Nat) (i : Int), (-1 ≤ i ∧ i < ρ 75 1) → (i + 1 < (n0 : Int)) → (∀ j : Int, i < j → j < ρ 75 1 → f j = 0) → AW X V (σ) 7 [] [some (rv V 75), some (iv i)] := by
    intro n0
    induction n0 with
    | zero =>
      intro i h0 h1 hq
      exfalso
      omega
    | succ n0 ih =>
      intro i h0 h1 hq
      refine aw_iload_n G dX10_goesPast_7 rfl ?_
      refine aw_if_lt (tgt := 26) G dX10_goesPast_8 (by decide) (by first | omega | exact b01_R _ | exact bP_R _) (fun c8 => ?_) (fun c8 => ?_)
      · refine aw_iload_n G dX10_goesPast_26 rfl ?_
        refine aw_if_ge (tgt := 32) G dX10_goesPast_27 (by decide) (by first | omega | exact b01_R _ | exact bP_R _) (fun c27 => ?_) (fun c27 => ?_)
        · exact absurd c27 (by omega)
        · refine aw_iconst G dX10_goesPast_30 ?_
          exact aw_zret G T dX10_goesPast_31 (Or.inl rfl) (Or.inr ⟨rfl, fun j a b => hq j (by omega) b, hO⟩)
      · have hfi := hf i (by omega) (by omega)
        refine aw_aload_n G dX10_goesPast_11 rfl ?_
        refine gf_X10_50 G dX10_goesPast_12 (kk := ?_)
        refine aw_iload_n G dX10_goesPast_15 rfl ?_
        refine aw_iaload G dX10_goesPast_16 (by first | decide | assumption | omega) (by first | rfl | assumption) (by first | decide | assumption) (by omega) ?_
        rw [hl i (by omega) (by omega)]
        refine aw_if_ne (tgt := 26) G dX10_goesPast_17 (by decide) (by first | omega | exact b01_R _ | exact bP_R _) (fun c17 => ?_) (fun c17 => ?_)
        · refine aw_iload_n G dX10_goesPast_26 rfl ?_
          refine aw_if_ge (tgt := 32) G dX10_goesPast_27 (by decide) (by first | omega | exact b01_R _ | exact bP_R _) (fun c27 => ?_) (fun c27 => ?_)
          · refine aw_aload_n G dX10_goesPast_32 rfl ?_
            refine gf_X10_50 G dX10_goesPast_33 (kk := ?_)
            refine aw_iload_n G dX10_goesPast_36 rfl ?_
            refine aw_iconst G dX10_goesPast_37 ?_
            refine aw_iastore G dX10_goesPast_38 (by first | decide | assumption | omega) (by first | rfl | assumption) (by first | decide | assumption) (by omega) ?_
            refine aw_iload_n G dX10_goesPast_39 rfl ?_
            refine aw_if_ne (tgt := 45) G dX10_goesPast_40 (by decide) (by first | omega | exact b01_R _ | exact bP_R _) (fun c40 => ?_) (fun c40 => ?_)
            · try simp only [b01_0, b01_n, bP_0, bP_n, Classical.not_not] at c40
              refine aw_aload_n G dX10_goesPast_45 rfl ?_
              refine gf_X10_50 G dX10_goesPast_46 (kk := ?_)
              refine aw_iload_n G dX10_goesPast_49 rfl ?_
              refine aw_iconst G dX10_goesPast_50 ?_
              refine aw_isub G dX10_goesPast_51 ?_
              refine aw_dup2 G dX10_goesPast_52 (k := ?_)
              refine aw_iaload G dX10_goesPast_53 (by first | decide | assumption | omega) (by first | rfl | assumption) (by first | decide | assumption) (by omega) ?_
              rw [up_nj (show i - 1 ≠ i by omega), hl (i - 1) (by omega) (by omega)]
              refine aw_iconst G dX10_goesPast_54 ?_
              refine aw_iadd G dX10_goesPast_55 ?_
              refine aw_iastore G dX10_goesPast_56 (by first | decide | assumption | omega) (by first | rfl | assumption) (by first | decide | assumption) (by omega) ?_
              refine aw_aload_n G dX10_goesPast_57 rfl ?_
              have e75b : up (up σ 88 i 0) 88 (i - 1) (f (i - 1) + 1) 75 = ρ 75 := (up_ne (by decide)).trans ((up_ne (by decide)).trans e75)
              refine cv_X10_144 G dX10_goesPast_58 (c_X10_laySums (by rw [e75b]; omega)) (kk := fun t58 h58 => ?_)
              obtain ⟨o1, q1⟩ := h58
              refine aw_iconst G dX10_goesPast_61 ?_
              exact aw_zret G T dX10_goesPast_62 (Or.inr rfl) (by
          refine Or.inl ⟨rfl, i, by omega, by omega, by omega, hq, MT_lay ((hO.up (by decide)).up (by decide)) (fun p l a b c d => by rw [up_o (by decide), up_o (by decide)]; exact hw p l a b c d) (fun j a b => ?_) o1 q1⟩
          by_cases e : j = i - 1
          · rw [e, up_at, upf_at]
          · rw [up_nj e, upf_o e]
            by_cases e2 : j = i
            · rw [e2, up_at, upf_at]
            · rw [up_nj e2, upf_o e2]
              exact hl j a b)
            · try simp only [b01_0, b01_n, bP_0, bP_n, Classical.not_not] at c40
              refine aw_iconst G dX10_goesPast_43 ?_
              exact aw_zret G T dX10_goesPast_44 (Or.inl rfl) (Or.inr ⟨rfl, fun j a b => hq j (by omega) b, hO.up (by decide)⟩)
          · exact absurd c27 (by omega)
        · refine aw_iinc_1 G dX10_goesPast_20 rfl (hc := by first | rfl | assumption) (k := ?_)
          refine aw_goto (tgt := 7) G dX10_goesPast_23 (by decide) ?_
          refine ih (i + -1) (by omega) (by omega) (fun j a b => ?_)
          by_cases e : j = i
          · rw [e]; omega
          · exact hq j (by omega) b
  refine aw_aload_n G dX10_goesPast_0 rfl ?_
  refine gf_X10_82 G dX10_goesPast_1 (kk := ?_)
  rw [e75]
  refine aw_iconst G dX10_goesPast_4 ?_
  refine aw_isub G dX10_goesPast_5 ?_
  refine aw_istore_1 G dX10_goesPast_6 (hc := by first | rfl | assumption) (k := ?_)
  exact loop ((ρ 75 1).toNat + 1) (ρ 75 1 - 1) (by omega) (by omega) (fun j a b => by omega)
