theorem sumTo_s (f : Int → Int) (n : Nat) : sumTo f (n + 1) = sumTo f n + f n := rfl
def seg (σ : St) (c : Nat) (a m : Int) (f : Int → Int) : St := fun k j => if k = c ∧ a ≤ j ∧ j < a + m then f (j - a) else σ k j
theorem seg_0 {σ : St} {c : Nat} {a : Int} {f : Int → Int} : seg σ c a 0 f = σ := by
  funext k j
  unfold seg
  rw [if_neg (by omega)]
theorem seg_o {σ : St} {c k : Nat} {a m : Int} {f : Int → Int} (h : k ≠ c) : seg σ c a m f k = σ k := by
  funext j
  unfold seg
  rw [if_neg (fun q => h q.1)]
theorem seg_i {σ : St} {c : Nat} {a m j : Int} {f : Int → Int} (h : 0 ≤ j ∧ j < m) : seg σ c a m f c (a + j) = f j := by
  unfold seg
  rw [if_pos ⟨rfl, by omega, by omega⟩, show a + j - a = j by omega]
theorem seg_s {σ : St} {c : Nat} {a m : Int} {f : Int → Int} (h : 0 ≤ m) : up (seg σ c a m f) c (a + m) (f m) = seg σ c a (m + 1) f := by
  funext k j
  unfold up seg
  by_cases h1 : k = c
  · by_cases h2 : j = a + m
    · rw [if_pos ⟨h1, h2⟩, if_pos ⟨h1, by omega, by omega⟩, show j - a = m by omega]
    · rw [if_neg (fun q => h2 q.2)]
      by_cases h3 : a ≤ j ∧ j < a + m
      · rw [if_pos ⟨h1, h3⟩, if_pos ⟨h1, by omega, by omega⟩]
      · rw [if_neg (fun q => h3 q.2), if_neg (fun q => h3 ⟨q.2.1, by omega⟩)]
  · rw [if_neg (fun q => h1 q.1), if_neg (fun q => h1 q.1), if_neg (fun q => h1 q.1)]
set_option maxHeartbeats 4000000 in
theorem c_X10_layWeights {V : Wd} {σ : St}  (hn : NetOK σ 75) : Ct V yX10_layWeights cX10_layWeights 3 none 2 43 [rv V 75] σ (PV (fun τ => Only [90] σ τ ∧ ∀ p l, 0 ≤ p → p < σ 75 0 → 0 ≤ l → l < σ 75 1 → τ 90 (8 * p + l) = nwt σ 75 p l)) := by
  refine ct_of (by decide) (Nat.le_of_ble_eq_true rfl) (fun X G T => ?_)
  have G : Gd X V cX10_layWeights RX10 3 2 43 := G
  show AW X V σ 0 [] [some (rv V 75), none, none]
  obtain ⟨n1, n2, n3, n4, n5, n6⟩ := hn
  have loop : ∀ (n0 : Nat) (i : Int) (τ : St) (u : Option Value), (0 ≤ i ∧ i ≤ σ 75 0) → (σ 75 0 < i + (n0 : Int)) → (lcat u = 1) → (Only [90] σ τ) → (∀ p l, 0 ≤ p → p < i → 0 ≤ l → l < σ 75 1 → τ 90 (8 * p + l) = nwt σ 75 p l) → AW X V (τ) 2 [] [some (rv V 75), some (iv i), u] := by
    intro n0
    induction n0 with
    | zero =>
      intro i τ u h0 h1 hu go gq
      exfalso
      omega
    | succ n0 ih =>
      intro i τ u h0 h1 hu go gq
      have e75 : τ 75 = σ 75 := go 75 (by decide)
      refine aw_iload_n G dX10_layWeights_2 rfl ?_
      refine aw_aload_n G dX10_layWeights_3 rfl ?_
      refine gf_X10_7 G dX10_layWeights_4 (kk := ?_)
      rw [e75]
      refine aw_icmp_ge (tgt := 49) G dX10_layWeights_7 (by decide) (by first | omega | exact b01_R _ | exact bP_R _) (by first | omega | exact b01_R _ | exact bP_R _) (fun c7 => ?_) (fun c7 => ?_)
      · exact aw_vret G T dX10_layWeights_49 (⟨go, fun p l a b c d => gq p l a (by omega) c d⟩)
      · refine aw_iconst G dX10_layWeights_10 ?_
        refine aw_istore_2 G dX10_layWeights_11 (k := ?_)
        have inner : ∀ (n1 : Nat) (j : Int) (τ : St), (0 ≤ j ∧ j ≤ σ 75 1) → (σ 75 1 < j + (n1 : Int)) → (Only [90] σ τ) → (∀ p l, 0 ≤ p → p < i → 0 ≤ l → l < σ 75 1 → τ 90 (8 * p + l) = nwt σ 75 p l) → (∀ l, 0 ≤ l → l < j → τ 90 (8 * i + l) = nwt σ 75 i l) → AW X V (τ) 12 [] [some (rv V 75), some (iv i), some (iv j)] := by
          intro n1
          induction n1 with
          | zero =>
            intro j τ g0 g1 go gq gl
            exfalso
            omega
          | succ n1 ih1 =>
            intro j τ g0 g1 go gq gl
            have e75 : τ 75 = σ 75 := go 75 (by decide)
            have eR : RowOK τ 75 := by
              unfold RowOK
              rw [go (75 + 1) (by decide), go (75 + 2) (by decide), go (75 + 3) (by decide), go (75 + 4) (by decide), go (75 + 5) (by decide)]
              exact n5
            have eW : ∀ p l, nwt τ 75 p l = nwt σ 75 p l := fun p l => nwt_c (by rw [go (75 + 1) (by decide)]) (by rw [go (75 + 2) (by decide)]) (by rw [go (75 + 3) (by decide)]) (by rw [go (75 + 4) (by decide)])
            refine aw_iload_n G dX10_layWeights_12 rfl ?_
            refine aw_aload_n G dX10_layWeights_13 rfl ?_
            refine gf_X10_82 G dX10_layWeights_14 (kk := ?_)
            rw [e75]
            refine aw_icmp_ge (tgt := 43) G dX10_layWeights_17 (by decide) (by first | omega | exact b01_R _ | exact bP_R _) (by first | omega | exact b01_R _ | exact bP_R _) (fun c17 => ?_) (fun c17 => ?_)
            · refine aw_iinc_1 G dX10_layWeights_43 rfl (k := ?_)
              refine aw_goto (tgt := 2) G dX10_layWeights_46 (by decide) ?_
              exact ih (i + 1) _ _ (by omega) (by omega) rfl go (fun p l a b c d => if e : p = i then by rw [e]; exact gl l c (by omega) else gq p l a (by omega) c d)
            · refine aw_aload_n G dX10_layWeights_20 rfl ?_
              refine gf_X10_56 G dX10_layWeights_21 (kk := ?_)
              refine aw_bipush G dX10_layWeights_24 (k := ?_)
              refine aw_iload_n G dX10_layWeights_26 rfl ?_
              refine aw_imul G dX10_layWeights_27 ?_
              refine aw_iload_n G dX10_layWeights_28 rfl ?_
              refine aw_iadd G dX10_layWeights_29 ?_
              refine aw_aload_n G dX10_layWeights_30 rfl ?_
              refine aw_iload_n G dX10_layWeights_31 rfl ?_
              refine aw_iload_n G dX10_layWeights_32 rfl ?_
              refine cv_X10_137 G dX10_layWeights_33 (c_X10_weight (by first | assumption | omega) (by omega) (by assumption)) (kk := fun r33 t33 h33 => ?_)
              obtain ⟨rfl, rfl⟩ := h33
              rw [eW]
              refine aw_iastore G dX10_layWeights_36 (by first | decide | assumption | omega) (by first | rfl | assumption) (by first | decide | assumption) (by omega) ?_
              refine aw_iinc_2 G dX10_layWeights_37 rfl (k := ?_)
              refine aw_goto (tgt := 12) G dX10_layWeights_40 (by decide) ?_
              refine ih1 (j + 1) _ (by omega) (by omega) (go.up (by decide)) (fun p l a b c d => ?_) (fun l a b => ?_)
              · rw [up_nj (by omega)]
                exact gq p l a b c d
              · by_cases e : l = j
                · subst e
                  exact up_at _ _ _ _
                · rw [up_nj (by omega)]
                  exact gl l a (by omega)
        exact inner ((σ 75 1).toNat + 1) 0 τ (by omega) (by omega) go gq (fun l a b => by omega)
  refine aw_iconst G dX10_layWeights_0 ?_
  refine aw_istore_1 G dX10_layWeights_1 (k := ?_)
  exact loop ((σ 75 0).toNat + 1) 0 σ _ (by omega) (by omega) rfl Only.rf (fun p l a b c d => by omega)
set_option maxHeartbeats 4000000 in
theorem c_X10_laySums {V : Wd} {σ : St}  (hn : (0 ≤ σ 75 0 ∧ σ 75 0 ≤ 7) ∧ 0 ≤ σ 75 1 ∧ σ 75 1 ≤ 8) : Ct V yX10_laySums cX10_laySums 3 none 0 0 [rv V 75] σ (PV (fun τ => Only [89] σ τ ∧ ∀ p, 0 ≤ p → p < σ 75 0 → τ 89 p = tsum (fun p l => σ 90 (8 * p + l)) (σ 88) (σ 75 1) p)) := by
  refine ct_of (by decide) (Nat.le_of_ble_eq_true rfl) (fun X G T => ?_)
  have G : Gd X V cX10_laySums RX10 3 0 0 := G
  show AW X V σ 0 [] [some (rv V 75), none, none]
  have loop : ∀ (n0 : Nat) (i : Int) (τ : St) (u : Option Value), (0 ≤ i ∧ i ≤ σ 75 0) → (σ 75 0 < i + (n0 : Int)) → (lcat u = 1) → (Only [89] σ τ) → (∀ p, 0 ≤ p → p < i → τ 89 p = tsum (fun p l => σ 90 (8 * p + l)) (σ 88) (σ 75 1) p) → AW X V (τ) 2 [] [some (rv V 75), some (iv i), u] := by
    intro n0
    induction n0 with
    | zero =>
      intro i τ u h0 h1 hu go gq
      exfalso
      omega
    | succ n0 ih =>
      intro i τ u h0 h1 hu go gq
      have e75 : τ 75 = σ 75 := go 75 (by decide)
      refine aw_iload_n G dX10_laySums_2 rfl ?_
      refine aw_aload_n G dX10_laySums_3 rfl ?_
      refine gf_X10_7 G dX10_laySums_4 (kk := ?_)
      rw [e75]
      refine aw_icmp_ge (tgt := 66) G dX10_laySums_7 (by decide) (by first | omega | exact b01_R _ | exact bP_R _) (by first | omega | exact b01_R _ | exact bP_R _) (fun c7 => ?_) (fun c7 => ?_)
      · exact aw_vret G T dX10_laySums_66 (⟨go, fun p a b => gq p a (by omega)⟩)
      · refine aw_aload_n G dX10_laySums_10 rfl ?_
        refine gf_X10_53 G dX10_laySums_11 (kk := ?_)
        refine aw_iload_n G dX10_laySums_14 rfl ?_
        refine aw_iconst G dX10_laySums_15 ?_
        refine aw_iastore G dX10_laySums_16 (by first | decide | assumption | omega) (by first | rfl | assumption) (by first | decide | assumption) (by omega) ?_
        refine aw_iconst G dX10_laySums_17 ?_
        refine aw_istore_2 G dX10_laySums_18 (k := ?_)
        have inner : ∀ (n1 : Nat) (j : Int) (τ : St), (0 ≤ j ∧ j ≤ σ 75 1) → (σ 75 1 < j + (n1 : Int)) → (Only [89] σ τ) → (∀ p, 0 ≤ p → p < i → τ 89 p = tsum (fun p l => σ 90 (8 * p + l)) (σ 88) (σ 75 1) p) → (τ 89 i = sumTo (fun l => σ 90 (8 * i + l) * σ 88 l) j.toNat) → AW X V (τ) 19 [] [some (rv V 75), some (iv i), some (iv j)] := by
          intro n1
          induction n1 with
          | zero =>
            intro j τ g0 g1 go gq gl
            exfalso
            omega
          | succ n1 ih1 =>
            intro j τ g0 g1 go gq gl
            have e75 : τ 75 = σ 75 := go 75 (by decide)
            have e88 : τ 88 = σ 88 := go 88 (by decide)
            have e90 : τ 90 = σ 90 := go 90 (by decide)
            refine aw_iload_n G dX10_laySums_19 rfl ?_
            refine aw_aload_n G dX10_laySums_20 rfl ?_
            refine gf_X10_82 G dX10_laySums_21 (kk := ?_)
            rw [e75]
            refine aw_icmp_ge (tgt := 60) G dX10_laySums_24 (by decide) (by first | omega | exact b01_R _ | exact bP_R _) (by first | omega | exact b01_R _ | exact bP_R _) (fun c24 => ?_) (fun c24 => ?_)
            · refine aw_iinc_1 G dX10_laySums_60 rfl (k := ?_)
              refine aw_goto (tgt := 2) G dX10_laySums_63 (by decide) ?_
              exact ih (i + 1) _ _ (by omega) (by omega) rfl go (fun p a b => if e : p = i then by rw [e, gl, show j = σ 75 1 by omega]; rfl else gq p a (by omega))
            · refine aw_aload_n G dX10_laySums_27 rfl ?_
              refine gf_X10_53 G dX10_laySums_28 (kk := ?_)
              refine aw_iload_n G dX10_laySums_31 rfl ?_
              refine aw_dup2 G dX10_laySums_32 (k := ?_)
              refine aw_iaload G dX10_laySums_33 (by first | decide | assumption | omega) (by first | rfl | assumption) (by first | decide | assumption) (by omega) ?_
              refine aw_aload_n G dX10_laySums_34 rfl ?_
              refine gf_X10_50 G dX10_laySums_35 (kk := ?_)
              refine aw_iload_n G dX10_laySums_38 rfl ?_
              refine aw_iaload G dX10_laySums_39 (by first | decide | assumption | omega) (by first | rfl | assumption) (by first | decide | assumption) (by omega) ?_
              rw [e88]
              refine aw_aload_n G dX10_laySums_40 rfl ?_
              refine gf_X10_56 G dX10_laySums_41 (kk := ?_)
              refine aw_bipush G dX10_laySums_44 (k := ?_)
              refine aw_iload_n G dX10_laySums_46 rfl ?_
              refine aw_imul G dX10_laySums_47 ?_
              refine aw_iload_n G dX10_laySums_48 rfl ?_
              refine aw_iadd G dX10_laySums_49 ?_
              refine aw_iaload G dX10_laySums_50 (by first | decide | assumption | omega) (by first | rfl | assumption) (by first | decide | assumption) (by omega) ?_
              rw [e90]
              refine aw_imul G dX10_laySums_51 ?_
              refine aw_iadd G dX10_laySums_52 ?_
              refine aw_iastore G dX10_laySums_53 (by first | decide | assumption | omega) (by first | rfl | assumption) (by first | decide | assumption) (by omega) ?_
              refine aw_iinc_2 G dX10_laySums_54 rfl (k := ?_)
              refine aw_goto (tgt := 19) G dX10_laySums_57 (by decide) ?_
              refine ih1 (j + 1) _ (by omega) (by omega) (go.up (by decide)) (fun p a b => ?_) ?_
              · rw [up_nj (by omega)]
                exact gq p a b
              · rw [up_at, gl, show (j + 1).toNat = j.toNat + 1 by omega, sumTo_s, show ((j.toNat : Nat) : Int) = j by omega, Int.mul_comm (σ 88 j)]
        exact inner ((σ 75 1).toNat + 1) 0 _ (by omega) (by omega) (go.up (by decide)) (fun p a b => by rw [up_nj (by omega)]; exact gq p a b) (by rw [up_at]; rfl)
  refine aw_iconst G dX10_laySums_0 ?_
  refine aw_istore_1 G dX10_laySums_1 (k := ?_)
  exact loop ((σ 75 0).toNat + 1) 0 σ _ (by omega) (by omega) rfl Only.rf (fun p a b => by omega)
theorem NetOK.only {σ τ : St} {ks : List Nat} (h : Only ks σ τ) (hk : 75 ∉ ks ∧ 76 ∉ ks ∧ 77 ∉ ks ∧ 78 ∉ ks ∧ 79 ∉ ks ∧ 80 ∉ ks) (q : NetOK σ 75) : NetOK τ 75 := by
  unfold NetOK RowOK at q ⊢
  rw [h 75 hk.1, h (75 + 1) hk.2.1, h (75 + 2) hk.2.2.1, h (75 + 3) hk.2.2.2.1, h (75 + 4) hk.2.2.2.2.1, h (75 + 5) hk.2.2.2.2.2]
  exact q
theorem nwt_only {σ τ : St} {ks : List Nat} (h : Only ks σ τ) (hk : 75 ∉ ks ∧ 76 ∉ ks ∧ 77 ∉ ks ∧ 78 ∉ ks ∧ 79 ∉ ks ∧ 80 ∉ ks) : nwt τ 75 = nwt σ 75 := by
  funext p l
  exact nwt_c (by rw [h (75 + 1) hk.2.1]) (by rw [h (75 + 2) hk.2.2.1]) (by rw [h (75 + 3) hk.2.2.2.1]) (by rw [h (75 + 4) hk.2.2.2.2.1])
set_option maxHeartbeats 4000000 in
theorem c_X10_layNow {V : Wd} {σ : St}  (hn : NetOK σ 75) : Ct V yX10_layNow cX10_layNow 2 none 3 65 [rv V 75] σ (PV (fun τ => Only mScr σ τ ∧ ∀ p, 0 ≤ p → p < σ 75 0 → τ 89 p = nsum σ 75 p)) := by
  refine ct_of (by decide) (Nat.le_of_ble_eq_true rfl) (fun X G T => ?_)
  have G : Gd X V cX10_layNow RX10 2 3 65 := G
  show AW X V σ 0 [] [some (rv V 75), none]
  obtain ⟨n1, n2, n3, n4, n5, n6⟩ := id hn
  have loop : ∀ (n0 : Nat) (i : Int), (0 ≤ i ∧ i ≤ σ 75 1) → (σ 75 1 < i + (n0 : Int)) → AW X V (fill σ 88 i (σ 80)) 2 [] [some (rv V 75), some (iv i)] := by
    intro n0
    induction n0 with
    | zero =>
      intro i h0 h1
      exfalso
      omega
    | succ n0 ih =>
      intro i h0 h1
      refine aw_iload_n G dX10_layNow_2 rfl ?_
      refine aw_aload_n G dX10_layNow_3 rfl ?_
      refine gf_X10_82 G dX10_layNow_4 (kk := ?_)
      rw [fill_o (show (75:Nat) ≠ 88 by decide)]
      refine aw_icmp_ge (tgt := 28) G dX10_layNow_7 (by decide) (by first | omega | exact b01_R _ | exact bP_R _) (by first | omega | exact b01_R _ | exact bP_R _) (fun c7 => ?_) (fun c7 => ?_)
      · have oo : Only mScr σ (fill σ 88 i (σ 80)) := fun k hk => fill_r (fun e => hk (by rw [e]; decide))
        have nn : NetOK (fill σ 88 i (σ 80)) 75 := NetOK.only oo (by decide) hn
        refine aw_aload_n G dX10_layNow_28 rfl ?_
        refine cv_X10_141 G dX10_layNow_29 (c_X10_layWeights nn) (kk := fun t29 h29 => ?_)
        obtain ⟨o1, q1⟩ := h29
        refine aw_aload_n G dX10_layNow_32 rfl ?_
        have e75 := o1 75 (by decide)
        refine cv_X10_144 G dX10_layNow_33 (c_X10_laySums (by rw [e75, fill_r (show (75:Nat) ≠ 88 by decide)]; omega)) (kk := fun t33 h33 => ?_)
        obtain ⟨o2, q2⟩ := h33
        refine aw_vret G T dX10_layNow_36 ⟨fun k hk => by rw [o2 k (fun e => hk (by revert e; simp; intro e; simp [e])), o1 k (fun e => hk (by revert e; simp; intro e; simp [e])), oo k hk], fun p a b => ?_⟩
        rw [q2 p a (by rw [e75, fill_r (show (75:Nat) ≠ 88 by decide)]; exact b), nsum_t, e75, fill_r (show (75:Nat) ≠ 88 by decide)]
        refine tsum_c fun l c d => ⟨?_, ?_⟩
        · rw [q1 p l a (by rw [fill_r (show (75:Nat) ≠ 88 by decide)]; exact b) c (by rw [fill_r (show (75:Nat) ≠ 88 by decide)]; exact d), nwt_only oo (by decide)]
        · rw [o1 88 (by decide), fill_i (by omega)]
      · refine aw_aload_n G dX10_layNow_10 rfl ?_
        refine gf_X10_50 G dX10_layNow_11 (kk := ?_)
        refine aw_iload_n G dX10_layNow_14 rfl ?_
        refine aw_aload_n G dX10_layNow_15 rfl ?_
        refine gf_X10_26 G dX10_layNow_16 (kk := ?_)
        refine aw_iload_n G dX10_layNow_19 rfl ?_
        refine aw_iaload G dX10_layNow_20 (by first | decide | assumption | omega) (by first | rfl | assumption) (by first | decide | assumption) (by omega) ?_
        rw [fill_o (show (80:Nat) ≠ 88 by decide)]
        refine aw_iastore G dX10_layNow_21 (by first | decide | assumption | omega) (by first | rfl | assumption) (by first | decide | assumption) (by omega) ?_
        refine aw_iinc_1 G dX10_layNow_22 rfl (k := ?_)
        refine aw_goto (tgt := 2) G dX10_layNow_25 (by decide) ?_
        rw [show up (fill σ 88 i (σ 80)) 88 i (σ 80 i) = fill σ 88 (i + 1) (σ 80) from fill_s (by omega)]
        exact ih (i + 1) (by omega) (by omega)
  refine aw_iconst G dX10_layNow_0 ?_
  refine aw_istore_1 G dX10_layNow_1 (k := ?_)
  have := loop ((σ 75 1).toNat + 1) 0 (by omega) (by omega)
  rw [fill_0] at this
  exact this
set_option maxHeartbeats 4000000 in
theorem c_X10_sum {V : Wd} {σ : St} {p : Int} (h1 : inR p) (hk : OK σ) : Ct V yX10_sum cX10_sum 2 (some .int) 4 86 [rv V 75, iv p] σ (PI (fun r τ => r = an_sum σ p ∧ ME τ (nx_sum σ p))) := by
  refine ct_of (by decide) (Nat.le_of_ble_eq_true rfl) (fun X G T => ?_)
  have G : Gd X V cX10_sum RX10 2 4 86 := G
  show AW X V σ 0 [] [some (rv V 75), some (iv p)]
  obtain ⟨⟨n1, n2, n3, n4, n5, n6⟩, u1, l1, l2, i1, s1, w1⟩ := id hk
  refine aw_aload_n G dX10_sum_0 rfl ?_
  refine aw_iload_n G dX10_sum_1 rfl ?_
  refine cv_X10_100 G dX10_sum_2 (c_X10_isPoint (by first | assumption | omega) (by omega)) (kk := fun r2 t2 h2 => ?_)
  obtain ⟨rfl, rfl⟩ := h2
  refine aw_if_ne (tgt := 14) G dX10_sum_5 (by decide) (by first | omega | exact b01_R _ | exact bP_R _) (fun c5 => ?_) (fun c5 => ?_)
  · try simp only [b01_0, b01_n, bP_0, bP_n, Classical.not_not] at c5
    refine aw_aload_n G dX10_sum_14 rfl ?_
    refine cv_X10_158 G dX10_sum_15 (c_X10_layNow ⟨n1, n2, n3, n4, n5, n6⟩) (kk := fun t15 h15 => ?_)
    obtain ⟨o15, q15⟩ := h15
    refine aw_aload_n G dX10_sum_18 rfl ?_
    refine gf_X10_53 G dX10_sum_19 (kk := ?_)
    refine aw_iload_n G dX10_sum_22 rfl ?_
    have hz := q15 p (by omega) (by omega)
    refine aw_iaload G dX10_sum_23 (by first | decide | assumption | omega) (by first | rfl | assumption) (by first | decide | assumption) (by omega) ?_
    exact aw_iret G T dX10_sum_24 (⟨by rw [hz]; unfold an_sum; rw [if_pos (by omega)], by unfold nx_sum; rw [if_pos (by omega)]; exact ME.only o15⟩)
  · try simp only [b01_0, b01_n, bP_0, bP_n, Classical.not_not] at c5
    refine aw_aload_n G dX10_sum_8 rfl ?_
    refine aw_iconst G dX10_sum_9 ?_
    refine cv_X10_87 G dX10_sum_10 (c_X10_refused (by decide)) (kk := fun r10 t10 h10 => ?_)
    obtain ⟨rfl, rfl⟩ := h10
    exact aw_iret G T dX10_sum_13 (⟨by unfold an_sum; (repeat' split) <;> first | rfl | (exfalso; omega) | omega, by unfold nx_sum; (repeat' split) <;> first | exact ME.rf _ | (exfalso; omega)⟩)

set_option maxHeartbeats 4000000 in
theorem c_X10_totalNow {V : Wd} {σ : St}  (hn : 0 ≤ σ 75 0 ∧ σ 75 0 ≤ 7) : Ct V yX10_totalNow cX10_totalNow 3 (some .int) 0 0 [rv V 75] σ (PI (fun r τ => r = sumTo (σ 89) (σ 75 0).toNat ∧ τ = σ)) := by
  refine ct_of (by decide) (Nat.le_of_ble_eq_true rfl) (fun X G T => ?_)
  have G : Gd X V cX10_totalNow RX10 3 0 0 := G
  show AW X V σ 0 [] [some (rv V 75), none, none]
  have loop : ∀ (n0 : Nat) (i : Int), (0 ≤ i ∧ i ≤ σ 75 0) → (σ 75 0 < i + (n0 : Int)) → AW X V (σ) 4 [] [some (rv V 75), some (iv (sumTo (σ 89) i.toNat)), some (iv i)] := by
    intro n0
    induction n0 with
    | zero =>
      intro i h0 h1
      exfalso
      omega
    | succ n0 ih =>
      intro i h0 h1
      refine aw_iload_n G dX10_totalNow_4 rfl ?_
      refine aw_aload_n G dX10_totalNow_5 rfl ?_
      refine gf_X10_7 G dX10_totalNow_6 (kk := ?_)
      refine aw_icmp_ge (tgt := 27) G dX10_totalNow_9 (by decide) (by first | omega | exact b01_R _ | exact bP_R _) (by first | omega | exact b01_R _ | exact bP_R _) (fun c9 => ?_) (fun c9 => ?_)
      · refine aw_iload_n G dX10_totalNow_27 rfl ?_
        exact aw_iret G T dX10_totalNow_28 (⟨by rw [show i = σ 75 0 by omega], rfl⟩)
      · refine aw_iload_n G dX10_totalNow_12 rfl ?_
        refine aw_aload_n G dX10_totalNow_13 rfl ?_
        refine gf_X10_53 G dX10_totalNow_14 (kk := ?_)
        refine aw_iload_n G dX10_totalNow_17 rfl ?_
        refine aw_iaload G dX10_totalNow_18 (by first | decide | assumption | omega) (by first | rfl | assumption) (by first | decide | assumption) (by omega) ?_
        refine aw_iadd G dX10_totalNow_19 ?_
        refine aw_istore_1 G dX10_totalNow_20 (k := ?_)
        refine aw_iinc_2 G dX10_totalNow_21 rfl (k := ?_)
        refine aw_goto (tgt := 4) G dX10_totalNow_24 (by decide) ?_
        have hz := ih (i + 1) (by omega) (by omega)
        rw [show (i + 1).toNat = i.toNat + 1 by omega] at hz
        unfold sumTo at hz
        rw [show ((i.toNat : Nat) : Int) = i by omega] at hz
        exact hz
  refine aw_iconst G dX10_totalNow_0 ?_
  refine aw_istore_1 G dX10_totalNow_1 (k := ?_)
  refine aw_iconst G dX10_totalNow_2 ?_
  refine aw_istore_2 G dX10_totalNow_3 (k := ?_)
  exact loop ((σ 75 0).toNat + 1) 0 (by omega) (by omega)
set_option maxHeartbeats 4000000 in
theorem c_X10_total {V : Wd} {σ : St}  (hk : OK σ) : Ct V yX10_total cX10_total 1 (some .int) 4 86 [rv V 75] σ (PI (fun r τ => r = an_total σ ∧ ME τ σ)) := by
  refine ct_of (by decide) (Nat.le_of_ble_eq_true rfl) (fun X G T => ?_)
  have G : Gd X V cX10_total RX10 1 4 86 := G
  show AW X V σ 0 [] [some (rv V 75)]
  obtain ⟨⟨n1, n2, n3, n4, n5, n6⟩, u1, l1, l2, i1, s1, w1⟩ := id hk
  refine aw_aload_n G dX10_total_0 rfl ?_
  refine cv_X10_158 G dX10_total_1 (c_X10_layNow ⟨n1, n2, n3, n4, n5, n6⟩) (kk := fun t1 h1 => ?_)
  obtain ⟨o1, q1⟩ := h1
  refine aw_aload_n G dX10_total_4 rfl ?_
  have e75 := o1 75 (by decide)
  refine cv_X10_161 G dX10_total_5 (c_X10_totalNow (by rw [e75]; omega)) (kk := fun r5 t5 h5 => ?_)
  obtain ⟨e1, e2⟩ := h5
  exact aw_iret G T dX10_total_8 (⟨by rw [e1, e75]; unfold an_total; exact sumTo_c (fun i a b => q1 i a (by omega)), by rw [e2]; exact ME.only o1⟩)

set_option maxHeartbeats 4000000 in
theorem c_X10_rule {V : Wd} {σ : St} {ru : Int} (h1 : inR ru) (hk : OK σ) : Ct V yX10_rule cX10_rule 2 (some .int) 4 86 [rv V 75, iv ru] σ (PI (fun r τ => r = an_rule σ ru ∧ ME τ (nx_rule σ ru))) := by
  refine ct_of (by decide) (Nat.le_of_ble_eq_true rfl) (fun X G T => ?_)
  have G : Gd X V cX10_rule RX10 2 4 86 := G
  show AW X V σ 0 [] [some (rv V 75), some (iv ru)]
  obtain ⟨⟨n1, n2, n3, n4, n5, n6⟩, u1, l1, l2, i1, s1, w1⟩ := id hk
  refine aw_iload_n G dX10_rule_0 rfl ?_
  refine aw_iconst G dX10_rule_1 ?_
  refine aw_iconst G dX10_rule_2 ?_
  refine cs_X10_78 G dX10_rule_3 (c_X10_in (by first | assumption | omega) (by first | assumption | omega) (by first | assumption | omega)) (kk := fun r3 t3 h3 => ?_)
  obtain ⟨rfl, rfl⟩ := h3
  refine aw_if_ne (tgt := 16) G dX10_rule_6 (by decide) (by first | omega | exact b01_R _ | exact bP_R _) (fun c6 => ?_) (fun c6 => ?_)
  · try simp only [b01_0, b01_n, bP_0, bP_n, Classical.not_not] at c6
    refine aw_aload_n G dX10_rule_16 rfl ?_
    refine cv_X10_158 G dX10_rule_17 (c_X10_layNow ⟨n1, n2, n3, n4, n5, n6⟩) (kk := fun t17 h17 => ?_)
    obtain ⟨o17, q17⟩ := h17
    have e75 := o17 75 (by decide)
    have hRs : ∀ i, 0 ≤ i → i < t17 75 0 → inR (t17 89 i) := fun i a b => by
      rw [e75] at b
      rw [q17 i a b]
      have := nsum_R n5 ⟨n3, n4⟩ i
      omega
    refine aw_iload_n G dX10_rule_20 rfl ?_
    refine aw_aload_n G dX10_rule_21 rfl ?_
    refine gf_X10_53 G dX10_rule_22 (kk := ?_)
    refine aw_aload_n G dX10_rule_25 rfl ?_
    refine gf_X10_7 G dX10_rule_26 (kk := ?_)
    refine cs_X10_164 G dX10_rule_29 (c_X10_isSo (N := 7) (by decide) rfl (by decide) (by rw [e75]; omega) hRs (by omega) (by rw [e75]; omega)) (kk := fun r29 t29 h29 => ?_)
    obtain ⟨e1, e2⟩ := h29
    refine aw_if_eq (tgt := 39) G dX10_rule_32 (by decide) (by rw [e1]; exact bP_R _) (fun c32 => ?_) (fun c32 => ?_)
    · try simp only [b01_0, b01_n, bP_0, bP_n, Classical.not_not] at c32
      refine aw_iconst G dX10_rule_39 ?_
      exact aw_iret G T dX10_rule_40 (⟨by unfold an_rule; rw [if_pos (by omega)]; rw [e1] at c32; simp only [bP_0, bP_n, Classical.not_not] at c32; rw [e75] at c32; first | exact (bP_t ((ruleP_c q17).mp c32)).symm | exact (bP_f (fun z => c32 ((ruleP_c q17).mpr z))).symm, by unfold nx_rule; rw [if_pos (by omega), e2]; exact ME.only o17⟩)
    · try simp only [b01_0, b01_n, bP_0, bP_n, Classical.not_not] at c32
      refine aw_iconst G dX10_rule_35 ?_
      refine aw_goto (tgt := 40) G dX10_rule_36 (by decide) ?_
      exact aw_iret G T dX10_rule_40 (⟨by unfold an_rule; rw [if_pos (by omega)]; rw [e1] at c32; simp only [bP_0, bP_n, Classical.not_not] at c32; rw [e75] at c32; first | exact (bP_t ((ruleP_c q17).mp c32)).symm | exact (bP_f (fun z => c32 ((ruleP_c q17).mpr z))).symm, by unfold nx_rule; rw [if_pos (by omega), e2]; exact ME.only o17⟩)
  · try simp only [b01_0, b01_n, bP_0, bP_n, Classical.not_not] at c6
    refine aw_aload_n G dX10_rule_9 rfl ?_
    refine aw_bipush G dX10_rule_10 (k := ?_)
    refine cv_X10_87 G dX10_rule_12 (c_X10_refused (by decide)) (kk := fun r12 t12 h12 => ?_)
    obtain ⟨rfl, rfl⟩ := h12
    exact aw_iret G T dX10_rule_15 (⟨by unfold an_rule; (repeat' split) <;> first | rfl | (exfalso; omega) | omega, by unfold nx_rule; (repeat' split) <;> first | exact ME.rf _ | (exfalso; omega)⟩)

theorem ahd_b (f : Int → Int) (p : Int) : ∀ n : Nat, 0 ≤ sumTo (ahd f p) n ∧ sumTo (ahd f p) n ≤ n
  | 0 => by unfold sumTo; omega
  | n + 1 => by
    have := ahd_b f p n
    have h2 := bP_01 (f p < f n ∨ f n = f p ∧ (n : Int) < p)
    unfold sumTo
    unfold ahd at this ⊢
    omega
set_option maxHeartbeats 4000000 in
theorem c_X10_ranked {V : Wd} {σ : St} {k : Int} (h1 : inR k) (hk : OK σ) : Ct V yX10_ranked cX10_ranked 5 (some .int) 4 86 [rv V 75, iv k] σ (PI (fun r τ => r = an_ranked σ k ∧ ME τ (nx_ranked σ k))) := by
  refine ct_of (by decide) (Nat.le_of_ble_eq_true rfl) (fun X G T => ?_)
  have G : Gd X V cX10_ranked RX10 5 4 86 := G
  show AW X V σ 0 [] [some (rv V 75), some (iv k), none, none, none]
  obtain ⟨⟨n1, n2, n3, n4, n5, n6⟩, u1, l1, l2, i1, s1, w1⟩ := id hk
  have after : ∀ τ : St, Only mScr σ τ → (∀ p, 0 ≤ p → p < σ 75 0 → τ 89 p = nsum σ 75 p) → 0 ≤ k → AW X V τ 15 [] [some (rv V 75), some (iv k), none, none, none] := by
    intro τ ho hS hk0
    have e75 := ho 75 (by decide)
    have hRs : ∀ i, 0 ≤ i → i < σ 75 0 → inR (τ 89 i) := fun i a b => by
      rw [hS i a b]
      have := nsum_R n5 ⟨n3, n4⟩ i
      omega
    have loop : ∀ (n0 : Nat) (i : Int) (u : Option Value) (v : Option Value), (0 ≤ i ∧ i ≤ σ 75 0) → (σ 75 0 < i + (n0 : Int)) → (lcat u = 1) → (lcat v = 1) → (fstP (fun p => sumTo (ahd (nsum σ 75) p) (σ 75 0).toNat = k) (σ 75 0 - i).toNat i = fstP (fun p => sumTo (ahd (nsum σ 75) p) (σ 75 0).toNat = k) (σ 75 0).toNat 0) → AW X V (τ) 17 [] [some (rv V 75), some (iv k), some (iv i), u, v] := by
      intro n0
      induction n0 with
      | zero =>
        intro i u v h0 h1 hu hv hq
        exfalso
        omega
      | succ n0 ih =>
        intro i u v h0 h1 hu hv hq
        refine aw_iload_n G dX10_ranked_17 rfl ?_
        refine aw_aload_n G dX10_ranked_18 rfl ?_
        refine gf_X10_7 G dX10_ranked_19 (kk := ?_)
        rw [e75]
        refine aw_icmp_ge (tgt := 104) G dX10_ranked_22 (by decide) (by first | omega | exact b01_R _ | exact bP_R _) (by first | omega | exact b01_R _ | exact bP_R _) (fun c22 => ?_) (fun c22 => ?_)
        · refine aw_bipush G dX10_ranked_104 (k := ?_)
          exact aw_iret G T dX10_ranked_106 (⟨by unfold an_ranked; rw [if_neg (by omega), ← hq, show (σ 75 0 - i).toNat = 0 by omega]; rfl, by unfold nx_ranked; rw [if_neg (by omega)]; exact ME.only ho⟩)
        · refine aw_iconst G dX10_ranked_25 ?_
          refine aw_istore_3 G dX10_ranked_26 (k := ?_)
          refine aw_iconst G dX10_ranked_27 ?_
          refine aw_istore_4 G dX10_ranked_28 (k := ?_)
          have inner : ∀ (n1 : Nat) (j : Int), (0 ≤ j ∧ j ≤ σ 75 0 ∧ i < σ 75 0) → (σ 75 0 < j + (n1 : Int)) → AW X V (τ) 30 [] [some (rv V 75), some (iv k), some (iv i), some (iv (sumTo (ahd (τ 89) i) j.toNat)), some (iv j)] := by
            intro n1
            induction n1 with
            | zero =>
              intro j g0 g1
              exfalso
              omega
            | succ n1 ih1 =>
              intro j g0 g1
              refine aw_iload G dX10_ranked_30 rfl ?_
              refine aw_aload_n G dX10_ranked_32 rfl ?_
              refine gf_X10_7 G dX10_ranked_33 (kk := ?_)
              rw [e75]
              refine aw_icmp_ge (tgt := 91) G dX10_ranked_36 (by decide) (by first | omega | exact b01_R _ | exact bP_R _) (by first | omega | exact b01_R _ | exact bP_R _) (fun c36 => ?_) (fun c36 => ?_)
              · refine aw_iload_n G dX10_ranked_91 rfl ?_
                refine aw_iload_n G dX10_ranked_92 rfl ?_
                refine aw_icmp_ne (tgt := 98) G dX10_ranked_93 (by decide) (by have := ahd_b (τ 89) i j.toNat; omega) (by first | omega | exact b01_R _ | exact bP_R _) (fun c93 => ?_) (fun c93 => ?_)
                · refine aw_iinc_2 G dX10_ranked_98 rfl (k := ?_)
                  refine aw_goto (tgt := 17) G dX10_ranked_101 (by decide) ?_
                  refine ih (i + 1) _ _ (by omega) (by omega) rfl rfl ?_
                  rw [← hq, show (σ 75 0 - i).toNat = (σ 75 0 - (i + 1)).toNat + 1 by omega, fstP_f]
                  intro e
                  refine c93 ?_
                  rw [← e, show j = σ 75 0 by omega]
                  exact ahd_c ⟨by omega, by omega⟩ hS
                · refine aw_iload_n G dX10_ranked_96 rfl ?_
                  exact aw_iret G T dX10_ranked_97 (⟨by unfold an_ranked; rw [if_neg (by omega), ← hq, show (σ 75 0 - i).toNat = (σ 75 0 - i - 1).toNat + 1 by omega, fstP_t]; rw [← c93, show j = σ 75 0 by omega]; exact (ahd_c ⟨by omega, by omega⟩ hS).symm, by unfold nx_ranked; rw [if_neg (by omega)]; exact ME.only ho⟩)
              · refine aw_iload_n G dX10_ranked_39 rfl ?_
                refine aw_aload_n G dX10_ranked_40 rfl ?_
                refine gf_X10_53 G dX10_ranked_41 (kk := ?_)
                refine aw_iload G dX10_ranked_44 rfl ?_
                refine aw_iaload G dX10_ranked_46 (by first | decide | assumption | omega) (by first | rfl | assumption) (by first | decide | assumption) (by omega) ?_
                refine aw_aload_n G dX10_ranked_47 rfl ?_
                refine gf_X10_53 G dX10_ranked_48 (kk := ?_)
                refine aw_iload_n G dX10_ranked_51 rfl ?_
                refine aw_iaload G dX10_ranked_52 (by first | decide | assumption | omega) (by first | rfl | assumption) (by first | decide | assumption) (by omega) ?_
                refine aw_icmp_gt (tgt := 78) G dX10_ranked_53 (by decide) (by exact hRs _ (by omega) (by omega)) (by exact hRs _ (by omega) (by omega)) (fun c53 => ?_) (fun c53 => ?_)
                · refine aw_iconst G dX10_ranked_78 ?_
                  refine aw_goto (tgt := 83) G dX10_ranked_79 (by decide) ?_
                  refine aw_iadd G dX10_ranked_83 ?_
                  refine aw_istore_3 G dX10_ranked_84 (k := ?_)
                  refine aw_iinc_4 G dX10_ranked_85 rfl (k := ?_)
                  refine aw_goto (tgt := 30) G dX10_ranked_88 (by decide) ?_
                  have hz := ih1 (j + 1) (by omega) (by omega)
                  rw [show (j + 1).toNat = j.toNat + 1 by omega] at hz
                  unfold sumTo at hz
                  rw [show ((j.toNat : Nat) : Int) = j by omega] at hz
                  first | (rw [show ahd (τ 89) i j = 1 from bP_t (by first | exact Or.inl c53 | exact Or.inr ⟨c69, by omega⟩)] at hz; exact hz) | (rw [show ahd (τ 89) i j = 0 from bP_f (by rintro (q | ⟨q1, q2⟩) <;> omega)] at hz; exact hz)
                · refine aw_aload_n G dX10_ranked_56 rfl ?_
                  refine gf_X10_53 G dX10_ranked_57 (kk := ?_)
                  refine aw_iload G dX10_ranked_60 rfl ?_
                  refine aw_iaload G dX10_ranked_62 (by first | decide | assumption | omega) (by first | rfl | assumption) (by first | decide | assumption) (by omega) ?_
                  refine aw_aload_n G dX10_ranked_63 rfl ?_
                  refine gf_X10_53 G dX10_ranked_64 (kk := ?_)
                  refine aw_iload_n G dX10_ranked_67 rfl ?_
                  refine aw_iaload G dX10_ranked_68 (by first | decide | assumption | omega) (by first | rfl | assumption) (by first | decide | assumption) (by omega) ?_
                  refine aw_icmp_ne (tgt := 82) G dX10_ranked_69 (by decide) (by exact hRs _ (by omega) (by omega)) (by exact hRs _ (by omega) (by omega)) (fun c69 => ?_) (fun c69 => ?_)
                  · refine aw_iconst G dX10_ranked_82 ?_
                    refine aw_iadd G dX10_ranked_83 ?_
                    refine aw_istore_3 G dX10_ranked_84 (k := ?_)
                    refine aw_iinc_4 G dX10_ranked_85 rfl (k := ?_)
                    refine aw_goto (tgt := 30) G dX10_ranked_88 (by decide) ?_
                    have hz := ih1 (j + 1) (by omega) (by omega)
                    rw [show (j + 1).toNat = j.toNat + 1 by omega] at hz
                    unfold sumTo at hz
                    rw [show ((j.toNat : Nat) : Int) = j by omega] at hz
                    first | (rw [show ahd (τ 89) i j = 1 from bP_t (by first | exact Or.inl c53 | exact Or.inr ⟨c69, by omega⟩)] at hz; exact hz) | (rw [show ahd (τ 89) i j = 0 from bP_f (by rintro (q | ⟨q1, q2⟩) <;> omega)] at hz; exact hz)
                  · refine aw_iload G dX10_ranked_72 rfl ?_
                    refine aw_iload_n G dX10_ranked_74 rfl ?_
                    refine aw_icmp_ge (tgt := 82) G dX10_ranked_75 (by decide) (by first | omega | exact b01_R _ | exact bP_R _) (by first | omega | exact b01_R _ | exact bP_R _) (fun c75 => ?_) (fun c75 => ?_)
                    · refine aw_iconst G dX10_ranked_82 ?_
                      refine aw_iadd G dX10_ranked_83 ?_
                      refine aw_istore_3 G dX10_ranked_84 (k := ?_)
                      refine aw_iinc_4 G dX10_ranked_85 rfl (k := ?_)
                      refine aw_goto (tgt := 30) G dX10_ranked_88 (by decide) ?_
                      have hz := ih1 (j + 1) (by omega) (by omega)
                      rw [show (j + 1).toNat = j.toNat + 1 by omega] at hz
                      unfold sumTo at hz
                      rw [show ((j.toNat : Nat) : Int) = j by omega] at hz
                      first | (rw [show ahd (τ 89) i j = 1 from bP_t (by first | exact Or.inl c53 | exact Or.inr ⟨c69, by omega⟩)] at hz; exact hz) | (rw [show ahd (τ 89) i j = 0 from bP_f (by rintro (q | ⟨q1, q2⟩) <;> omega)] at hz; exact hz)
                    · refine aw_iconst G dX10_ranked_78 ?_
                      refine aw_goto (tgt := 83) G dX10_ranked_79 (by decide) ?_
                      refine aw_iadd G dX10_ranked_83 ?_
                      refine aw_istore_3 G dX10_ranked_84 (k := ?_)
                      refine aw_iinc_4 G dX10_ranked_85 rfl (k := ?_)
                      refine aw_goto (tgt := 30) G dX10_ranked_88 (by decide) ?_
                      have hz := ih1 (j + 1) (by omega) (by omega)
                      rw [show (j + 1).toNat = j.toNat + 1 by omega] at hz
                      unfold sumTo at hz
                      rw [show ((j.toNat : Nat) : Int) = j by omega] at hz
                      first | (rw [show ahd (τ 89) i j = 1 from bP_t (by first | exact Or.inl c53 | exact Or.inr ⟨c69, by omega⟩)] at hz; exact hz) | (rw [show ahd (τ 89) i j = 0 from bP_f (by rintro (q | ⟨q1, q2⟩) <;> omega)] at hz; exact hz)
          exact inner ((σ 75 0).toNat + 1) 0 (by omega) (by omega)
    refine aw_iconst G dX10_ranked_15 ?_
    refine aw_istore_2 G dX10_ranked_16 (k := ?_)
    exact loop ((σ 75 0).toNat + 1) 0 _ _ (by omega) (by omega) rfl rfl (by rw [show σ 75 0 - 0 = σ 75 0 by omega])
  refine aw_iload_n G dX10_ranked_0 rfl ?_
  refine aw_if_ge (tgt := 11) G dX10_ranked_1 (by decide) (by first | omega | exact b01_R _ | exact bP_R _) (fun c1 => ?_) (fun c1 => ?_)
  · refine aw_aload_n G dX10_ranked_11 rfl ?_
    refine cv_X10_158 G dX10_ranked_12 (c_X10_layNow ⟨n1, n2, n3, n4, n5, n6⟩) (kk := fun t12 h12 => ?_)
    obtain ⟨o12, q12⟩ := h12
    exact after _ o12 q12 c1
  · refine aw_aload_n G dX10_ranked_4 rfl ?_
    refine aw_bipush G dX10_ranked_5 (k := ?_)
    refine cv_X10_87 G dX10_ranked_7 (c_X10_refused (by decide)) (kk := fun r7 t7 h7 => ?_)
    obtain ⟨rfl, rfl⟩ := h7
    exact aw_iret G T dX10_ranked_10 (⟨by unfold an_ranked; (repeat' split) <;> first | rfl | (exfalso; omega) | omega, by unfold nx_ranked; (repeat' split) <;> first | exact ME.rf _ | (exfalso; omega)⟩)
set_option maxHeartbeats 4000000 in
theorem c_X10_list {V : Wd} {σ : St} {l m : Int} (h1 : inR l) (h2 : inR m) : Ct V yX10_list cX10_list 4 (some .int) 2 42 [rv V 75, iv l, iv m] σ (PI (fun r τ => r = an_list l m ∧ τ = nx_list σ l m)) := by
  refine ct_of (by decide) (Nat.le_of_ble_eq_true rfl) (fun X G T => ?_)
  have G : Gd X V cX10_list RX10 4 2 42 := G
  show AW X V σ 0 [] [some (rv V 75), some (iv l), some (iv m), none]
  have loop : ∀ (n0 : Nat) (i : Int), (0 ≤ l ∧ l ≤ 2) → (0 ≤ i ∧ i ≤ m ∧ m ≤ 40) → (m < i + (n0 : Int)) → AW X V (seg (up σ 85 l m) 86 (40 * l) i (fun _ => 0)) 42 [] [some (rv V 75), some (iv l), some (iv m), some (iv i)] := by
    intro n0
    induction n0 with
    | zero =>
      intro i hl h0 h3
      exfalso
      omega
    | succ n0 ih =>
      intro i hl h0 h3
      refine aw_iload_n G dX10_list_42 rfl ?_
      refine aw_iload_n G dX10_list_43 rfl ?_
      refine aw_icmp_ge (tgt := 65) G dX10_list_44 (by decide) (by first | omega | exact b01_R _ | exact bP_R _) (by first | omega | exact b01_R _ | exact bP_R _) (fun c44 => ?_) (fun c44 => ?_)
      · refine aw_iconst G dX10_list_65 ?_
        exact aw_iret G T dX10_list_66 (⟨by unfold an_list; rw [if_neg (by omega), if_neg (by omega), if_neg (by omega)], by unfold nx_list; rw [if_neg (by omega), if_neg (by omega), if_neg (by omega), show i = m by omega]; rfl⟩)
      · refine aw_aload_n G dX10_list_47 rfl ?_
        refine gf_X10_44 G dX10_list_48 (kk := ?_)
        refine aw_bipush G dX10_list_51 (k := ?_)
        refine aw_iload_n G dX10_list_53 rfl ?_
        refine aw_imul G dX10_list_54 ?_
        refine aw_iload_n G dX10_list_55 rfl ?_
        refine aw_iadd G dX10_list_56 ?_
        refine aw_iconst G dX10_list_57 ?_
        refine aw_iastore G dX10_list_58 (by first | decide | assumption | omega) (by first | rfl | assumption) (by first | decide | assumption) (by omega) ?_
        refine aw_iinc_3 G dX10_list_59 rfl (k := ?_)
        refine aw_goto (tgt := 42) G dX10_list_62 (by decide) ?_
        rw [show up (seg (up σ 85 l m) 86 (40 * l) i (fun _ => 0)) 86 (40 * l + i) 0 = seg (up σ 85 l m) 86 (40 * l) (i + 1) (fun _ => 0) from seg_s (by omega)]
        exact ih (i + 1) hl (by omega) (by omega)
  refine aw_iload_n G dX10_list_0 rfl ?_
  refine cs_X10_251 G dX10_list_1 (c_X10_isList (by assumption)) (kk := fun r1 t1 h1 => ?_)
  obtain ⟨rfl, rfl⟩ := h1
  refine aw_if_ne (tgt := 13) G dX10_list_4 (by decide) (by first | omega | exact b01_R _ | exact bP_R _) (fun c4 => ?_) (fun c4 => ?_)
  · try simp only [b01_0, b01_n, bP_0, bP_n, Classical.not_not] at c4
    refine aw_iload_n G dX10_list_13 rfl ?_
    refine aw_bipush G dX10_list_14 (k := ?_)
    refine aw_icmp_le (tgt := 26) G dX10_list_16 (by decide) (by first | omega | exact b01_R _ | exact bP_R _) (by first | omega | exact b01_R _ | exact bP_R _) (fun c16 => ?_) (fun c16 => ?_)
    · refine aw_iload_n G dX10_list_26 rfl ?_
      refine aw_if_ge (tgt := 33) G dX10_list_27 (by decide) (by first | omega | exact b01_R _ | exact bP_R _) (fun c27 => ?_) (fun c27 => ?_)
      · refine aw_aload_n G dX10_list_33 rfl ?_
        refine gf_X10_41 G dX10_list_34 (kk := ?_)
        refine aw_iload_n G dX10_list_37 rfl ?_
        refine aw_iload_n G dX10_list_38 rfl ?_
        refine aw_iastore G dX10_list_39 (by first | decide | assumption | omega) (by first | rfl | assumption) (by first | decide | assumption) (by omega) ?_
        refine aw_iconst G dX10_list_40 ?_
        refine aw_istore_3 G dX10_list_41 (k := ?_)
        have := loop (m.toNat + 1) 0 (by omega) (by omega) (by omega)
        rw [seg_0] at this
        exact this
      · refine aw_bipush G dX10_list_30 (k := ?_)
        exact aw_iret G T dX10_list_32 (⟨by unfold an_list; (repeat' split) <;> first | rfl | (exfalso; omega) | omega, by unfold nx_list; (repeat' split) <;> first | rfl | (exfalso; omega) | omega⟩)
    · refine aw_aload_n G dX10_list_19 rfl ?_
      refine aw_bipush G dX10_list_20 (k := ?_)
      refine cv_X10_87 G dX10_list_22 (c_X10_refused (by decide)) (kk := fun r22 t22 h22 => ?_)
      obtain ⟨rfl, rfl⟩ := h22
      exact aw_iret G T dX10_list_25 (⟨by unfold an_list; (repeat' split) <;> first | rfl | (exfalso; omega) | omega, by unfold nx_list; (repeat' split) <;> first | rfl | (exfalso; omega) | omega⟩)
  · try simp only [b01_0, b01_n, bP_0, bP_n, Classical.not_not] at c4
    refine aw_aload_n G dX10_list_7 rfl ?_
    refine aw_iconst G dX10_list_8 ?_
    refine cv_X10_87 G dX10_list_9 (c_X10_refused (by decide)) (kk := fun r9 t9 h9 => ?_)
    obtain ⟨rfl, rfl⟩ := h9
    exact aw_iret G T dX10_list_12 (⟨by unfold an_list; (repeat' split) <;> first | rfl | (exfalso; omega) | omega, by unfold nx_list; (repeat' split) <;> first | rfl | (exfalso; omega) | omega⟩)
set_option maxHeartbeats 4000000 in
theorem c_X10_put {V : Wd} {σ : St} {l i v : Int} (h1 : inR l) (h2 : inR i) (h3 : inR v) (hk : OK σ) : Ct V yX10_put cX10_put 4 (some .int) 2 42 [rv V 75, iv l, iv i, iv v] σ (PI (fun r τ => r = an_put σ l i ∧ τ = nx_put σ l i v)) := by
  refine ct_of (by decide) (Nat.le_of_ble_eq_true rfl) (fun X G T => ?_)
  have G : Gd X V cX10_put RX10 4 2 42 := G
  show AW X V σ 0 [] [some (rv V 75), some (iv l), some (iv i), some (iv v)]
  obtain ⟨⟨n1, n2, n3, n4, n5, n6⟩, u1, l1, l2, i1, s1, w1⟩ := id hk
  refine aw_iload_n G dX10_put_0 rfl ?_
  refine cs_X10_251 G dX10_put_1 (c_X10_isList (by assumption)) (kk := fun r1 t1 h1 => ?_)
  obtain ⟨rfl, rfl⟩ := h1
  refine aw_if_ne (tgt := 13) G dX10_put_4 (by decide) (by first | omega | exact b01_R _ | exact bP_R _) (fun c4 => ?_) (fun c4 => ?_)
  · try simp only [b01_0, b01_n, bP_0, bP_n, Classical.not_not] at c4
    have hs := s1 l (by omega) (by omega)
    refine aw_aload_n G dX10_put_13 rfl ?_
    refine gf_X10_41 G dX10_put_14 (kk := ?_)
    refine aw_iload_n G dX10_put_17 rfl ?_
    refine aw_iaload G dX10_put_18 (by first | decide | assumption | omega) (by first | rfl | assumption) (by first | decide | assumption) (by omega) ?_
    refine aw_if_ge (tgt := 25) G dX10_put_19 (by decide) (by first | omega | exact b01_R _ | exact bP_R _) (fun c19 => ?_) (fun c19 => ?_)
    · refine aw_iload_n G dX10_put_25 rfl ?_
      refine aw_iconst G dX10_put_26 ?_
      refine aw_aload_n G dX10_put_27 rfl ?_
      refine gf_X10_41 G dX10_put_28 (kk := ?_)
      refine aw_iload_n G dX10_put_31 rfl ?_
      refine aw_iaload G dX10_put_32 (by first | decide | assumption | omega) (by first | rfl | assumption) (by first | decide | assumption) (by omega) ?_
      refine aw_iconst G dX10_put_33 ?_
      refine aw_isub G dX10_put_34 ?_
      refine cs_X10_78 G dX10_put_35 (c_X10_in (by first | assumption | omega) (by first | assumption | omega) (by first | assumption | omega)) (kk := fun r35 t35 h35 => ?_)
      obtain ⟨rfl, rfl⟩ := h35
      refine aw_if_ne (tgt := 44) G dX10_put_38 (by decide) (by first | omega | exact b01_R _ | exact bP_R _) (fun c38 => ?_) (fun c38 => ?_)
      · try simp only [b01_0, b01_n, bP_0, bP_n, Classical.not_not] at c38
        refine aw_aload_n G dX10_put_44 rfl ?_
        refine gf_X10_44 G dX10_put_45 (kk := ?_)
        refine aw_bipush G dX10_put_48 (k := ?_)
        refine aw_iload_n G dX10_put_50 rfl ?_
        refine aw_imul G dX10_put_51 ?_
        refine aw_iload_n G dX10_put_52 rfl ?_
        refine aw_iadd G dX10_put_53 ?_
        refine aw_iload_n G dX10_put_54 rfl ?_
        refine aw_iastore G dX10_put_55 (by first | decide | assumption | omega) (by first | rfl | assumption) (by first | decide | assumption) (by omega) ?_
        refine aw_iconst G dX10_put_56 ?_
        exact aw_iret G T dX10_put_57 (⟨by unfold an_put; (repeat' split) <;> first | rfl | (exfalso; omega) | omega, by unfold nx_put; (repeat' split) <;> first | rfl | (exfalso; omega) | omega⟩)
      · try simp only [b01_0, b01_n, bP_0, bP_n, Classical.not_not] at c38
        refine aw_bipush G dX10_put_41 (k := ?_)
        exact aw_iret G T dX10_put_43 (⟨by unfold an_put; (repeat' split) <;> first | rfl | (exfalso; omega) | omega, by unfold nx_put; (repeat' split) <;> first | rfl | (exfalso; omega) | omega⟩)
    · refine aw_bipush G dX10_put_22 (k := ?_)
      exact aw_iret G T dX10_put_24 (⟨by unfold an_put; (repeat' split) <;> first | rfl | (exfalso; omega) | omega, by unfold nx_put; (repeat' split) <;> first | rfl | (exfalso; omega) | omega⟩)
  · try simp only [b01_0, b01_n, bP_0, bP_n, Classical.not_not] at c4
    refine aw_aload_n G dX10_put_7 rfl ?_
    refine aw_iconst G dX10_put_8 ?_
    refine cv_X10_87 G dX10_put_9 (c_X10_refused (by decide)) (kk := fun r9 t9 h9 => ?_)
    obtain ⟨rfl, rfl⟩ := h9
    exact aw_iret G T dX10_put_12 (⟨by unfold an_put; (repeat' split) <;> first | rfl | (exfalso; omega) | omega, by unfold nx_put; (repeat' split) <;> first | rfl | (exfalso; omega) | omega⟩)

set_option maxHeartbeats 4000000 in
theorem c_X10_look {V : Wd} {σ : St} {l i : Int} (h1 : inR l) (h2 : inR i) (hk : OK σ) : Ct V yX10_look cX10_look 3 (some .long) 2 42 [rv V 75, iv l, iv i] σ (PJ (fun r τ => r = an_look σ l i ∧ τ = nx_look σ l)) := by
  refine ct_of (by decide) (Nat.le_of_ble_eq_true rfl) (fun X G T => ?_)
  have G : Gd X V cX10_look RX10 3 2 42 := G
  show AW X V σ 0 [] [some (rv V 75), some (iv l), some (iv i)]
  obtain ⟨⟨n1, n2, n3, n4, n5, n6⟩, u1, l1, l2, i1, s1, w1⟩ := id hk
  refine aw_iload_n G dX10_look_0 rfl ?_
  refine cs_X10_251 G dX10_look_1 (c_X10_isList (by assumption)) (kk := fun r1 t1 h1 => ?_)
  obtain ⟨rfl, rfl⟩ := h1
  refine aw_if_ne (tgt := 13) G dX10_look_4 (by decide) (by first | omega | exact b01_R _ | exact bP_R _) (fun c4 => ?_) (fun c4 => ?_)
  · try simp only [b01_0, b01_n, bP_0, bP_n, Classical.not_not] at c4
    have hs := s1 l (by omega) (by omega)
    refine aw_aload_n G dX10_look_13 rfl ?_
    refine gf_X10_41 G dX10_look_14 (kk := ?_)
    refine aw_iload_n G dX10_look_17 rfl ?_
    refine aw_iaload G dX10_look_18 (by first | decide | assumption | omega) (by first | rfl | assumption) (by first | decide | assumption) (by omega) ?_
    refine aw_if_ge (tgt := 26) G dX10_look_19 (by decide) (by first | omega | exact b01_R _ | exact bP_R _) (fun c19 => ?_) (fun c19 => ?_)
    · refine aw_iload_n G dX10_look_26 rfl ?_
      refine aw_iconst G dX10_look_27 ?_
      refine aw_aload_n G dX10_look_28 rfl ?_
      refine gf_X10_41 G dX10_look_29 (kk := ?_)
      refine aw_iload_n G dX10_look_32 rfl ?_
      refine aw_iaload G dX10_look_33 (by first | decide | assumption | omega) (by first | rfl | assumption) (by first | decide | assumption) (by omega) ?_
      refine aw_iconst G dX10_look_34 ?_
      refine aw_isub G dX10_look_35 ?_
      refine cs_X10_78 G dX10_look_36 (c_X10_in (by first | assumption | omega) (by first | assumption | omega) (by first | assumption | omega)) (kk := fun r36 t36 h36 => ?_)
      obtain ⟨rfl, rfl⟩ := h36
      refine aw_if_eq (tgt := 57) G dX10_look_39 (by decide) (by first | omega | exact b01_R _ | exact bP_R _) (fun c39 => ?_) (fun c39 => ?_)
      · try simp only [b01_0, b01_n, bP_0, bP_n, Classical.not_not] at c39
        refine lc_X10_256 G dX10_look_57 ?_
        exact aw_lret G T dX10_look_60 (⟨by unfold an_look; (repeat' split) <;> first | rfl | (exfalso; omega) | omega, by unfold nx_look; (repeat' split) <;> first | rfl | (exfalso; omega) | omega⟩)
      · try simp only [b01_0, b01_n, bP_0, bP_n, Classical.not_not] at c39
        refine aw_aload_n G dX10_look_42 rfl ?_
        refine gf_X10_44 G dX10_look_43 (kk := ?_)
        refine aw_bipush G dX10_look_46 (k := ?_)
        refine aw_iload_n G dX10_look_48 rfl ?_
        refine aw_imul G dX10_look_49 ?_
        refine aw_iload_n G dX10_look_50 rfl ?_
        refine aw_iadd G dX10_look_51 ?_
        refine aw_iaload G dX10_look_52 (by first | decide | assumption | omega) (by first | rfl | assumption) (by first | decide | assumption) (by omega) ?_
        refine aw_i2l G dX10_look_53 (hs.2.2 i (by omega) (by omega)) ?_
        refine aw_goto (tgt := 60) G dX10_look_54 (by decide) ?_
        exact aw_lret G T dX10_look_60 (⟨by unfold an_look; (repeat' split) <;> first | rfl | (exfalso; omega) | omega, by unfold nx_look; (repeat' split) <;> first | rfl | (exfalso; omega) | omega⟩)
    · refine lc_X10_254 G dX10_look_22 ?_
      exact aw_lret G T dX10_look_25 (⟨by unfold an_look; (repeat' split) <;> first | rfl | (exfalso; omega) | omega, by unfold nx_look; (repeat' split) <;> first | rfl | (exfalso; omega) | omega⟩)
  · try simp only [b01_0, b01_n, bP_0, bP_n, Classical.not_not] at c4
    refine aw_aload_n G dX10_look_7 rfl ?_
    refine aw_iconst G dX10_look_8 ?_
    refine cv_X10_219 G dX10_look_9 (c_X10_farther (by decide)) (kk := fun r9 t9 h9 => ?_)
    obtain ⟨rfl, rfl⟩ := h9
    exact aw_lret G T dX10_look_12 (⟨by unfold an_look; (repeat' split) <;> first | rfl | (exfalso; omega) | omega, by unfold nx_look; (repeat' split) <;> first | rfl | (exfalso; omega) | omega⟩)

set_option maxHeartbeats 4000000 in
theorem c_X10_lays {V : Wd} {σ : St} {l i : Int} (h1 : inR l) (h2 : inR i) (hk : OK σ) : Ct V yX10_lays cX10_lays 4 (some .int) 4 86 [rv V 75, iv l, iv i] σ (PI (fun r τ => r = an_lays σ l i ∧ ME τ (nx_lays σ l i))) := by
  refine ct_of (by decide) (Nat.le_of_ble_eq_true rfl) (fun X G T => ?_)
  have G : Gd X V cX10_lays RX10 4 4 86 := G
  show AW X V σ 0 [] [some (rv V 75), some (iv l), some (iv i), none]
  obtain ⟨⟨n1, n2, n3, n4, n5, n6⟩, u1, l1, l2, i1, s1, w1⟩ := id hk
  have after : ∀ τ : St, Only mScr σ τ → (∀ p, 0 ≤ p → p < σ 75 0 → τ 89 p = nsum σ 75 p) → (0 ≤ l ∧ l ≤ 2) → 0 ≤ σ 85 l → σ 85 l ≤ 40 → 0 ≤ i → i ≤ σ 85 l - σ 75 0 → AW X V τ 51 [] [some (rv V 75), some (iv l), some (iv i), none] := by
    intro τ ho hS hl hs0 hs1 hi0 hi1
    have e75 := ho 75 (by decide)
    have loop : ∀ (n0 : Nat) (j : Int), (0 ≤ j ∧ j ≤ σ 75 0) → (σ 75 0 < j + (n0 : Int)) → AW X V (seg τ 86 (40 * l + i) j (nsum σ 75)) 53 [] [some (rv V 75), some (iv l), some (iv i), some (iv j)] := by
      intro n0
      induction n0 with
      | zero =>
        intro j h0 h3
        exfalso
        omega
      | succ n0 ih =>
        intro j h0 h3
        refine aw_iload_n G dX10_lays_53 rfl ?_
        refine aw_aload_n G dX10_lays_54 rfl ?_
        refine gf_X10_7 G dX10_lays_55 (kk := ?_)
        rw [seg_o (show (75:Nat) ≠ 86 by decide), e75]
        refine aw_icmp_ge (tgt := 86) G dX10_lays_58 (by decide) (by first | omega | exact b01_R _ | exact bP_R _) (by first | omega | exact b01_R _ | exact bP_R _) (fun c58 => ?_) (fun c58 => ?_)
        · refine aw_aload_n G dX10_lays_86 rfl ?_
          refine gf_X10_7 G dX10_lays_87 (kk := ?_)
          rw [seg_o (show (75:Nat) ≠ 86 by decide), e75]
          exact aw_iret G T dX10_lays_90 (⟨by unfold an_lays; rw [if_neg (by omega), if_neg (by omega), if_neg (by omega)], by
          unfold nx_lays
          rw [if_neg (by omega), if_neg (by omega), if_neg (by omega), show j = σ 75 0 by omega]
          refine ⟨pp_no (fun f _ => ?_) (fun k hk2 => ?_), fun k hk2 => ?_⟩
          · rw [seg_o (show (75:Nat) ≠ 86 by decide), e75]
            rw [if_neg (by omega)]
          · by_cases e : k = 86
            · subst e
              funext q
              unfold seg
              rw [ho 86 (by decide)]
            · rw [seg_o e, ho k (by simp only [List.mem_cons, List.not_mem_nil, or_false]; omega)]
              funext q
              rw [if_neg (fun z => e z.1)]
          · rw [seg_o (by omega), ho k (by simp only [List.mem_cons, List.not_mem_nil, or_false]; omega)]
            funext q
            exact (if_neg (by omega)).symm⟩)
        · refine aw_aload_n G dX10_lays_61 rfl ?_
          refine gf_X10_44 G dX10_lays_62 (kk := ?_)
          refine aw_bipush G dX10_lays_65 (k := ?_)
          refine aw_iload_n G dX10_lays_67 rfl ?_
          refine aw_imul G dX10_lays_68 ?_
          refine aw_iload_n G dX10_lays_69 rfl ?_
          refine aw_iadd G dX10_lays_70 ?_
          refine aw_iload_n G dX10_lays_71 rfl ?_
          refine aw_iadd G dX10_lays_72 ?_
          refine aw_aload_n G dX10_lays_73 rfl ?_
          refine gf_X10_53 G dX10_lays_74 (kk := ?_)
          refine aw_iload_n G dX10_lays_77 rfl ?_
          refine aw_iaload G dX10_lays_78 (by first | decide | assumption | omega) (by first | rfl | assumption) (by first | decide | assumption) (by omega) ?_
          rw [seg_o (show (89:Nat) ≠ 86 by decide), hS j (by omega) (by omega)]
          refine aw_iastore G dX10_lays_79 (by first | decide | assumption | omega) (by first | rfl | assumption) (by first | decide | assumption) (by omega) ?_
          refine aw_iinc_3 G dX10_lays_80 rfl (k := ?_)
          refine aw_goto (tgt := 53) G dX10_lays_83 (by decide) ?_
          rw [show up (seg τ 86 (40 * l + i) j (nsum σ 75)) 86 (40 * l + i + j) (nsum σ 75 j) = seg τ 86 (40 * l + i) (j + 1) (nsum σ 75) from seg_s (by omega)]
          exact ih (j + 1) (by omega) (by omega)
    refine aw_iconst G dX10_lays_51 ?_
    refine aw_istore_3 G dX10_lays_52 (k := ?_)
    have := loop ((σ 75 0).toNat + 1) 0 (by omega) (by omega)
    rw [seg_0] at this
    exact this
  refine aw_iload_n G dX10_lays_0 rfl ?_
  refine cs_X10_251 G dX10_lays_1 (c_X10_isList (by assumption)) (kk := fun r1 t1 h1 => ?_)
  obtain ⟨rfl, rfl⟩ := h1
  refine aw_if_ne (tgt := 13) G dX10_lays_4 (by decide) (by first | omega | exact b01_R _ | exact bP_R _) (fun c4 => ?_) (fun c4 => ?_)
  · try simp only [b01_0, b01_n, bP_0, bP_n, Classical.not_not] at c4
    have hs := s1 l (by omega) (by omega)
    refine aw_aload_n G dX10_lays_13 rfl ?_
    refine gf_X10_41 G dX10_lays_14 (kk := ?_)
    refine aw_iload_n G dX10_lays_17 rfl ?_
    refine aw_iaload G dX10_lays_18 (by first | decide | assumption | omega) (by first | rfl | assumption) (by first | decide | assumption) (by omega) ?_
    refine aw_if_ge (tgt := 25) G dX10_lays_19 (by decide) (by first | omega | exact b01_R _ | exact bP_R _) (fun c19 => ?_) (fun c19 => ?_)
    · refine aw_iload_n G dX10_lays_25 rfl ?_
      refine aw_if_lt (tgt := 44) G dX10_lays_26 (by decide) (by first | omega | exact b01_R _ | exact bP_R _) (fun c26 => ?_) (fun c26 => ?_)
      · refine aw_bipush G dX10_lays_44 (k := ?_)
        exact aw_iret G T dX10_lays_46 (⟨by unfold an_lays; (repeat' split) <;> first | rfl | (exfalso; omega) | omega, by unfold nx_lays; (repeat' split) <;> first | exact ME.rf _ | (exfalso; omega)⟩)
      · refine aw_iload_n G dX10_lays_29 rfl ?_
        refine aw_aload_n G dX10_lays_30 rfl ?_
        refine gf_X10_41 G dX10_lays_31 (kk := ?_)
        refine aw_iload_n G dX10_lays_34 rfl ?_
        refine aw_iaload G dX10_lays_35 (by first | decide | assumption | omega) (by first | rfl | assumption) (by first | decide | assumption) (by omega) ?_
        refine aw_aload_n G dX10_lays_36 rfl ?_
        refine gf_X10_7 G dX10_lays_37 (kk := ?_)
        refine aw_isub G dX10_lays_40 ?_
        refine aw_icmp_le (tgt := 47) G dX10_lays_41 (by decide) (by first | omega | exact b01_R _ | exact bP_R _) (by first | omega | exact b01_R _ | exact bP_R _) (fun c41 => ?_) (fun c41 => ?_)
        · refine aw_aload_n G dX10_lays_47 rfl ?_
          refine cv_X10_158 G dX10_lays_48 (c_X10_layNow ⟨n1, n2, n3, n4, n5, n6⟩) (kk := fun t48 h48 => ?_)
          obtain ⟨o48, q48⟩ := h48
          exact after _ o48 q48 (by omega) (by omega) (by omega) (by omega) (by omega)
        · refine aw_bipush G dX10_lays_44 (k := ?_)
          exact aw_iret G T dX10_lays_46 (⟨by unfold an_lays; (repeat' split) <;> first | rfl | (exfalso; omega) | omega, by unfold nx_lays; (repeat' split) <;> first | exact ME.rf _ | (exfalso; omega)⟩)
    · refine aw_bipush G dX10_lays_22 (k := ?_)
      exact aw_iret G T dX10_lays_24 (⟨by unfold an_lays; (repeat' split) <;> first | rfl | (exfalso; omega) | omega, by unfold nx_lays; (repeat' split) <;> first | exact ME.rf _ | (exfalso; omega)⟩)
  · try simp only [b01_0, b01_n, bP_0, bP_n, Classical.not_not] at c4
    refine aw_aload_n G dX10_lays_7 rfl ?_
    refine aw_iconst G dX10_lays_8 ?_
    refine cv_X10_87 G dX10_lays_9 (c_X10_refused (by decide)) (kk := fun r9 t9 h9 => ?_)
    obtain ⟨rfl, rfl⟩ := h9
    exact aw_iret G T dX10_lays_12 (⟨by unfold an_lays; (repeat' split) <;> first | rfl | (exfalso; omega) | omega, by unfold nx_lays; (repeat' split) <;> first | exact ME.rf _ | (exfalso; omega)⟩)
set_option maxHeartbeats 4000000 in
theorem c_X10_judge {V : Wd} {σ : St} {l : Int} (h1 : inR l) (hk : OK σ) : Ct V yX10_judge cX10_judge 3 (some .int) 4 86 [rv V 75, iv l] σ (PI (fun r τ => r = an_judge σ l ∧ ME τ (nx_judge σ l))) := by
  refine ct_of (by decide) (Nat.le_of_ble_eq_true rfl) (fun X G T => ?_)
  have G : Gd X V cX10_judge RX10 3 4 86 := G
  show AW X V σ 0 [] [some (rv V 75), some (iv l), none]
  obtain ⟨⟨n1, n2, n3, n4, n5, n6⟩, u1, l1, l2, i1, s1, w1⟩ := id hk
  have after : ∀ τ : St, Only mScr σ τ → (∀ p, 0 ≤ p → p < σ 75 0 → τ 89 p = nsum σ 75 p) → (0 ≤ l ∧ l ≤ 2) → 0 ≤ σ 85 l → AW X V τ 29 [] [some (rv V 75), some (iv l), none] := by
    intro τ ho hS hl hs0
    have e75 := ho 75 (by decide)
    have e85 := ho 85 (by decide)
    have e86 := ho 86 (by decide)
    have hs := s1 l (by omega) (by omega)
    have loop : ∀ (n0 : Nat) (k : Int), (0 ≤ k ∧ k ≤ σ 85 l ∧ k ≤ σ 75 0) → (σ 85 l < k + (n0 : Int)) → (fstP (fun k => k = σ 75 0 ∨ σ 86 (40 * l + k) ≠ nsum σ 75 k) (σ 85 l - k).toNat k = fstP (fun k => k = σ 75 0 ∨ σ 86 (40 * l + k) ≠ nsum σ 75 k) (σ 85 l).toNat 0) → AW X V (τ) 31 [] [some (rv V 75), some (iv l), some (iv k)] := by
      intro n0
      induction n0 with
      | zero =>
        intro k h0 h3 hq
        exfalso
        omega
      | succ n0 ih =>
        intro k h0 h3 hq
        refine aw_iload_n G dX10_judge_31 rfl ?_
        refine aw_aload_n G dX10_judge_32 rfl ?_
        refine gf_X10_41 G dX10_judge_33 (kk := ?_)
        refine aw_iload_n G dX10_judge_36 rfl ?_
        refine aw_iaload G dX10_judge_37 (by first | decide | assumption | omega) (by first | rfl | assumption) (by first | decide | assumption) (by omega) ?_
        rw [e85]
        refine aw_icmp_ge (tgt := 77) G dX10_judge_38 (by decide) (by first | omega | exact b01_R _ | exact bP_R _) (by first | omega | exact b01_R _ | exact bP_R _) (fun c38 => ?_) (fun c38 => ?_)
        · refine aw_bipush G dX10_judge_77 (k := ?_)
          exact aw_iret G T dX10_judge_79 (⟨by unfold an_judge; rw [if_neg (by omega), if_neg (by omega), ← hq, show (σ 85 l - k).toNat = 0 by omega]; rfl, by unfold nx_judge; rw [if_neg (by omega)]; exact ME.only ho⟩)
        · refine aw_iload_n G dX10_judge_41 rfl ?_
          refine aw_aload_n G dX10_judge_42 rfl ?_
          refine gf_X10_7 G dX10_judge_43 (kk := ?_)
          rw [e75]
          refine aw_icmp_eq (tgt := 69) G dX10_judge_46 (by decide) (by first | omega | exact b01_R _ | exact bP_R _) (by first | omega | exact b01_R _ | exact bP_R _) (fun c46 => ?_) (fun c46 => ?_)
          · refine aw_iload_n G dX10_judge_69 rfl ?_
            exact aw_iret G T dX10_judge_70 (⟨by
          unfold an_judge
          rw [if_neg (by omega), if_neg (by omega), ← hq, show (σ 85 l - k).toNat = (σ 85 l - (k + 1)).toNat + 1 by omega, fstP_t]
          first | exact Or.inl c46 | exact Or.inr c66, by unfold nx_judge; rw [if_neg (by omega)]; exact ME.only ho⟩)
          · refine aw_aload_n G dX10_judge_49 rfl ?_
            refine gf_X10_44 G dX10_judge_50 (kk := ?_)
            refine aw_bipush G dX10_judge_53 (k := ?_)
            refine aw_iload_n G dX10_judge_55 rfl ?_
            refine aw_imul G dX10_judge_56 ?_
            refine aw_iload_n G dX10_judge_57 rfl ?_
            refine aw_iadd G dX10_judge_58 ?_
            refine aw_iaload G dX10_judge_59 (by first | decide | assumption | omega) (by first | rfl | assumption) (by first | decide | assumption) (by omega) ?_
            rw [e86]
            refine aw_aload_n G dX10_judge_60 rfl ?_
            refine gf_X10_53 G dX10_judge_61 (kk := ?_)
            refine aw_iload_n G dX10_judge_64 rfl ?_
            refine aw_iaload G dX10_judge_65 (by first | decide | assumption | omega) (by first | rfl | assumption) (by first | decide | assumption) (by omega) ?_
            rw [hS k (by omega) (by omega)]
            refine aw_icmp_eq (tgt := 71) G dX10_judge_66 (by decide) (hs.2.2 k (by omega) (by omega)) (by have := nsum_R n5 ⟨n3, n4⟩ k; omega) (fun c66 => ?_) (fun c66 => ?_)
            · refine aw_iinc_2 G dX10_judge_71 rfl (k := ?_)
              refine aw_goto (tgt := 31) G dX10_judge_74 (by decide) ?_
              refine ih (k + 1) (by omega) (by omega) ?_
              rw [← hq, show (σ 85 l - k).toNat = (σ 85 l - (k + 1)).toNat + 1 by omega, fstP_f]
              rintro (e | e)
              · exact c46 e
              · exact e c66
            · refine aw_iload_n G dX10_judge_69 rfl ?_
              exact aw_iret G T dX10_judge_70 (⟨by
          unfold an_judge
          rw [if_neg (by omega), if_neg (by omega), ← hq, show (σ 85 l - k).toNat = (σ 85 l - (k + 1)).toNat + 1 by omega, fstP_t]
          first | exact Or.inl c46 | exact Or.inr c66, by unfold nx_judge; rw [if_neg (by omega)]; exact ME.only ho⟩)
    refine aw_iconst G dX10_judge_29 ?_
    refine aw_istore_2 G dX10_judge_30 (k := ?_)
    exact loop ((σ 85 l).toNat + 1) 0 (by omega) (by omega) (by rw [show σ 85 l - 0 = σ 85 l by omega])
  refine aw_iload_n G dX10_judge_0 rfl ?_
  refine cs_X10_251 G dX10_judge_1 (c_X10_isList (by assumption)) (kk := fun r1 t1 h1 => ?_)
  obtain ⟨rfl, rfl⟩ := h1
  refine aw_if_ne (tgt := 13) G dX10_judge_4 (by decide) (by first | omega | exact b01_R _ | exact bP_R _) (fun c4 => ?_) (fun c4 => ?_)
  · try simp only [b01_0, b01_n, bP_0, bP_n, Classical.not_not] at c4
    have hs := s1 l (by omega) (by omega)
    refine aw_aload_n G dX10_judge_13 rfl ?_
    refine gf_X10_41 G dX10_judge_14 (kk := ?_)
    refine aw_iload_n G dX10_judge_17 rfl ?_
    refine aw_iaload G dX10_judge_18 (by first | decide | assumption | omega) (by first | rfl | assumption) (by first | decide | assumption) (by omega) ?_
    refine aw_if_ge (tgt := 25) G dX10_judge_19 (by decide) (by first | omega | exact b01_R _ | exact bP_R _) (fun c19 => ?_) (fun c19 => ?_)
    · refine aw_aload_n G dX10_judge_25 rfl ?_
      refine cv_X10_158 G dX10_judge_26 (c_X10_layNow ⟨n1, n2, n3, n4, n5, n6⟩) (kk := fun t26 h26 => ?_)
      obtain ⟨o26, q26⟩ := h26
      exact after _ o26 q26 (by omega) (by omega)
    · refine aw_bipush G dX10_judge_22 (k := ?_)
      exact aw_iret G T dX10_judge_24 (⟨by unfold an_judge; (repeat' split) <;> first | rfl | (exfalso; omega) | omega, by unfold nx_judge; (repeat' split) <;> first | exact ME.rf _ | (exfalso; omega)⟩)
  · try simp only [b01_0, b01_n, bP_0, bP_n, Classical.not_not] at c4
    refine aw_aload_n G dX10_judge_7 rfl ?_
    refine aw_iconst G dX10_judge_8 ?_
    refine cv_X10_87 G dX10_judge_9 (c_X10_refused (by decide)) (kk := fun r9 t9 h9 => ?_)
    obtain ⟨rfl, rfl⟩ := h9
    exact aw_iret G T dX10_judge_12 (⟨by unfold an_judge; (repeat' split) <;> first | rfl | (exfalso; omega) | omega, by unfold nx_judge; (repeat' split) <;> first | exact ME.rf _ | (exfalso; omega)⟩)
