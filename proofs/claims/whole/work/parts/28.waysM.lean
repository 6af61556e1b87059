abbrev mTr : List Nat := [88, 89, 90]
/-- the reference's trial stands at labels f, over the net of ρ -/
def MT (ρ σ : St) (f : Int → Int) : Prop := Only mTr ρ σ ∧ (∀ p l : Int, 0 ≤ p → p < ρ 75 0 → 0 ≤ l → l < ρ 75 1 → σ 90 (8 * p + l) = nwt ρ 75 p l) ∧ (∀ j : Int, 0 ≤ j → j < ρ 75 1 → σ 88 j = f j) ∧ ∀ p : Int, 0 ≤ p → p < ρ 75 0 → σ 89 p = tsum (nwt ρ 75) f (ρ 75 1) p
theorem MT_lay {ρ τ t : St} {f : Int → Int} (ho : Only mTr ρ τ) (hw : ∀ p l : Int, 0 ≤ p → p < ρ 75 0 → 0 ≤ l → l < ρ 75 1 → τ 90 (8 * p + l) = nwt ρ 75 p l) (hl : ∀ j : Int, 0 ≤ j → j < ρ 75 1 → τ 88 j = f j) (o : Only [89] τ t) (q : ∀ p, 0 ≤ p → p < τ 75 0 → t 89 p = tsum (fun p l => τ 90 (8 * p + l)) (τ 88) (τ 75 1) p) : MT ρ t f := by
  refine ⟨ho.tr (o.mono (by decide)), fun p l a b c d => by rw [o 90 (by decide)]; exact hw p l a b c d, fun j a b => by rw [o 88 (by decide)]; exact hl j a b, fun p a b => ?_⟩
  have e : τ 75 = ρ 75 := ho 75 (by decide)
  rw [q p a (by rw [e]; exact b), e]
  exact tsum_c fun l c d => ⟨hw p l a b c d, hl l c d⟩
theorem MT_R {ρ σ : St} {f : Int → Int} (hT : MT ρ σ f) (hN : NetOK ρ 75) (hf : ∀ j : Int, 0 ≤ j → j < ρ 75 1 → 0 ≤ f j ∧ f j ≤ 1000) : ∀ p : Int, 0 ≤ p → p < ρ 75 0 → inR (σ 89 p) := fun p a b => by
  obtain ⟨n1, n2, n3, n4, n5, n6⟩ := hN
  rw [hT.2.2.2 p a b]
  have := tsum_R (W := nwt ρ 75) (f := f) (L := ρ 75 1) (p := p) n4 (fun l c d => ⟨nwt_R (by have := n5 l c (by omega); omega), hf l c d⟩)
  omega
theorem ME_T {σ τ : St} (h : Only mTr σ τ) : ME τ σ := ME.only (h.mono (by decide))
theorem wa_c {σ τ : St} (h : Only mTr σ τ) (ru k : Int) : waN τ ru k = waN σ ru k ∧ ∀ i, waI τ ru k i = waI σ ru k i := by
  unfold waN waI
  rw [nwt_only h (by decide), h 75 (by decide)]
  exact ⟨rfl, fun _ => rfl⟩
set_option maxHeartbeats 4000000 in
theorem c_X10_triesNought {V : Wd} {σ : St}  (hn : NetOK σ 75) : Ct V yX10_triesNought cX10_triesNought 2 none 3 65 [rv V 75] σ (PV (fun τ => MT σ τ (fun _ => 0))) := by
  refine ct_of (by decide) (Nat.le_of_ble_eq_true rfl) (fun X G T => ?_)
  have G : Gd X V cX10_triesNought RX10 2 3 65 := G
  show AW X V σ 0 [] [some (rv V 75), none]
  obtain ⟨n1, n2, n3, n4, n5, n6⟩ := id hn
  have loop : ∀ (n0 : Nat) (i : Int), (0 ≤ i ∧ i ≤ 8) → (8 < i + (n0 : Int)) → AW X V (fill σ 88 i (fun _ => 0)) 2 [] [some (rv V 75), some (iv i)] := by
    intro n0
    induction n0 with
    | zero =>
      intro i h0 h1
      exfalso
      omega
    | succ n0 ih =>
      intro i h0 h1
      refine aw_iload_n G dX10_triesNought_2 rfl ?_
      refine aw_bipush G dX10_triesNought_3 (k := ?_)
      refine aw_icmp_ge (tgt := 21) G dX10_triesNought_5 (by decide) (by first | omega | exact b01_R _ | exact bP_R _) (by first | omega | exact b01_R _ | exact bP_R _) (fun c5 => ?_) (fun c5 => ?_)
      · have oo : Only mTr σ (fill σ 88 i (fun _ => 0)) := fun k hk => fill_r (fun e => hk (by rw [e]; decide))
        have nn : NetOK (fill σ 88 i (fun _ => 0)) 75 := NetOK.only oo (by decide) hn
        refine aw_aload_n G dX10_triesNought_21 rfl ?_
        refine cv_X10_141 G dX10_triesNought_22 (c_X10_layWeights nn) (kk := fun t22 h22 => ?_)
        obtain ⟨o1, q1⟩ := h22
        refine aw_aload_n G dX10_triesNought_25 rfl ?_
        have e75 : t22 75 = σ 75 := (o1 75 (by decide)).trans (oo 75 (by decide))
        refine cv_X10_144 G dX10_triesNought_26 (c_X10_laySums (by rw [e75]; omega)) (kk := fun t26 h26 => ?_)
        obtain ⟨o2, q2⟩ := h26
        exact aw_vret G T dX10_triesNought_29 (by
          refine MT_lay (oo.tr (o1.mono (by decide))) (fun p l a b c d => ?_) (fun j a b => ?_) o2 q2
          · rw [q1 p l a (by rw [oo 75 (by decide)]; exact b) c (by rw [oo 75 (by decide)]; exact d), nwt_only oo (by decide)]
          · rw [o1 88 (by decide), fill_i (by omega)])
      · refine aw_aload_n G dX10_triesNought_8 rfl ?_
        refine gf_X10_50 G dX10_triesNought_9 (kk := ?_)
        refine aw_iload_n G dX10_triesNought_12 rfl ?_
        refine aw_iconst G dX10_triesNought_13 ?_
        refine aw_iastore G dX10_triesNought_14 (by first | decide | assumption | omega) (by first | rfl | assumption) (by first | decide | assumption) (by omega) ?_
        refine aw_iinc_1 G dX10_triesNought_15 rfl (hc := by first | rfl | assumption) (k := ?_)
        refine aw_goto (tgt := 2) G dX10_triesNought_18 (by decide) ?_
        rw [show up (fill σ 88 i (fun _ => 0)) 88 i 0 = fill σ 88 (i + 1) (fun _ => 0) from fill_s (f := fun _ => 0) (by omega)]
        exact ih (i + 1) (by omega) (by omega)
  refine aw_iconst G dX10_triesNought_0 ?_
  refine aw_istore_1 G dX10_triesNought_1 (hc := by first | rfl | assumption) (k := ?_)
  have := loop 9 0 (by omega) (by omega)
  rw [fill_0] at this
  exact this
set_option maxHeartbeats 4000000 in
theorem c_X10_goesOn {V : Wd} {σ : St} {ρ : St} {f : Int → Int} {k : Int} (hn : NetOK ρ 75) (hT : MT ρ σ f) (hf : ∀ j : Int, 0 ≤ f j ∧ f j ≤ k) (hk : 0 ≤ k ∧ k ≤ 9) : Ct V yX10_goesOn cX10_goesOn 3 (some .boolean) 1 22 [rv V 75, iv k] σ (PI (fun r τ => (r = 1 ∧ MT ρ τ (nxT k (ρ 75 1).toNat f) ∧ ¬ (∀ j : Int, 0 ≤ j → j < ρ 75 1 → f j = k)) ∨ (r = 0 ∧ (∀ j : Int, 0 ≤ j → j < ρ 75 1 → f j = k) ∧ Only mTr ρ τ))) := by
  refine ct_of (by decide) (Nat.le_of_ble_eq_true rfl) (fun X G T => ?_)
  have G : Gd X V cX10_goesOn RX10 3 1 22 := G
  show AW X V σ 0 [] [some (rv V 75), some (iv k), none]
  obtain ⟨n1, n2, n3, n4, n5, n6⟩ := id hn
  obtain ⟨hO, hw, hl, hs⟩ := id hT
  have loop : ∀ (n0 : Nat) (i : Int) (τ : St) (g : Int → Int), (-1 ≤ i ∧ i < ρ 75 1) → (i + 1 < (n0 : Int)) → (Only [88] σ τ) → (∀ j : Int, 0 ≤ j → j < ρ 75 1 → τ 88 j = g j) → (∀ j : Int, j ≤ i → g j = f j) → (nxT k (i + 1).toNat g = nxT k (ρ 75 1).toNat f) → (∀ j : Int, i < j → j < ρ 75 1 → f j = k) → AW X V (τ) 7 [] [some (rv V 75), some (iv k), some (iv i)] := by
    intro n0
    induction n0 with
    | zero =>
      intro i τ g h0 h1 ho hg hgf hq ha
      exfalso
      omega
    | succ n0 ih =>
      intro i τ g h0 h1 ho hg hgf hq ha
      refine aw_iload_n G dX10_goesOn_7 rfl ?_
      refine aw_if_lt (tgt := 34) G dX10_goesOn_8 (by decide) (by first | omega | exact b01_R _ | exact bP_R _) (fun c8 => ?_) (fun c8 => ?_)
      · refine aw_iload_n G dX10_goesOn_34 rfl ?_
        refine aw_if_ge (tgt := 40) G dX10_goesOn_35 (by decide) (by first | omega | exact b01_R _ | exact bP_R _) (fun c35 => ?_) (fun c35 => ?_)
        · exact absurd c35 (by omega)
        · refine aw_iconst G dX10_goesOn_38 ?_
          exact aw_zret G T dX10_goesOn_39 (Or.inl rfl) (Or.inr ⟨rfl, fun j a b => ha j (by omega) b, hO.tr (ho.mono (by decide))⟩)
      · have hgi := hg i (by omega) (by omega)
        have hfi := hf i
        have hgfi := hgf i (by omega)
        refine aw_aload_n G dX10_goesOn_11 rfl ?_
        refine gf_X10_50 G dX10_goesOn_12 (kk := ?_)
        refine aw_iload_n G dX10_goesOn_15 rfl ?_
        refine aw_iaload G dX10_goesOn_16 (by first | decide | assumption | omega) (by first | rfl | assumption) (by first | decide | assumption) (by omega) ?_
        refine aw_iload_n G dX10_goesOn_17 rfl ?_
        rw [hgi]
        refine aw_icmp_ne (tgt := 34) G dX10_goesOn_18 (by decide) (by first | omega | exact b01_R _ | exact bP_R _) (by first | omega | exact b01_R _ | exact bP_R _) (fun c18 => ?_) (fun c18 => ?_)
        · refine aw_iload_n G dX10_goesOn_34 rfl ?_
          refine aw_if_ge (tgt := 40) G dX10_goesOn_35 (by decide) (by first | omega | exact b01_R _ | exact bP_R _) (fun c35 => ?_) (fun c35 => ?_)
          · have hgi := hg i (by omega) (by omega)
            refine aw_aload_n G dX10_goesOn_40 rfl ?_
            refine gf_X10_50 G dX10_goesOn_41 (kk := ?_)
            refine aw_iload_n G dX10_goesOn_44 rfl ?_
            refine aw_dup2 G dX10_goesOn_45 (k := ?_)
            refine aw_iaload G dX10_goesOn_46 (by first | decide | assumption | omega) (by first | rfl | assumption) (by first | decide | assumption) (by omega) ?_
            rw [hgi]
            refine aw_iconst G dX10_goesOn_47 ?_
            refine aw_iadd G dX10_goesOn_48 ?_
            refine aw_iastore G dX10_goesOn_49 (by first | decide | assumption | omega) (by first | rfl | assumption) (by first | decide | assumption) (by omega) ?_
            refine aw_aload_n G dX10_goesOn_50 rfl ?_
            have e75 : up τ 88 i (g i + 1) 75 = ρ 75 := (up_ne (by decide)).trans ((ho 75 (by decide)).trans (hO 75 (by decide)))
            refine cv_X10_144 G dX10_goesOn_51 (c_X10_laySums (by rw [e75]; omega)) (kk := fun t51 h51 => ?_)
            obtain ⟨o1, q1⟩ := h51
            refine aw_iconst G dX10_goesOn_54 ?_
            exact aw_zret G T dX10_goesOn_55 (Or.inr rfl) (by
          have hz := hq
          rw [show (i + 1).toNat = i.toNat + 1 by omega, nxT_s, show ((i.toNat : Nat) : Int) = i by omega, if_pos (by omega)] at hz
          refine Or.inl ⟨rfl, ?_, fun q => ?_⟩
          · rw [← hz]
            refine MT_lay ((hO.tr (ho.mono (by decide))).up (by decide)) (fun p l a b c d => ?_) (fun j a b => ?_) o1 q1
            · rw [up_o (by decide), ho 90 (by decide)]
              exact hw p l a b c d
            · by_cases e : j = i
              · rw [e, up_at, upf_at]
              · rw [up_nj e, upf_o e]
                exact hg j a b
          · have := q i (by omega) (by omega)
            have := hgf i (by omega)
            omega)
          · refine aw_iconst G dX10_goesOn_38 ?_
            exact aw_zret G T dX10_goesOn_39 (Or.inl rfl) (by
          first
            | (exfalso; omega)
            | exact Or.inr ⟨rfl, fun j a b => ha j (by omega) b, hO.tr (ho.mono (by decide))⟩)
        · refine aw_aload_n G dX10_goesOn_21 rfl ?_
          refine gf_X10_50 G dX10_goesOn_22 (kk := ?_)
          refine aw_iload_n G dX10_goesOn_25 rfl ?_
          refine aw_iconst G dX10_goesOn_26 ?_
          refine aw_iastore G dX10_goesOn_27 (by first | decide | assumption | omega) (by first | rfl | assumption) (by first | decide | assumption) (by omega) ?_
          refine aw_iinc_2 G dX10_goesOn_28 rfl (hc := by first | rfl | assumption) (k := ?_)
          refine aw_goto (tgt := 7) G dX10_goesOn_31 (by decide) ?_
          rw [show (i + 1).toNat = i.toNat + 1 by omega, nxT_s, show ((i.toNat : Nat) : Int) = i by omega, if_neg (by omega)] at hq
          refine ih (i + -1) _ (upf g i 0) (by omega) (by omega) (ho.up (by decide)) (fun j a b => ?_) (fun j a => by rw [upf_o (by omega)]; exact hgf j (by omega)) (by rw [show (i + -1 + 1).toNat = i.toNat by omega]; exact hq) (fun j a b => ?_)
          · by_cases e : j = i
            · rw [e, up_at, upf_at]
            · rw [up_nj e, upf_o e]
              exact hg j a b
          · by_cases e : j = i
            · rw [e, ← hgf i (by omega)]
              omega
            · exact ha j (by omega) b
  refine aw_aload_n G dX10_goesOn_0 rfl ?_
  refine gf_X10_82 G dX10_goesOn_1 (kk := ?_)
  rw [hO 75 (by decide)]
  refine aw_iconst G dX10_goesOn_4 ?_
  refine aw_isub G dX10_goesOn_5 ?_
  refine aw_istore_2 G dX10_goesOn_6 (hc := by first | rfl | assumption) (k := ?_)
  exact loop ((ρ 75 1).toNat + 1) (ρ 75 1 - 1) σ f (by omega) (by omega) Only.rf hl (fun j a => rfl) (by rw [show (ρ 75 1 - 1 + 1).toNat = (ρ 75 1).toNat by omega]) (fun j a b => by omega)
set_option maxHeartbeats 4000000 in
theorem c_X10_waysTo {V : Wd} {σ : St} {ru k wi : Int} (hn : NetOK σ 75) (hr : 0 ≤ ru ∧ ru ≤ 5) (hk : 0 ≤ k ∧ k ≤ 3) (hw : -1 ≤ wi ∧ wi ≤ 2147483647) : Ct V yX10_waysTo cX10_waysTo 7 (some .int) 4 86 [rv V 75, iv ru, iv k, iv wi] σ (PI (fun r τ => Only mTr σ τ ∧ ((r = waN σ ru k ∧ (wi < 0 ∨ waN σ ru k ≤ wi)) ∨ (0 ≤ wi ∧ r = wi ∧ ∃ f, waI σ ru k wi = some f ∧ ∀ j : Int, 0 ≤ j → j < σ 75 1 → τ 88 j = f j)) ∧ 0 ≤ r ∧ r ≤ 65536)) := by
  refine ct_of (by decide) (Nat.le_of_ble_eq_true rfl) (fun X G T => ?_)
  have G : Gd X V cX10_waysTo RX10 7 4 86 := G
  show AW X V σ 0 [] [some (rv V 75), some (iv ru), some (iv k), some (iv wi), none, none, none]
  obtain ⟨n1, n2, n3, n4, n5, n6⟩ := id hn
  have hA := pw_48 (b := k + 1) (by omega) (show (σ 75 1).toNat ≤ 8 by omega)
  have loop : ∀ (n0 : Nat) (n : Int) (τ : St) (f : Int → Int) (m : Int) (fu : Nat) (u : Option Value), (Only mTr σ τ) → (fu < n0) → ((m = 1 ∧ 1 ≤ fu ∧ MT σ τ f ∧ (∀ j : Int, 0 ≤ f j ∧ f j ≤ k) ∧ valF (k + 1) f (σ 75 1).toNat + fu = pw (k + 1) (σ 75 1).toNat) ∨ (m = 0 ∧ fu = 0)) → (0 ≤ n ∧ n + fu ≤ pw (k + 1) (σ 75 1).toNat) → (lcat u = 1) → (waN σ ru k = n + wayN (wQ (nwt σ 75) (σ 75 1) (σ 75 0) ru) (nxT k (σ 75 1).toNat) fu f) → (0 ≤ wi → n ≤ wi ∧ wayI (wQ (nwt σ 75) (σ 75 1) (σ 75 0) ru) (nxT k (σ 75 1).toNat) fu f (wi - n) = waI σ ru k wi) → AW X V (τ) 10 [] [some (rv V 75), some (iv ru), some (iv k), some (iv wi), some (iv n), some (iv m), u] := by
    intro n0
    induction n0 with
    | zero =>
      intro n τ f m fu u hO h1 hm h0 hu hqN hqI
      exfalso
      omega
    | succ n0 ih =>
      intro n τ f m fu u hO h1 hm h0 hu hqN hqI
      refine aw_iload G dX10_waysTo_10 rfl ?_
      refine aw_if_eq (tgt := 68) G dX10_waysTo_12 (by decide) (by omega) (fun c12 => ?_) (fun c12 => ?_)
      · try simp only [b01_0, b01_n, bP_0, bP_n, Classical.not_not] at c12
        refine aw_iload G dX10_waysTo_68 rfl ?_
        exact aw_iret G T dX10_waysTo_70 (by
          have fu0 : fu = 0 := by rcases hm with q | q <;> omega
          subst fu0
          have hN0 : waN σ ru k = n := by rw [hqN]; unfold wayN; omega
          exact ⟨hO, Or.inl ⟨hN0.symm, by have := fun q => (hqI q).1; omega⟩, by omega, by omega⟩)
      · try simp only [b01_0, b01_n, bP_0, bP_n, Classical.not_not] at c12
        obtain ⟨rfl, hfu, hT, hf, hv⟩ : m = 1 ∧ 1 ≤ fu ∧ MT σ τ f ∧ (∀ j : Int, 0 ≤ f j ∧ f j ≤ k) ∧ valF (k + 1) f (σ 75 1).toNat + fu = pw (k + 1) (σ 75 1).toNat := by
          rcases hm with q | q
          · exact q
          · omega
        obtain ⟨fu', rfl⟩ : ∃ q, fu = q + 1 := ⟨fu - 1, by omega⟩
        have e75 : τ 75 = σ 75 := hO 75 (by decide)
        have hRs := MT_R hT hn (fun j a b => by have := hf j; omega)
        have hQ : ruleP ru (τ 89) (σ 75 0) ↔ (wQ (nwt σ 75) (σ 75 1) (σ 75 0) ru) f := ruleP_c (fun p a b => hT.2.2.2 p a b)
        refine aw_iload_n G dX10_waysTo_15 rfl ?_
        refine aw_aload_n G dX10_waysTo_16 rfl ?_
        refine gf_X10_53 G dX10_waysTo_17 (kk := ?_)
        refine aw_aload_n G dX10_waysTo_20 rfl ?_
        refine gf_X10_7 G dX10_waysTo_21 (kk := ?_)
        rw [e75]
        refine cs_X10_164 G dX10_waysTo_24 (c_X10_isSo (N := 7) (by decide) rfl (by decide) (by omega) hRs (by omega) (by omega)) (kk := fun r24 t24 h24 => ?_)
        obtain ⟨rfl, ee24⟩ := h24
        obtain rfl := ee24.symm
        refine aw_istore_6 G dX10_waysTo_27 (hc := by first | rfl | assumption) (k := ?_)
        refine aw_iload G dX10_waysTo_29 rfl ?_
        refine aw_if_eq (tgt := 43) G dX10_waysTo_31 (by decide) (bP_R _) (fun c31 => ?_) (fun c31 => ?_)
        · try simp only [b01_0, b01_n, bP_0, bP_n, Classical.not_not] at c31
          refine aw_iload G dX10_waysTo_43 rfl ?_
          refine aw_iload G dX10_waysTo_45 rfl ?_
          refine aw_if_eq (tgt := 54) G dX10_waysTo_47 (by decide) (bP_R _) (fun c47 => ?_) (fun c47 => ?_)
          · try simp only [b01_0, b01_n, bP_0, bP_n, Classical.not_not] at c47
            refine aw_iconst G dX10_waysTo_54 ?_
            refine aw_iadd G dX10_waysTo_55 ?_
            refine aw_istore_4 G dX10_waysTo_56 (hc := by first | rfl | assumption) (k := ?_)
            refine aw_aload_n G dX10_waysTo_58 rfl ?_
            refine aw_iload_n G dX10_waysTo_59 rfl ?_
            refine cv_X10_171 G dX10_waysTo_60 (c_X10_goesOn hn hT hf (by omega)) (kk := fun r60 t60 h60 => ?_)
            refine aw_istore_5 G dX10_waysTo_63 (hc := by first | rfl | assumption) (k := ?_)
            refine aw_goto (tgt := 10) G dX10_waysTo_65 (by decide) ?_
            first
              | exact absurd c31 c47
              | exact absurd c47 c31
              | (rw [wayN_s, bP_t (hQ.mp c31)] at hqN
                 rcases h60 with ⟨g1, g2, g3⟩ | ⟨g1, g2, g3⟩
                 · rcases nxT_v (k := k) (by omega) (σ 75 1).toNat f hf with ⟨v1, v2, -⟩ | ⟨v1, v2⟩
                   · refine ih (n + 1) t60 (nxT k (σ 75 1).toNat f) r60 fu' (some (iv (bP (ruleP ru (τ 89) (σ 75 0))))) g2.1 (by omega) (Or.inl ⟨g1, by omega, g2, nxT_R (by omega) _ f hf, by omega⟩) (by omega) rfl (by omega) (fun q => ?_)
                     have hz := hqI q
                     rw [wayI_s, bP_t (hQ.mp c31), if_pos rfl, if_neg (by omega)] at hz
                     exact ⟨by omega, by rw [show wi - (n + 1) = wi - n - 1 by omega]; exact hz.2⟩
                   · exact absurd (fun j a b => v2 j a (by omega)) g3
                 · rcases nxT_v (k := k) (by omega) (σ 75 1).toNat f hf with ⟨v1, v2, j, j1, j2, j3⟩ | ⟨v1, v2⟩
                   · have := g2 j j1 (by omega)
                     omega
                   · refine ih (n + 1) t60 (nxT k (σ 75 1).toNat f) r60 fu' (some (iv (bP (ruleP ru (τ 89) (σ 75 0))))) g3 (by omega) (Or.inr ⟨g1, by omega⟩) (by omega) rfl (by omega) (fun q => ?_)
                     have hz := hqI q
                     rw [wayI_s, bP_t (hQ.mp c31), if_pos rfl, if_neg (by omega)] at hz
                     exact ⟨by omega, by rw [show wi - (n + 1) = wi - n - 1 by omega]; exact hz.2⟩)
              | (rw [wayN_s, bP_f (show ¬ (wQ (nwt σ 75) (σ 75 1) (σ 75 0) ru) f from fun q => c31 (hQ.mpr q))] at hqN
                 rw [Int.add_zero]
                 rcases h60 with ⟨g1, g2, g3⟩ | ⟨g1, g2, g3⟩
                 · rcases nxT_v (k := k) (by omega) (σ 75 1).toNat f hf with ⟨v1, v2, -⟩ | ⟨v1, v2⟩
                   · refine ih n t60 (nxT k (σ 75 1).toNat f) r60 fu' (some (iv (bP (ruleP ru (τ 89) (σ 75 0))))) g2.1 (by omega) (Or.inl ⟨g1, by omega, g2, nxT_R (by omega) _ f hf, by omega⟩) (by omega) rfl (by omega) (fun q => ?_)
                     have hz := hqI q
                     rw [wayI_s, bP_f (show ¬ (wQ (nwt σ 75) (σ 75 1) (σ 75 0) ru) f from fun q => c31 (hQ.mpr q)), if_neg (by decide)] at hz
                     exact hz
                   · exact absurd (fun j a b => v2 j a (by omega)) g3
                 · rcases nxT_v (k := k) (by omega) (σ 75 1).toNat f hf with ⟨v1, v2, j, j1, j2, j3⟩ | ⟨v1, v2⟩
                   · have := g2 j j1 (by omega)
                     omega
                   · refine ih n t60 (nxT k (σ 75 1).toNat f) r60 fu' (some (iv (bP (ruleP ru (τ 89) (σ 75 0))))) g3 (by omega) (Or.inr ⟨g1, by omega⟩) (by omega) rfl (by omega) (fun q => ?_)
                     have hz := hqI q
                     rw [wayI_s, bP_f (show ¬ (wQ (nwt σ 75) (σ 75 1) (σ 75 0) ru) f from fun q => c31 (hQ.mpr q)), if_neg (by decide)] at hz
                     exact hz)
          · try simp only [b01_0, b01_n, bP_0, bP_n, Classical.not_not] at c47
            refine aw_iconst G dX10_waysTo_50 ?_
            refine aw_goto (tgt := 55) G dX10_waysTo_51 (by decide) ?_
            refine aw_iadd G dX10_waysTo_55 ?_
            refine aw_istore_4 G dX10_waysTo_56 (hc := by first | rfl | assumption) (k := ?_)
            refine aw_aload_n G dX10_waysTo_58 rfl ?_
            refine aw_iload_n G dX10_waysTo_59 rfl ?_
            refine cv_X10_171 G dX10_waysTo_60 (c_X10_goesOn hn hT hf (by omega)) (kk := fun r60 t60 h60 => ?_)
            refine aw_istore_5 G dX10_waysTo_63 (hc := by first | rfl | assumption) (k := ?_)
            refine aw_goto (tgt := 10) G dX10_waysTo_65 (by decide) ?_
            first
              | exact absurd c31 c47
              | exact absurd c47 c31
              | (rw [wayN_s, bP_t (hQ.mp c31)] at hqN
                 rcases h60 with ⟨g1, g2, g3⟩ | ⟨g1, g2, g3⟩
                 · rcases nxT_v (k := k) (by omega) (σ 75 1).toNat f hf with ⟨v1, v2, -⟩ | ⟨v1, v2⟩
                   · refine ih (n + 1) t60 (nxT k (σ 75 1).toNat f) r60 fu' (some (iv (bP (ruleP ru (τ 89) (σ 75 0))))) g2.1 (by omega) (Or.inl ⟨g1, by omega, g2, nxT_R (by omega) _ f hf, by omega⟩) (by omega) rfl (by omega) (fun q => ?_)
                     have hz := hqI q
                     rw [wayI_s, bP_t (hQ.mp c31), if_pos rfl, if_neg (by omega)] at hz
                     exact ⟨by omega, by rw [show wi - (n + 1) = wi - n - 1 by omega]; exact hz.2⟩
                   · exact absurd (fun j a b => v2 j a (by omega)) g3
                 · rcases nxT_v (k := k) (by omega) (σ 75 1).toNat f hf with ⟨v1, v2, j, j1, j2, j3⟩ | ⟨v1, v2⟩
                   · have := g2 j j1 (by omega)
                     omega
                   · refine ih (n + 1) t60 (nxT k (σ 75 1).toNat f) r60 fu' (some (iv (bP (ruleP ru (τ 89) (σ 75 0))))) g3 (by omega) (Or.inr ⟨g1, by omega⟩) (by omega) rfl (by omega) (fun q => ?_)
                     have hz := hqI q
                     rw [wayI_s, bP_t (hQ.mp c31), if_pos rfl, if_neg (by omega)] at hz
                     exact ⟨by omega, by rw [show wi - (n + 1) = wi - n - 1 by omega]; exact hz.2⟩)
              | (rw [wayN_s, bP_f (show ¬ (wQ (nwt σ 75) (σ 75 1) (σ 75 0) ru) f from fun q => c31 (hQ.mpr q))] at hqN
                 rw [Int.add_zero]
                 rcases h60 with ⟨g1, g2, g3⟩ | ⟨g1, g2, g3⟩
                 · rcases nxT_v (k := k) (by omega) (σ 75 1).toNat f hf with ⟨v1, v2, -⟩ | ⟨v1, v2⟩
                   · refine ih n t60 (nxT k (σ 75 1).toNat f) r60 fu' (some (iv (bP (ruleP ru (τ 89) (σ 75 0))))) g2.1 (by omega) (Or.inl ⟨g1, by omega, g2, nxT_R (by omega) _ f hf, by omega⟩) (by omega) rfl (by omega) (fun q => ?_)
                     have hz := hqI q
                     rw [wayI_s, bP_f (show ¬ (wQ (nwt σ 75) (σ 75 1) (σ 75 0) ru) f from fun q => c31 (hQ.mpr q)), if_neg (by decide)] at hz
                     exact hz
                   · exact absurd (fun j a b => v2 j a (by omega)) g3
                 · rcases nxT_v (k := k) (by omega) (σ 75 1).toNat f hf with ⟨v1, v2, j, j1, j2, j3⟩ | ⟨v1, v2⟩
                   · have := g2 j j1 (by omega)
                     omega
                   · refine ih n t60 (nxT k (σ 75 1).toNat f) r60 fu' (some (iv (bP (ruleP ru (τ 89) (σ 75 0))))) g3 (by omega) (Or.inr ⟨g1, by omega⟩) (by omega) rfl (by omega) (fun q => ?_)
                     have hz := hqI q
                     rw [wayI_s, bP_f (show ¬ (wQ (nwt σ 75) (σ 75 1) (σ 75 0) ru) f from fun q => c31 (hQ.mpr q)), if_neg (by decide)] at hz
                     exact hz)
        · try simp only [b01_0, b01_n, bP_0, bP_n, Classical.not_not] at c31
          refine aw_iload G dX10_waysTo_34 rfl ?_
          refine aw_iload_n G dX10_waysTo_36 rfl ?_
          refine aw_icmp_ne (tgt := 43) G dX10_waysTo_37 (by decide) (by first | omega | exact b01_R _ | exact bP_R _) (by first | omega | exact b01_R _ | exact bP_R _) (fun c37 => ?_) (fun c37 => ?_)
          · refine aw_iload G dX10_waysTo_43 rfl ?_
            refine aw_iload G dX10_waysTo_45 rfl ?_
            refine aw_if_eq (tgt := 54) G dX10_waysTo_47 (by decide) (bP_R _) (fun c47 => ?_) (fun c47 => ?_)
            · try simp only [b01_0, b01_n, bP_0, bP_n, Classical.not_not] at c47
              refine aw_iconst G dX10_waysTo_54 ?_
              refine aw_iadd G dX10_waysTo_55 ?_
              refine aw_istore_4 G dX10_waysTo_56 (hc := by first | rfl | assumption) (k := ?_)
              refine aw_aload_n G dX10_waysTo_58 rfl ?_
              refine aw_iload_n G dX10_waysTo_59 rfl ?_
              refine cv_X10_171 G dX10_waysTo_60 (c_X10_goesOn hn hT hf (by omega)) (kk := fun r60 t60 h60 => ?_)
              refine aw_istore_5 G dX10_waysTo_63 (hc := by first | rfl | assumption) (k := ?_)
              refine aw_goto (tgt := 10) G dX10_waysTo_65 (by decide) ?_
              first
                | exact absurd c31 c47
                | exact absurd c47 c31
                | (rw [wayN_s, bP_t (hQ.mp c31)] at hqN
                   rcases h60 with ⟨g1, g2, g3⟩ | ⟨g1, g2, g3⟩
                   · rcases nxT_v (k := k) (by omega) (σ 75 1).toNat f hf with ⟨v1, v2, -⟩ | ⟨v1, v2⟩
                     · refine ih (n + 1) t60 (nxT k (σ 75 1).toNat f) r60 fu' (some (iv (bP (ruleP ru (τ 89) (σ 75 0))))) g2.1 (by omega) (Or.inl ⟨g1, by omega, g2, nxT_R (by omega) _ f hf, by omega⟩) (by omega) rfl (by omega) (fun q => ?_)
                       have hz := hqI q
                       rw [wayI_s, bP_t (hQ.mp c31), if_pos rfl, if_neg (by omega)] at hz
                       exact ⟨by omega, by rw [show wi - (n + 1) = wi - n - 1 by omega]; exact hz.2⟩
                     · exact absurd (fun j a b => v2 j a (by omega)) g3
                   · rcases nxT_v (k := k) (by omega) (σ 75 1).toNat f hf with ⟨v1, v2, j, j1, j2, j3⟩ | ⟨v1, v2⟩
                     · have := g2 j j1 (by omega)
                       omega
                     · refine ih (n + 1) t60 (nxT k (σ 75 1).toNat f) r60 fu' (some (iv (bP (ruleP ru (τ 89) (σ 75 0))))) g3 (by omega) (Or.inr ⟨g1, by omega⟩) (by omega) rfl (by omega) (fun q => ?_)
                       have hz := hqI q
                       rw [wayI_s, bP_t (hQ.mp c31), if_pos rfl, if_neg (by omega)] at hz
                       exact ⟨by omega, by rw [show wi - (n + 1) = wi - n - 1 by omega]; exact hz.2⟩)
                | (rw [wayN_s, bP_f (show ¬ (wQ (nwt σ 75) (σ 75 1) (σ 75 0) ru) f from fun q => c31 (hQ.mpr q))] at hqN
                   rw [Int.add_zero]
                   rcases h60 with ⟨g1, g2, g3⟩ | ⟨g1, g2, g3⟩
                   · rcases nxT_v (k := k) (by omega) (σ 75 1).toNat f hf with ⟨v1, v2, -⟩ | ⟨v1, v2⟩
                     · refine ih n t60 (nxT k (σ 75 1).toNat f) r60 fu' (some (iv (bP (ruleP ru (τ 89) (σ 75 0))))) g2.1 (by omega) (Or.inl ⟨g1, by omega, g2, nxT_R (by omega) _ f hf, by omega⟩) (by omega) rfl (by omega) (fun q => ?_)
                       have hz := hqI q
                       rw [wayI_s, bP_f (show ¬ (wQ (nwt σ 75) (σ 75 1) (σ 75 0) ru) f from fun q => c31 (hQ.mpr q)), if_neg (by decide)] at hz
                       exact hz
                     · exact absurd (fun j a b => v2 j a (by omega)) g3
                   · rcases nxT_v (k := k) (by omega) (σ 75 1).toNat f hf with ⟨v1, v2, j, j1, j2, j3⟩ | ⟨v1, v2⟩
                     · have := g2 j j1 (by omega)
                       omega
                     · refine ih n t60 (nxT k (σ 75 1).toNat f) r60 fu' (some (iv (bP (ruleP ru (τ 89) (σ 75 0))))) g3 (by omega) (Or.inr ⟨g1, by omega⟩) (by omega) rfl (by omega) (fun q => ?_)
                       have hz := hqI q
                       rw [wayI_s, bP_f (show ¬ (wQ (nwt σ 75) (σ 75 1) (σ 75 0) ru) f from fun q => c31 (hQ.mpr q)), if_neg (by decide)] at hz
                       exact hz)
            · try simp only [b01_0, b01_n, bP_0, bP_n, Classical.not_not] at c47
              refine aw_iconst G dX10_waysTo_50 ?_
              refine aw_goto (tgt := 55) G dX10_waysTo_51 (by decide) ?_
              refine aw_iadd G dX10_waysTo_55 ?_
              refine aw_istore_4 G dX10_waysTo_56 (hc := by first | rfl | assumption) (k := ?_)
              refine aw_aload_n G dX10_waysTo_58 rfl ?_
              refine aw_iload_n G dX10_waysTo_59 rfl ?_
              refine cv_X10_171 G dX10_waysTo_60 (c_X10_goesOn hn hT hf (by omega)) (kk := fun r60 t60 h60 => ?_)
              refine aw_istore_5 G dX10_waysTo_63 (hc := by first | rfl | assumption) (k := ?_)
              refine aw_goto (tgt := 10) G dX10_waysTo_65 (by decide) ?_
              first
                | exact absurd c31 c47
                | exact absurd c47 c31
                | (rw [wayN_s, bP_t (hQ.mp c31)] at hqN
                   rcases h60 with ⟨g1, g2, g3⟩ | ⟨g1, g2, g3⟩
                   · rcases nxT_v (k := k) (by omega) (σ 75 1).toNat f hf with ⟨v1, v2, -⟩ | ⟨v1, v2⟩
                     · refine ih (n + 1) t60 (nxT k (σ 75 1).toNat f) r60 fu' (some (iv (bP (ruleP ru (τ 89) (σ 75 0))))) g2.1 (by omega) (Or.inl ⟨g1, by omega, g2, nxT_R (by omega) _ f hf, by omega⟩) (by omega) rfl (by omega) (fun q => ?_)
                       have hz := hqI q
                       rw [wayI_s, bP_t (hQ.mp c31), if_pos rfl, if_neg (by omega)] at hz
                       exact ⟨by omega, by rw [show wi - (n + 1) = wi - n - 1 by omega]; exact hz.2⟩
                     · exact absurd (fun j a b => v2 j a (by omega)) g3
                   · rcases nxT_v (k := k) (by omega) (σ 75 1).toNat f hf with ⟨v1, v2, j, j1, j2, j3⟩ | ⟨v1, v2⟩
                     · have := g2 j j1 (by omega)
                       omega
                     · refine ih (n + 1) t60 (nxT k (σ 75 1).toNat f) r60 fu' (some (iv (bP (ruleP ru (τ 89) (σ 75 0))))) g3 (by omega) (Or.inr ⟨g1, by omega⟩) (by omega) rfl (by omega) (fun q => ?_)
                       have hz := hqI q
                       rw [wayI_s, bP_t (hQ.mp c31), if_pos rfl, if_neg (by omega)] at hz
                       exact ⟨by omega, by rw [show wi - (n + 1) = wi - n - 1 by omega]; exact hz.2⟩)
                | (rw [wayN_s, bP_f (show ¬ (wQ (nwt σ 75) (σ 75 1) (σ 75 0) ru) f from fun q => c31 (hQ.mpr q))] at hqN
                   rw [Int.add_zero]
                   rcases h60 with ⟨g1, g2, g3⟩ | ⟨g1, g2, g3⟩
                   · rcases nxT_v (k := k) (by omega) (σ 75 1).toNat f hf with ⟨v1, v2, -⟩ | ⟨v1, v2⟩
                     · refine ih n t60 (nxT k (σ 75 1).toNat f) r60 fu' (some (iv (bP (ruleP ru (τ 89) (σ 75 0))))) g2.1 (by omega) (Or.inl ⟨g1, by omega, g2, nxT_R (by omega) _ f hf, by omega⟩) (by omega) rfl (by omega) (fun q => ?_)
                       have hz := hqI q
                       rw [wayI_s, bP_f (show ¬ (wQ (nwt σ 75) (σ 75 1) (σ 75 0) ru) f from fun q => c31 (hQ.mpr q)), if_neg (by decide)] at hz
                       exact hz
                     · exact absurd (fun j a b => v2 j a (by omega)) g3
                   · rcases nxT_v (k := k) (by omega) (σ 75 1).toNat f hf with ⟨v1, v2, j, j1, j2, j3⟩ | ⟨v1, v2⟩
                     · have := g2 j j1 (by omega)
                       omega
                     · refine ih n t60 (nxT k (σ 75 1).toNat f) r60 fu' (some (iv (bP (ruleP ru (τ 89) (σ 75 0))))) g3 (by omega) (Or.inr ⟨g1, by omega⟩) (by omega) rfl (by omega) (fun q => ?_)
                       have hz := hqI q
                       rw [wayI_s, bP_f (show ¬ (wQ (nwt σ 75) (σ 75 1) (σ 75 0) ru) f from fun q => c31 (hQ.mpr q)), if_neg (by decide)] at hz
                       exact hz)
          · refine aw_iload G dX10_waysTo_40 rfl ?_
            exact aw_iret G T dX10_waysTo_42 (by
          refine ⟨hO, Or.inr ⟨by omega, by omega, f, ?_, fun j a b => hT.2.2.1 j a b⟩, by omega, by omega⟩
          have hz := (hqI (by omega)).2
          rw [wayI_s, bP_t (hQ.mp c31), if_pos rfl, if_pos (by omega)] at hz
          exact hz.symm)
  refine aw_aload_n G dX10_waysTo_0 rfl ?_
  refine cv_X10_168 G dX10_waysTo_1 (c_X10_triesNought (by assumption)) (kk := fun t1 h1 => ?_)
  refine aw_iconst G dX10_waysTo_4 ?_
  refine aw_istore_4 G dX10_waysTo_5 (hc := by first | rfl | assumption) (k := ?_)
  refine aw_iconst G dX10_waysTo_7 ?_
  refine aw_istore_5 G dX10_waysTo_8 (hc := by first | rfl | assumption) (k := ?_)
  exact loop ((pw (k + 1) (σ 75 1).toNat).toNat + 1) 0 t1 (fun _ => 0) 1 (pw (k + 1) (σ 75 1).toNat).toNat _ h1.1 (by omega) (Or.inl ⟨rfl, by omega, h1, fun j => by omega, by rw [valF_0]; omega⟩) (by omega) rfl (by unfold waN wN; omega) (fun q => ⟨by omega, by rw [show wi - 0 = wi by omega]; rfl⟩)
