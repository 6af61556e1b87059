set_option maxHeartbeats 4000000 in
theorem c_X10_ways {V : Wd} {σ : St} {ru k i l : Int} (h1 : inR ru) (h2 : inR k) (h3 : inR i) (h4 : inR l) (hk : OK σ) : Ct V yX10_ways cX10_ways 6 (some .int) 5 112 [rv V 75, iv ru, iv k, iv i, iv l] σ (PI (fun r τ => r = an_ways σ ru k i l ∧ ME τ (nx_ways σ ru k i l))) := by
  refine ct_of (by decide) (Nat.le_of_ble_eq_true rfl) (fun X G T => ?_)
  have G : Gd X V cX10_ways RX10 6 5 112 := G
  show AW X V σ 0 [] [some (rv V 75), some (iv ru), some (iv k), some (iv i), some (iv l), none]
  obtain ⟨⟨n1, n2, n3, n4, n5, n6⟩, u1, l1, l2, i1, s1, w1⟩ := id hk
  refine aw_iload_n G dX10_ways_0 rfl ?_
  refine aw_iconst G dX10_ways_1 ?_
  refine aw_iconst G dX10_ways_2 ?_
  refine cs_X10_78 G dX10_ways_3 (c_X10_in (by first | assumption | omega) (by first | assumption | omega) (by first | assumption | omega)) (kk := fun r3 t3 h3 => ?_)
  obtain ⟨rfl, ee3⟩ := h3
  obtain rfl := ee3.symm
  refine aw_if_ne (tgt := 16) G dX10_ways_6 (by decide) (by first | omega | exact b01_R _ | exact bP_R _) (fun c6 => ?_) (fun c6 => ?_)
  · try simp only [b01_0, b01_n, bP_0, bP_n, Classical.not_not] at c6
    refine aw_iload_n G dX10_ways_16 rfl ?_
    refine aw_if_lt (tgt := 25) G dX10_ways_17 (by decide) (by first | omega | exact b01_R _ | exact bP_R _) (fun c17 => ?_) (fun c17 => ?_)
    · refine aw_aload_n G dX10_ways_25 rfl ?_
      refine aw_bipush G dX10_ways_26 (k := ?_)
      refine cv_X10_87 G dX10_ways_28 (c_X10_refused (by decide)) (kk := fun r28 t28 h28 => ?_)
      obtain ⟨rfl, ee28⟩ := h28
      obtain rfl := ee28.symm
      exact aw_iret G T dX10_ways_31 (⟨by unfold an_ways; (repeat' split) <;> first | rfl | (exfalso; omega) | omega, by unfold nx_ways; (repeat' split) <;> first | exact ME.rf _ | (exfalso; omega)⟩)
    · refine aw_iload_n G dX10_ways_20 rfl ?_
      refine aw_iconst G dX10_ways_21 ?_
      refine aw_icmp_ge (tgt := 32) G dX10_ways_22 (by decide) (by first | omega | exact b01_R _ | exact bP_R _) (by first | omega | exact b01_R _ | exact bP_R _) (fun c22 => ?_) (fun c22 => ?_)
      · refine aw_iload_n G dX10_ways_32 rfl ?_
        refine aw_iconst G dX10_ways_33 ?_
        refine aw_icmp_le (tgt := 44) G dX10_ways_34 (by decide) (by first | omega | exact b01_R _ | exact bP_R _) (by first | omega | exact b01_R _ | exact bP_R _) (fun c34 => ?_) (fun c34 => ?_)
        · refine aw_iload_n G dX10_ways_44 rfl ?_
          refine aw_if_lt (tgt := 63) G dX10_ways_45 (by decide) (by first | omega | exact b01_R _ | exact bP_R _) (fun c45 => ?_) (fun c45 => ?_)
          · refine aw_iload_n G dX10_ways_63 rfl ?_
            refine aw_if_ge (tgt := 75) G dX10_ways_64 (by decide) (by first | omega | exact b01_R _ | exact bP_R _) (fun c64 => ?_) (fun c64 => ?_)
            · refine aw_aload_n G dX10_ways_75 rfl ?_
              refine aw_iload_n G dX10_ways_76 rfl ?_
              refine aw_iload_n G dX10_ways_77 rfl ?_
              refine aw_iconst G dX10_ways_78 ?_
              refine cv_X10_174 G dX10_ways_79 (c_X10_waysTo hk.1 (by omega) (by omega) (by omega)) (kk := fun r79 t79 h79 => ?_)
              obtain ⟨ho79, hc79, hr79⟩ := h79
              have hN0 : r79 = waN σ ru k := by
                rcases hc79 with ⟨q1, q2⟩ | ⟨q1, q2⟩
                · exact q1
                · omega
              refine aw_iload_n G dX10_ways_82 rfl ?_
              refine aw_icmp_gt (tgt := 89) G dX10_ways_83 (by decide) (by first | omega | exact b01_R _ | exact bP_R _) (by first | omega | exact b01_R _ | exact bP_R _) (fun c83 => ?_) (fun c83 => ?_)
              · refine aw_aload_n G dX10_ways_89 rfl ?_
                refine aw_iload_n G dX10_ways_90 rfl ?_
                refine aw_iload_n G dX10_ways_91 rfl ?_
                refine aw_iload_n G dX10_ways_92 rfl ?_
                refine cv_X10_174 G dX10_ways_93 (c_X10_waysTo (NetOK.only ho79 (by decide) hk.1) (by omega) (by omega) (by omega)) (kk := fun r93 t93 h93 => ?_)
                obtain ⟨ho93, hc93, hr93⟩ := h93
                obtain ⟨wc1, wc2⟩ := wa_c ho79 ru k
                rw [wc1, wc2 i, ho79 75 (by decide)] at hc93
                refine aw_istore_5 G dX10_ways_96 (hc := by first | rfl | assumption) (k := ?_)
                refine aw_aload_n G dX10_ways_98 rfl ?_
                refine gf_X10_50 G dX10_ways_99 (kk := ?_)
                refine aw_iload G dX10_ways_102 rfl ?_
                refine aw_iaload G dX10_ways_104 (by first | decide | assumption | omega) (by first | rfl | assumption) (by first | decide | assumption) (by omega) ?_
                exact aw_iret G T dX10_ways_105 (by
    refine ⟨?_, by unfold nx_ways; (repeat' split) <;> first | exact ME_T (ho79.tr ho93) | (exfalso; omega)⟩
    rcases hc93 with ⟨q1, q2⟩ | ⟨q1, q2, f, q3, q4⟩
    · omega
    · unfold an_ways
      rw [if_neg (by omega), if_neg (by omega), if_neg (by omega), if_neg (by omega), if_neg (by omega), q3]
      exact q4 l (by omega) (by omega))
              · refine aw_bipush G dX10_ways_86 (k := ?_)
                exact aw_iret G T dX10_ways_88 (by
    refine ⟨?_, by unfold nx_ways; (repeat' split) <;> first | exact ME_T ho79 | (exfalso; omega)⟩
    unfold an_ways
    rw [if_neg (by omega), if_neg (by omega), if_neg (by omega), if_neg (by omega), if_neg (by omega), (waI_n (by omega)).mpr (by omega)])
            · refine aw_aload_n G dX10_ways_67 rfl ?_
              refine aw_iload_n G dX10_ways_68 rfl ?_
              refine aw_iload_n G dX10_ways_69 rfl ?_
              refine aw_iconst G dX10_ways_70 ?_
              refine cv_X10_174 G dX10_ways_71 (c_X10_waysTo hk.1 (by omega) (by omega) (by omega)) (kk := fun r71 t71 h71 => ?_)
              obtain ⟨ho71, hc71, hr71⟩ := h71
              exact aw_iret G T dX10_ways_74 (by
    refine ⟨?_, by unfold nx_ways; (repeat' split) <;> first | exact ME_T ho71 | (exfalso; omega)⟩
    unfold an_ways
    rw [if_neg (by omega), if_neg (by omega), if_neg (by omega), if_neg (by omega), if_pos (by omega)]
    rcases hc71 with ⟨q1, q2⟩ | ⟨q1, q2⟩
    · exact q1
    · omega)
          · refine aw_aload_n G dX10_ways_48 rfl ?_
            refine aw_iload G dX10_ways_49 rfl ?_
            refine cv_X10_108 G dX10_ways_51 (c_X10_isLine (by first | assumption | omega) (by omega)) (kk := fun r51 t51 h51 => ?_)
            obtain ⟨rfl, ee51⟩ := h51
            obtain rfl := ee51.symm
            refine aw_if_ne (tgt := 63) G dX10_ways_54 (by decide) (by first | omega | exact b01_R _ | exact bP_R _) (fun c54 => ?_) (fun c54 => ?_)
            · try simp only [b01_0, b01_n, bP_0, bP_n, Classical.not_not] at c54
              refine aw_iload_n G dX10_ways_63 rfl ?_
              refine aw_if_ge (tgt := 75) G dX10_ways_64 (by decide) (by first | omega | exact b01_R _ | exact bP_R _) (fun c64 => ?_) (fun c64 => ?_)
              · refine aw_aload_n G dX10_ways_75 rfl ?_
                refine aw_iload_n G dX10_ways_76 rfl ?_
                refine aw_iload_n G dX10_ways_77 rfl ?_
                refine aw_iconst G dX10_ways_78 ?_
                refine cv_X10_174 G dX10_ways_79 (c_X10_waysTo hk.1 (by omega) (by omega) (by omega)) (kk := fun r79 t79 h79 => ?_)
                obtain ⟨ho79, hc79, hr79⟩ := h79
                have hN0 : r79 = waN σ ru k := by
                  rcases hc79 with ⟨q1, q2⟩ | ⟨q1, q2⟩
                  · exact q1
                  · omega
                refine aw_iload_n G dX10_ways_82 rfl ?_
                refine aw_icmp_gt (tgt := 89) G dX10_ways_83 (by decide) (by first | omega | exact b01_R _ | exact bP_R _) (by first | omega | exact b01_R _ | exact bP_R _) (fun c83 => ?_) (fun c83 => ?_)
                · refine aw_aload_n G dX10_ways_89 rfl ?_
                  refine aw_iload_n G dX10_ways_90 rfl ?_
                  refine aw_iload_n G dX10_ways_91 rfl ?_
                  refine aw_iload_n G dX10_ways_92 rfl ?_
                  refine cv_X10_174 G dX10_ways_93 (c_X10_waysTo (NetOK.only ho79 (by decide) hk.1) (by omega) (by omega) (by omega)) (kk := fun r93 t93 h93 => ?_)
                  obtain ⟨ho93, hc93, hr93⟩ := h93
                  obtain ⟨wc1, wc2⟩ := wa_c ho79 ru k
                  rw [wc1, wc2 i, ho79 75 (by decide)] at hc93
                  refine aw_istore_5 G dX10_ways_96 (hc := by first | rfl | assumption) (k := ?_)
                  refine aw_aload_n G dX10_ways_98 rfl ?_
                  refine gf_X10_50 G dX10_ways_99 (kk := ?_)
                  refine aw_iload G dX10_ways_102 rfl ?_
                  refine aw_iaload G dX10_ways_104 (by first | decide | assumption | omega) (by first | rfl | assumption) (by first | decide | assumption) (by omega) ?_
                  exact aw_iret G T dX10_ways_105 (by
    refine ⟨?_, by unfold nx_ways; (repeat' split) <;> first | exact ME_T (ho79.tr ho93) | (exfalso; omega)⟩
    rcases hc93 with ⟨q1, q2⟩ | ⟨q1, q2, f, q3, q4⟩
    · omega
    · unfold an_ways
      rw [if_neg (by omega), if_neg (by omega), if_neg (by omega), if_neg (by omega), if_neg (by omega), q3]
      exact q4 l (by omega) (by omega))
                · refine aw_bipush G dX10_ways_86 (k := ?_)
                  exact aw_iret G T dX10_ways_88 (by
    refine ⟨?_, by unfold nx_ways; (repeat' split) <;> first | exact ME_T ho79 | (exfalso; omega)⟩
    unfold an_ways
    rw [if_neg (by omega), if_neg (by omega), if_neg (by omega), if_neg (by omega), if_neg (by omega), (waI_n (by omega)).mpr (by omega)])
              · refine aw_aload_n G dX10_ways_67 rfl ?_
                refine aw_iload_n G dX10_ways_68 rfl ?_
                refine aw_iload_n G dX10_ways_69 rfl ?_
                refine aw_iconst G dX10_ways_70 ?_
                refine cv_X10_174 G dX10_ways_71 (c_X10_waysTo hk.1 (by omega) (by omega) (by omega)) (kk := fun r71 t71 h71 => ?_)
                obtain ⟨ho71, hc71, hr71⟩ := h71
                exact aw_iret G T dX10_ways_74 (by
    refine ⟨?_, by unfold nx_ways; (repeat' split) <;> first | exact ME_T ho71 | (exfalso; omega)⟩
    unfold an_ways
    rw [if_neg (by omega), if_neg (by omega), if_neg (by omega), if_neg (by omega), if_pos (by omega)]
    rcases hc71 with ⟨q1, q2⟩ | ⟨q1, q2⟩
    · exact q1
    · omega)
            · try simp only [b01_0, b01_n, bP_0, bP_n, Classical.not_not] at c54
              refine aw_aload_n G dX10_ways_57 rfl ?_
              refine aw_iconst G dX10_ways_58 ?_
              refine cv_X10_87 G dX10_ways_59 (c_X10_refused (by decide)) (kk := fun r59 t59 h59 => ?_)
              obtain ⟨rfl, ee59⟩ := h59
              obtain rfl := ee59.symm
              exact aw_iret G T dX10_ways_62 (⟨by unfold an_ways; (repeat' split) <;> first | rfl | (exfalso; omega) | omega, by unfold nx_ways; (repeat' split) <;> first | exact ME.rf _ | (exfalso; omega)⟩)
        · refine aw_aload_n G dX10_ways_37 rfl ?_
          refine aw_bipush G dX10_ways_38 (k := ?_)
          refine cv_X10_87 G dX10_ways_40 (c_X10_refused (by decide)) (kk := fun r40 t40 h40 => ?_)
          obtain ⟨rfl, ee40⟩ := h40
          obtain rfl := ee40.symm
          exact aw_iret G T dX10_ways_43 (⟨by unfold an_ways; (repeat' split) <;> first | rfl | (exfalso; omega) | omega, by unfold nx_ways; (repeat' split) <;> first | exact ME.rf _ | (exfalso; omega)⟩)
      · refine aw_aload_n G dX10_ways_25 rfl ?_
        refine aw_bipush G dX10_ways_26 (k := ?_)
        refine cv_X10_87 G dX10_ways_28 (c_X10_refused (by decide)) (kk := fun r28 t28 h28 => ?_)
        obtain ⟨rfl, ee28⟩ := h28
        obtain rfl := ee28.symm
        exact aw_iret G T dX10_ways_31 (⟨by unfold an_ways; (repeat' split) <;> first | rfl | (exfalso; omega) | omega, by unfold nx_ways; (repeat' split) <;> first | exact ME.rf _ | (exfalso; omega)⟩)
  · try simp only [b01_0, b01_n, bP_0, bP_n, Classical.not_not] at c6
    refine aw_aload_n G dX10_ways_9 rfl ?_
    refine aw_bipush G dX10_ways_10 (k := ?_)
    refine cv_X10_87 G dX10_ways_12 (c_X10_refused (by decide)) (kk := fun r12 t12 h12 => ?_)
    obtain ⟨rfl, ee12⟩ := h12
    obtain rfl := ee12.symm
    exact aw_iret G T dX10_ways_15 (⟨by unfold an_ways; (repeat' split) <;> first | rfl | (exfalso; omega) | omega, by unfold nx_ways; (repeat' split) <;> first | exact ME.rf _ | (exfalso; omega)⟩)

set_option maxHeartbeats 4000000 in
theorem c_X10_lots {V : Wd} {σ : St} {ru n z v : Int} (h1 : inR ru) (h2 : inR n) (h3 : inR z) (h4 : inR v) (hk : OK σ) : Ct V yX10_lots cX10_lots 10 (some .int) 3 69 [rv V 75, iv ru, iv n, iv z, iv v] σ (PI (fun r τ => r = an_lots σ ru n z v ∧ ME τ (nx_lots σ ru n v))) := by
  refine ct_of (by decide) (Nat.le_of_ble_eq_true rfl) (fun X G T => ?_)
  have G : Gd X V cX10_lots RX10 10 3 69 := G
  show AW X V σ 0 [] [some (rv V 75), some (iv ru), some (iv n), some (iv z), some (iv v), none, none, none, none, none]
  obtain ⟨⟨n1, n2, n3, n4, n5, n6⟩, u1, l1, l2, i1, s1, w1⟩ := id hk
  have main : (0 ≤ ru ∧ ru ≤ 5) → (1 ≤ n ∧ n ≤ 50) → (v = 0 ∨ v = 1) → ∀ t68 : St, (Only [90] σ t68) → (∀ p l : Int, 0 ≤ p → p < σ 75 0 → 0 ≤ l → l < σ 75 1 → t68 90 (8 * p + l) = nwt σ 75 p l) → AW X V t68 74 [] [some (rv V 75), some (iv ru), some (iv n), some (iv z), some (iv v), some (iv z), some (iv 0), some (iv 0), some (iv 0), none] := by
    intro hru hnn hv t68 o68 q68
    have loop : ∀ (n0 : Nat) (i : Int) (τ : St) (u : Option Value), (0 ≤ i ∧ i ≤ n) → (n < i + (n0 : Int)) → (Only mTr σ τ) → (∀ p l : Int, 0 ≤ p → p < σ 75 0 → 0 ≤ l → l < σ 75 1 → τ 90 (8 * p + l) = nwt σ 75 p l) → AW X V (τ) 74 [] [some (rv V 75), some (iv ru), some (iv n), some (iv z), some (iv v), some (iv (sdT (σ 75 1).toNat z i.toNat)), some (iv (sumTo (loT σ ru z) i.toNat)), some (iv (sumTo (loA σ z) i.toNat)), some (iv i), u] := by
      intro n0
      induction n0 with
      | zero =>
        intro i τ u h0 hc1 ho hw
        exfalso
        omega
      | succ n0 ih =>
        intro i τ u h0 hc1 ho hw
        refine aw_iload G dX10_lots_74 rfl ?_
        refine aw_iload_n G dX10_lots_76 rfl ?_
        refine aw_icmp_ge (tgt := 171) G dX10_lots_77 (by decide) (by first | omega | exact b01_R _ | exact bP_R _) (by first | omega | exact b01_R _ | exact bP_R _) (fun c77 => ?_) (fun c77 => ?_)
        · refine aw_iload G dX10_lots_171 rfl ?_
          refine aw_if_ne (tgt := 181) G dX10_lots_173 (by decide) (by first | omega | exact b01_R _ | exact bP_R _) (fun c173 => ?_) (fun c173 => ?_)
          · try simp only [b01_0, b01_n, bP_0, bP_n, Classical.not_not] at c173
            refine aw_iload G dX10_lots_181 rfl ?_
            exact aw_iret G T dX10_lots_183 (by
              have ei : i = n := by omega
              subst ei
              refine ⟨?_, by unfold nx_lots; (repeat' split) <;> first | exact ME_T ho | (exfalso; omega)⟩
              unfold an_lots
              rw [if_neg (by omega), if_neg (by omega), if_neg (by omega), if_neg (by omega)]
              first | rw [if_pos (by omega)] | rw [if_neg (by omega)])
          · try simp only [b01_0, b01_n, bP_0, bP_n, Classical.not_not] at c173
            refine aw_iload G dX10_lots_176 rfl ?_
            refine aw_goto (tgt := 183) G dX10_lots_178 (by decide) ?_
            exact aw_iret G T dX10_lots_183 (by
              have ei : i = n := by omega
              subst ei
              refine ⟨?_, by unfold nx_lots; (repeat' split) <;> first | exact ME_T ho | (exfalso; omega)⟩
              unfold an_lots
              rw [if_neg (by omega), if_neg (by omega), if_neg (by omega), if_neg (by omega)]
              first | rw [if_pos (by omega)] | rw [if_neg (by omega)])
        · refine aw_iconst G dX10_lots_80 ?_
          refine aw_istore_9 G dX10_lots_81 (hc := by first | rfl | assumption) (k := ?_)
          have inner : ∀ (n1 : Nat) (j : Int) (τ1 : St), (0 ≤ j ∧ j ≤ σ 75 1) → (σ 75 1 < j + (n1 : Int)) → (Only [88] τ τ1) → (∀ j' : Int, 0 ≤ j' → j' < j → τ1 88 j' = lotF (σ 75 1).toNat z i j') → AW X V (τ1) 83 [] [some (rv V 75), some (iv ru), some (iv n), some (iv z), some (iv v), some (iv (sd (sdT (σ 75 1).toNat z i.toNat) j.toNat)), some (iv (sumTo (loT σ ru z) i.toNat)), some (iv (sumTo (loA σ z) i.toNat)), some (iv i), some (iv j)] := by
            intro n1
            induction n1 with
            | zero =>
              intro j τ1 g0 g1 go gq
              exfalso
              omega
            | succ n1 ih1 =>
              intro j τ1 g0 g1 go gq
              have e75 : τ1 75 = σ 75 := (go 75 (by decide)).trans (ho 75 (by decide))
              refine aw_iload G dX10_lots_83 rfl ?_
              refine aw_aload_n G dX10_lots_85 rfl ?_
              refine gf_X10_82 G dX10_lots_86 (kk := ?_)
              rw [e75]
              refine aw_icmp_ge (tgt := 127) G dX10_lots_89 (by decide) (by first | omega | exact b01_R _ | exact bP_R _) (by first | omega | exact b01_R _ | exact bP_R _) (fun c89 => ?_) (fun c89 => ?_)
              · have ej : j = σ 75 1 := by omega
                subst ej
                refine aw_aload_n G dX10_lots_127 rfl ?_
                refine cv_X10_144 G dX10_lots_128 (c_X10_laySums (by rw [e75]; omega)) (kk := fun t128 h128 => ?_)
                obtain ⟨o1, q1⟩ := h128
                have hMT : MT σ t128 (lotF (σ 75 1).toNat z i) := MT_lay (ho.tr (go.mono (by decide))) (fun p l a b c d => by rw [go 90 (by decide)]; exact hw p l a b c d) gq o1 q1
                have e75b : t128 75 = σ 75 := hMT.1 75 (by decide)
                have hRs := MT_R hMT hk.1 (fun j a b => by have := dr_R (sd (sdT (σ 75 1).toNat z i.toNat) (j.toNat + 1)); unfold lotF; omega)
                have hQ : ruleP ru (t128 89) (σ 75 0) ↔ wQ (nwt σ 75) (σ 75 1) (σ 75 0) ru (lotF (σ 75 1).toNat z i) := ruleP_c (fun p a b => hMT.2.2.2 p a b)
                refine aw_iload G dX10_lots_131 rfl ?_
                refine aw_iload_n G dX10_lots_133 rfl ?_
                refine aw_aload_n G dX10_lots_134 rfl ?_
                refine gf_X10_53 G dX10_lots_135 (kk := ?_)
                refine aw_aload_n G dX10_lots_138 rfl ?_
                refine gf_X10_7 G dX10_lots_139 (kk := ?_)
                rw [e75b]
                refine cs_X10_164 G dX10_lots_142 (c_X10_isSo (N := 7) (by decide) rfl (by decide) (by omega) hRs (by omega) (by omega)) (kk := fun r142 t142 h142 => ?_)
                obtain ⟨rfl, ee142⟩ := h142
                obtain rfl := ee142.symm
                refine aw_if_eq (tgt := 152) G dX10_lots_145 (by decide) (bP_R _) (fun c145 => ?_) (fun c145 => ?_)
                · try simp only [b01_0, b01_n, bP_0, bP_n, Classical.not_not] at c145
                  refine aw_iconst G dX10_lots_152 ?_
                  refine aw_iadd G dX10_lots_153 ?_
                  refine aw_istore_6 G dX10_lots_154 (hc := by first | rfl | assumption) (k := ?_)
                  refine aw_iload G dX10_lots_156 rfl ?_
                  refine aw_aload_n G dX10_lots_158 rfl ?_
                  refine cv_X10_161 G dX10_lots_159 (c_X10_totalNow (by rw [e75b]; omega)) (kk := fun r159 t159 h159 => ?_)
                  obtain ⟨rfl, ee159⟩ := h159
                  obtain rfl := ee159.symm
                  refine aw_iadd G dX10_lots_162 ?_
                  refine aw_istore_7 G dX10_lots_163 (hc := by first | rfl | assumption) (k := ?_)
                  refine aw_iinc_8 G dX10_lots_165 rfl (hc := by first | rfl | assumption) (k := ?_)
                  refine aw_goto (tgt := 74) G dX10_lots_168 (by decide) ?_
                  rw [show sumTo (t128 89) (t128 75 0).toNat = loA σ z i from by rw [e75b]; exact sumTo_c (fun p a b => hMT.2.2.2 p a (by omega))]
                  have hz := ih (i + 1) t128 (some (iv (σ 75 1))) (by omega) (by omega) hMT.1 hMT.2.1
                  rw [show (i + 1).toNat = i.toNat + 1 by omega, sumTo_s, sumTo_s, show ((i.toNat : Nat) : Int) = i by omega, sdT_s] at hz
                  first
                    | (rw [show loT σ ru z i = 1 from bP_t (hQ.mp c145)] at hz; exact hz)
                    | (rw [show loT σ ru z i = 0 from bP_f (fun q => c145 (hQ.mpr q))] at hz; exact hz)
                · try simp only [b01_0, b01_n, bP_0, bP_n, Classical.not_not] at c145
                  refine aw_iconst G dX10_lots_148 ?_
                  refine aw_goto (tgt := 153) G dX10_lots_149 (by decide) ?_
                  refine aw_iadd G dX10_lots_153 ?_
                  refine aw_istore_6 G dX10_lots_154 (hc := by first | rfl | assumption) (k := ?_)
                  refine aw_iload G dX10_lots_156 rfl ?_
                  refine aw_aload_n G dX10_lots_158 rfl ?_
                  refine cv_X10_161 G dX10_lots_159 (c_X10_totalNow (by rw [e75b]; omega)) (kk := fun r159 t159 h159 => ?_)
                  obtain ⟨rfl, ee159⟩ := h159
                  obtain rfl := ee159.symm
                  refine aw_iadd G dX10_lots_162 ?_
                  refine aw_istore_7 G dX10_lots_163 (hc := by first | rfl | assumption) (k := ?_)
                  refine aw_iinc_8 G dX10_lots_165 rfl (hc := by first | rfl | assumption) (k := ?_)
                  refine aw_goto (tgt := 74) G dX10_lots_168 (by decide) ?_
                  rw [show sumTo (t128 89) (t128 75 0).toNat = loA σ z i from by rw [e75b]; exact sumTo_c (fun p a b => hMT.2.2.2 p a (by omega))]
                  have hz := ih (i + 1) t128 (some (iv (σ 75 1))) (by omega) (by omega) hMT.1 hMT.2.1
                  rw [show (i + 1).toNat = i.toNat + 1 by omega, sumTo_s, sumTo_s, show ((i.toNat : Nat) : Int) = i by omega, sdT_s] at hz
                  first
                    | (rw [show loT σ ru z i = 1 from bP_t (hQ.mp c145)] at hz; exact hz)
                    | (rw [show loT σ ru z i = 0 from bP_f (fun q => c145 (hQ.mpr q))] at hz; exact hz)
              · refine aw_iload G dX10_lots_92 rfl ?_
                refine lc_X10_227 G dX10_lots_94 ?_
                refine aw_imul G dX10_lots_96 ?_
                refine lc_X10_228 G dX10_lots_97 ?_
                refine aw_iadd G dX10_lots_99 ?_
                refine aw_istore_5 G dX10_lots_100 (hc := by first | rfl | assumption) (k := ?_)
                refine aw_aload_n G dX10_lots_102 rfl ?_
                refine gf_X10_50 G dX10_lots_103 (kk := ?_)
                refine aw_iload G dX10_lots_106 rfl ?_
                refine aw_iload G dX10_lots_108 rfl ?_
                refine lc_X10_229 G dX10_lots_110 ?_
                refine aw_iand G dX10_lots_112 ?_
                refine aw_sipush G dX10_lots_113 (k := ?_)
                refine aw_idiv G dX10_lots_116 (by exact iand_R _ _) (by decide) ?_
                refine aw_bipush G dX10_lots_117 (k := ?_)
                refine aw_irem G dX10_lots_119 (by have := dr1_R (sd (sdT (σ 75 1).toNat z i.toNat) j.toNat * 1664525 + 1013904223); omega) (by decide) ?_
                refine aw_iastore G dX10_lots_120 (by first | decide | assumption | omega) (by first | rfl | assumption) (by first | decide | assumption) (by omega) ?_
                refine aw_iinc_9 G dX10_lots_121 rfl (hc := by first | rfl | assumption) (k := ?_)
                refine aw_goto (tgt := 83) G dX10_lots_124 (by decide) ?_
                refine (fun hz => ?_) (ih1 (j + 1) (up τ1 88 j (drF (sd (sdT (σ 75 1).toNat z i.toNat) j.toNat * 1664525 + 1013904223))) (by omega) (by omega) (go.up (by decide)) (fun j' a b => ?_))
                · rw [show (j + 1).toNat = j.toNat + 1 by omega, sd_s] at hz
                  exact hz
                · by_cases e : j' = j
                  · rw [e, up_at]
                    rfl
                  · rw [up_nj e]
                    exact gq j' a (by omega)
          exact inner ((σ 75 1).toNat + 1) 0 τ (by omega) (by omega) Only.rf (fun j' a b => by omega)
    exact loop (n.toNat + 1) 0 t68 _ (by omega) (by omega) (o68.mono (by decide)) q68
  refine aw_iload_n G dX10_lots_0 rfl ?_
  refine aw_iconst G dX10_lots_1 ?_
  refine aw_iconst G dX10_lots_2 ?_
  refine cs_X10_78 G dX10_lots_3 (c_X10_in (by first | assumption | omega) (by first | assumption | omega) (by first | assumption | omega)) (kk := fun r3 t3 h3 => ?_)
  obtain ⟨rfl, ee3⟩ := h3
  obtain rfl := ee3.symm
  refine aw_if_ne (tgt := 16) G dX10_lots_6 (by decide) (by first | omega | exact b01_R _ | exact bP_R _) (fun c6 => ?_) (fun c6 => ?_)
  · try simp only [b01_0, b01_n, bP_0, bP_n, Classical.not_not] at c6
    refine aw_iload_n G dX10_lots_16 rfl ?_
    refine aw_iconst G dX10_lots_17 ?_
    refine aw_icmp_ge (tgt := 28) G dX10_lots_18 (by decide) (by first | omega | exact b01_R _ | exact bP_R _) (by first | omega | exact b01_R _ | exact bP_R _) (fun c18 => ?_) (fun c18 => ?_)
    · refine aw_iload_n G dX10_lots_28 rfl ?_
      refine aw_bipush G dX10_lots_29 (k := ?_)
      refine aw_icmp_le (tgt := 41) G dX10_lots_31 (by decide) (by first | omega | exact b01_R _ | exact bP_R _) (by first | omega | exact b01_R _ | exact bP_R _) (fun c31 => ?_) (fun c31 => ?_)
      · refine aw_iload G dX10_lots_41 rfl ?_
        refine aw_iconst G dX10_lots_43 ?_
        refine aw_iconst G dX10_lots_44 ?_
        refine cs_X10_78 G dX10_lots_45 (c_X10_in (by first | assumption | omega) (by first | assumption | omega) (by first | assumption | omega)) (kk := fun r45 t45 h45 => ?_)
        obtain ⟨rfl, ee45⟩ := h45
        obtain rfl := ee45.symm
        refine aw_if_ne (tgt := 58) G dX10_lots_48 (by decide) (by first | omega | exact b01_R _ | exact bP_R _) (fun c48 => ?_) (fun c48 => ?_)
        · try simp only [b01_0, b01_n, bP_0, bP_n, Classical.not_not] at c48
          refine aw_iload_n G dX10_lots_58 rfl ?_
          refine aw_istore_5 G dX10_lots_59 (hc := by first | rfl | assumption) (k := ?_)
          refine aw_iconst G dX10_lots_61 ?_
          refine aw_istore_6 G dX10_lots_62 (hc := by first | rfl | assumption) (k := ?_)
          refine aw_iconst G dX10_lots_64 ?_
          refine aw_istore_7 G dX10_lots_65 (hc := by first | rfl | assumption) (k := ?_)
          refine aw_aload_n G dX10_lots_67 rfl ?_
          refine cv_X10_141 G dX10_lots_68 (c_X10_layWeights hk.1) (kk := fun t68 h68 => ?_)
          obtain ⟨o68, q68⟩ := h68
          refine aw_iconst G dX10_lots_71 ?_
          refine aw_istore_8 G dX10_lots_72 (hc := by first | rfl | assumption) (k := ?_)
          exact main (by omega) (by omega) (by omega) t68 o68 q68
        · try simp only [b01_0, b01_n, bP_0, bP_n, Classical.not_not] at c48
          refine aw_aload_n G dX10_lots_51 rfl ?_
          refine aw_bipush G dX10_lots_52 (k := ?_)
          refine cv_X10_87 G dX10_lots_54 (c_X10_refused (by decide)) (kk := fun r54 t54 h54 => ?_)
          obtain ⟨rfl, ee54⟩ := h54
          obtain rfl := ee54.symm
          exact aw_iret G T dX10_lots_57 (⟨by unfold an_lots; (repeat' split) <;> first | rfl | (exfalso; omega) | omega, by unfold nx_lots; (repeat' split) <;> first | exact ME.rf _ | (exfalso; omega)⟩)
      · refine aw_aload_n G dX10_lots_34 rfl ?_
        refine aw_bipush G dX10_lots_35 (k := ?_)
        refine cv_X10_87 G dX10_lots_37 (c_X10_refused (by decide)) (kk := fun r37 t37 h37 => ?_)
        obtain ⟨rfl, ee37⟩ := h37
        obtain rfl := ee37.symm
        exact aw_iret G T dX10_lots_40 (⟨by unfold an_lots; (repeat' split) <;> first | rfl | (exfalso; omega) | omega, by unfold nx_lots; (repeat' split) <;> first | exact ME.rf _ | (exfalso; omega)⟩)
    · refine aw_aload_n G dX10_lots_21 rfl ?_
      refine aw_bipush G dX10_lots_22 (k := ?_)
      refine cv_X10_87 G dX10_lots_24 (c_X10_refused (by decide)) (kk := fun r24 t24 h24 => ?_)
      obtain ⟨rfl, ee24⟩ := h24
      obtain rfl := ee24.symm
      exact aw_iret G T dX10_lots_27 (⟨by unfold an_lots; (repeat' split) <;> first | rfl | (exfalso; omega) | omega, by unfold nx_lots; (repeat' split) <;> first | exact ME.rf _ | (exfalso; omega)⟩)
  · try simp only [b01_0, b01_n, bP_0, bP_n, Classical.not_not] at c6
    refine aw_aload_n G dX10_lots_9 rfl ?_
    refine aw_bipush G dX10_lots_10 (k := ?_)
    refine cv_X10_87 G dX10_lots_12 (c_X10_refused (by decide)) (kk := fun r12 t12 h12 => ?_)
    obtain ⟨rfl, ee12⟩ := h12
    obtain rfl := ee12.symm
    exact aw_iret G T dX10_lots_15 (⟨by unfold an_lots; (repeat' split) <;> first | rfl | (exfalso; omega) | omega, by unfold nx_lots; (repeat' split) <;> first | exact ME.rf _ | (exfalso; omega)⟩)
set_option maxHeartbeats 4000000 in
theorem c_X10_asPart {V : Wd} {σ : St} {a b v : Int} (ha : 0 ≤ a ∧ a ≤ 65536) (hb : 1 ≤ b ∧ b ≤ 65536) (hv : v = 0 ∨ v = 1) : Ct V yX10_asPart cX10_asPart 11 (some .long) 0 0 [jv a, jv b, iv v] σ (PJ (fun r τ => r = oddsP a b v ∧ τ = σ)) := by
  refine ct_of (by decide) (Nat.le_of_ble_eq_true rfl) (fun X G T => ?_)
  have G : Gd X V cX10_asPart RX10 11 0 0 := G
  show AW X V σ 0 [] [some (jv a), none, some (jv b), none, some (iv v), none, none, none, none, none, none]
  obtain ⟨a', rfl⟩ := Int.eq_ofNat_of_zero_le ha.1
  obtain ⟨b', rfl⟩ := Int.eq_ofNat_of_zero_le (show 0 ≤ b by omega)
  have loop : ∀ (n0 : Nat) (x : Nat) (y : Nat) (u : Option Value) (u2 : Option Value), (y < n0) → (x ≤ 65536 ∧ y ≤ 65536) → (Nat.gcd x y = Nat.gcd a' b') → AW X V (σ) 6 [] [some (jv (a' : Int)), none, some (jv (b' : Int)), none, some (iv v), some (jv (x : Int)), none, some (jv (y : Int)), none, u, u2] := by
    intro n0
    induction n0 with
    | zero =>
      intro x y u u2 h1 hx hg
      exfalso
      omega
    | succ n0 ih =>
      intro x y u u2 h1 hx hg
      refine aw_lload G dX10_asPart_6 rfl ?_
      refine aw_lconst G dX10_asPart_8 ?_
      refine aw_lcmp G dX10_asPart_9 (by first | omega | exact b01_R _ | exact bP_R _) (by first | omega | exact b01_R _ | exact bP_R _) ?_
      refine aw_if_eq (tgt := 31) G dX10_asPart_10 (by decide) (by (repeat' split) <;> decide) (fun c10 => ?_) (fun c10 => ?_)
      · have y0 : y = 0 := Classical.byContradiction fun e => by
          rw [if_pos (by omega)] at c10
          omega
        have hx1 := Nat.gcd_pos_of_pos_right a' (show 0 < b' by omega)
        have hx2 : x = Nat.gcd a' b' := by rw [← hg, y0, Nat.gcd_zero_right]
        refine aw_iload G dX10_asPart_31 rfl ?_
        refine aw_if_ne (tgt := 43) G dX10_asPart_33 (by decide) (by first | omega | exact b01_R _ | exact bP_R _) (fun c33 => ?_) (fun c33 => ?_)
        · try simp only [b01_0, b01_n, bP_0, bP_n, Classical.not_not] at c33
          refine aw_lload_n G dX10_asPart_43 rfl ?_
          refine aw_lload G dX10_asPart_44 rfl ?_
          refine aw_ldiv G dX10_asPart_46 (by first | omega | exact b01_R _ | exact bP_R _) (by first | omega | exact b01_R _ | exact bP_R _) ?_
          exact aw_lret G T dX10_asPart_47 (by
          refine ⟨?_, rfl⟩
          unfold oddsP
          rw [Int.toNat_natCast, Int.toNat_natCast, ← hx2]
          first | rw [if_pos (by omega)] | rw [if_neg (by omega)])
        · try simp only [b01_0, b01_n, bP_0, bP_n, Classical.not_not] at c33
          refine aw_lload_n G dX10_asPart_36 rfl ?_
          refine aw_lload G dX10_asPart_37 rfl ?_
          refine aw_ldiv G dX10_asPart_39 (by first | omega | exact b01_R _ | exact bP_R _) (by first | omega | exact b01_R _ | exact bP_R _) ?_
          refine aw_goto (tgt := 47) G dX10_asPart_40 (by decide) ?_
          exact aw_lret G T dX10_asPart_47 (by
          refine ⟨?_, rfl⟩
          unfold oddsP
          rw [Int.toNat_natCast, Int.toNat_natCast, ← hx2]
          first | rw [if_pos (by omega)] | rw [if_neg (by omega)])
      · have y0 : 0 < y := Nat.pos_of_ne_zero (fun e => c10 (by rw [e]; rfl))
        refine aw_lload G dX10_asPart_13 rfl ?_
        refine aw_lload G dX10_asPart_15 rfl ?_
        refine aw_lrem G dX10_asPart_17 (by first | omega | exact b01_R _ | exact bP_R _) (by first | omega | exact b01_R _ | exact bP_R _) ?_
        rw [show ((x : Int).tmod (y : Int)) = ((x % y : Nat) : Int) from by rw [tm_em _ (by omega)]; rfl]
        refine aw_lstore_9 G dX10_asPart_18 (hc := by first | rfl | assumption) (k := ?_)
        refine aw_lload G dX10_asPart_20 rfl ?_
        refine aw_lstore_5 G dX10_asPart_22 (hc := by first | rfl | assumption) (k := ?_)
        refine aw_lload G dX10_asPart_24 rfl ?_
        refine aw_lstore_7 G dX10_asPart_26 (hc := by first | rfl | assumption) (k := ?_)
        refine aw_goto (tgt := 6) G dX10_asPart_28 (by decide) ?_
        refine ih y (x % y) _ _ ?_ ⟨hx.2, by have := Nat.mod_le x y; omega⟩ ?_
        · have := Nat.mod_lt x y0
          omega
        · rw [← hg, Nat.gcd_comm y, ← Nat.gcd_rec y x, Nat.gcd_comm]
  refine aw_lload_n G dX10_asPart_0 rfl ?_
  refine aw_lstore_5 G dX10_asPart_1 (hc := by first | rfl | assumption) (k := ?_)
  refine aw_lload_n G dX10_asPart_3 rfl ?_
  refine aw_lstore_7 G dX10_asPart_4 (hc := by first | rfl | assumption) (k := ?_)
  exact loop (b' + 1) a' b' none none (by omega) (by omega) rfl
set_option maxHeartbeats 4000000 in
theorem c_X10_odds {V : Wd} {σ : St} {ru k v : Int} (h1 : inR ru) (h2 : inR k) (h3 : inR v) (hk : OK σ) : Ct V yX10_odds cX10_odds 7 (some .long) 5 112 [rv V 75, iv ru, iv k, iv v] σ (PJ (fun r τ => r = an_odds σ ru k v ∧ ME τ (nx_odds σ ru k v))) := by
  refine ct_of (by decide) (Nat.le_of_ble_eq_true rfl) (fun X G T => ?_)
  have G : Gd X V cX10_odds RX10 7 5 112 := G
  show AW X V σ 0 [] [some (rv V 75), some (iv ru), some (iv k), some (iv v), none, none, none]
  obtain ⟨⟨n1, n2, n3, n4, n5, n6⟩, u1, l1, l2, i1, s1, w1⟩ := id hk
  have loop : ∀ (n0 : Nat) (i : Int), (0 ≤ ru ∧ ru ≤ 5) → (0 ≤ k ∧ k ≤ 3) → (v = 0 ∨ v = 1) → (0 ≤ i ∧ i ≤ σ 75 1) → (σ 75 1 < i + (n0 : Int)) → AW X V (σ) 61 [] [some (rv V 75), some (iv ru), some (iv k), some (iv v), some (jv (pw (k + 1) i.toNat)), none, some (iv i)] := by
    intro n0
    induction n0 with
    | zero =>
      intro i hru hk3 hv h0 hc1
      exfalso
      omega
    | succ n0 ih =>
      intro i hru hk3 hv h0 hc1
      refine aw_iload G dX10_odds_61 rfl ?_
      refine aw_aload_n G dX10_odds_63 rfl ?_
      refine gf_X10_82 G dX10_odds_64 (kk := ?_)
      refine aw_icmp_ge (tgt := 85) G dX10_odds_67 (by decide) (by first | omega | exact b01_R _ | exact bP_R _) (by first | omega | exact b01_R _ | exact bP_R _) (fun c67 => ?_) (fun c67 => ?_)
      · refine aw_aload_n G dX10_odds_85 rfl ?_
        refine aw_iload_n G dX10_odds_86 rfl ?_
        refine aw_iload_n G dX10_odds_87 rfl ?_
        refine aw_iconst G dX10_odds_88 ?_
        have ei : i = σ 75 1 := by omega
        subst ei
        have hA := pw_48 (b := k + 1) (by omega) (show (σ 75 1).toNat ≤ 8 by omega)
        refine cv_X10_174 G dX10_odds_89 (c_X10_waysTo hk.1 (by omega) (by omega) (by omega)) (kk := fun r89 t89 h89 => ?_)
        obtain ⟨ho89, hc89, hr89⟩ := h89
        have hN0 : r89 = waN σ ru k := by
          rcases hc89 with ⟨q1, q2⟩ | ⟨q1, q2⟩
          · exact q1
          · omega
        subst hN0
        refine aw_i2l G dX10_odds_92 (by first | omega | exact b01_R _ | exact bP_R _) ?_
        refine aw_lload G dX10_odds_93 rfl ?_
        refine aw_iload_n G dX10_odds_95 rfl ?_
        refine cs_X10_223 G dX10_odds_96 (c_X10_asPart (by omega) (by omega) hv) (kk := fun r96 t96 h96 => ?_)
        obtain ⟨rfl, ee96⟩ := h96
        obtain rfl := ee96.symm
        exact aw_lret G T dX10_odds_99 (by
          refine ⟨?_, by unfold nx_odds; (repeat' split) <;> first | exact ME_T ho89 | (exfalso; omega)⟩
          unfold an_odds
          rw [if_neg (by omega), if_neg (by omega), if_neg (by omega), if_neg (by omega)])
      · refine aw_lload G dX10_odds_70 rfl ?_
        refine aw_iload_n G dX10_odds_72 rfl ?_
        refine aw_i2l G dX10_odds_73 (by first | omega | exact b01_R _ | exact bP_R _) ?_
        refine aw_lconst G dX10_odds_74 ?_
        refine aw_ladd G dX10_odds_75 ?_
        refine aw_lmul G dX10_odds_76 ?_
        refine aw_lstore_4 G dX10_odds_77 (hc := by first | rfl | assumption) (k := ?_)
        refine aw_iinc_6 G dX10_odds_79 rfl (hc := by first | rfl | assumption) (k := ?_)
        refine aw_goto (tgt := 61) G dX10_odds_82 (by decide) ?_
        have hz := ih (i + 1) hru hk3 hv (by omega) (by omega)
        rw [show (i + 1).toNat = i.toNat + 1 by omega, pw_s] at hz
        exact hz
  refine aw_iload_n G dX10_odds_0 rfl ?_
  refine aw_iconst G dX10_odds_1 ?_
  refine aw_iconst G dX10_odds_2 ?_
  refine cs_X10_78 G dX10_odds_3 (c_X10_in (by first | assumption | omega) (by first | assumption | omega) (by first | assumption | omega)) (kk := fun r3 t3 h3 => ?_)
  obtain ⟨rfl, ee3⟩ := h3
  obtain rfl := ee3.symm
  refine aw_if_ne (tgt := 16) G dX10_odds_6 (by decide) (by first | omega | exact b01_R _ | exact bP_R _) (fun c6 => ?_) (fun c6 => ?_)
  · try simp only [b01_0, b01_n, bP_0, bP_n, Classical.not_not] at c6
    refine aw_iload_n G dX10_odds_16 rfl ?_
    refine aw_if_ge (tgt := 27) G dX10_odds_17 (by decide) (by first | omega | exact b01_R _ | exact bP_R _) (fun c17 => ?_) (fun c17 => ?_)
    · refine aw_iload_n G dX10_odds_27 rfl ?_
      refine aw_iconst G dX10_odds_28 ?_
      refine aw_icmp_le (tgt := 39) G dX10_odds_29 (by decide) (by first | omega | exact b01_R _ | exact bP_R _) (by first | omega | exact b01_R _ | exact bP_R _) (fun c29 => ?_) (fun c29 => ?_)
      · refine aw_iload_n G dX10_odds_39 rfl ?_
        refine aw_iconst G dX10_odds_40 ?_
        refine aw_iconst G dX10_odds_41 ?_
        refine cs_X10_78 G dX10_odds_42 (c_X10_in (by first | assumption | omega) (by first | assumption | omega) (by first | assumption | omega)) (kk := fun r42 t42 h42 => ?_)
        obtain ⟨rfl, ee42⟩ := h42
        obtain rfl := ee42.symm
        refine aw_if_ne (tgt := 55) G dX10_odds_45 (by decide) (by first | omega | exact b01_R _ | exact bP_R _) (fun c45 => ?_) (fun c45 => ?_)
        · try simp only [b01_0, b01_n, bP_0, bP_n, Classical.not_not] at c45
          refine aw_lconst G dX10_odds_55 ?_
          refine aw_lstore_4 G dX10_odds_56 (hc := by first | rfl | assumption) (k := ?_)
          refine aw_iconst G dX10_odds_58 ?_
          refine aw_istore_6 G dX10_odds_59 (hc := by first | rfl | assumption) (k := ?_)
          exact loop ((σ 75 1).toNat + 1) 0 (by omega) (by omega) (by omega) (by omega) (by omega)
        · try simp only [b01_0, b01_n, bP_0, bP_n, Classical.not_not] at c45
          refine aw_aload_n G dX10_odds_48 rfl ?_
          refine aw_bipush G dX10_odds_49 (k := ?_)
          refine cv_X10_219 G dX10_odds_51 (c_X10_farther (by decide)) (kk := fun r51 t51 h51 => ?_)
          obtain ⟨rfl, ee51⟩ := h51
          obtain rfl := ee51.symm
          exact aw_lret G T dX10_odds_54 (⟨by unfold an_odds; (repeat' split) <;> first | rfl | (exfalso; omega) | omega, by unfold nx_odds; (repeat' split) <;> first | exact ME.rf _ | (exfalso; omega)⟩)
      · refine aw_aload_n G dX10_odds_32 rfl ?_
        refine aw_bipush G dX10_odds_33 (k := ?_)
        refine cv_X10_219 G dX10_odds_35 (c_X10_farther (by decide)) (kk := fun r35 t35 h35 => ?_)
        obtain ⟨rfl, ee35⟩ := h35
        obtain rfl := ee35.symm
        exact aw_lret G T dX10_odds_38 (⟨by unfold an_odds; (repeat' split) <;> first | rfl | (exfalso; omega) | omega, by unfold nx_odds; (repeat' split) <;> first | exact ME.rf _ | (exfalso; omega)⟩)
    · refine aw_aload_n G dX10_odds_20 rfl ?_
      refine aw_bipush G dX10_odds_21 (k := ?_)
      refine cv_X10_219 G dX10_odds_23 (c_X10_farther (by decide)) (kk := fun r23 t23 h23 => ?_)
      obtain ⟨rfl, ee23⟩ := h23
      obtain rfl := ee23.symm
      exact aw_lret G T dX10_odds_26 (⟨by unfold an_odds; (repeat' split) <;> first | rfl | (exfalso; omega) | omega, by unfold nx_odds; (repeat' split) <;> first | exact ME.rf _ | (exfalso; omega)⟩)
  · try simp only [b01_0, b01_n, bP_0, bP_n, Classical.not_not] at c6
    refine aw_aload_n G dX10_odds_9 rfl ?_
    refine aw_bipush G dX10_odds_10 (k := ?_)
    refine cv_X10_219 G dX10_odds_12 (c_X10_farther (by decide)) (kk := fun r12 t12 h12 => ?_)
    obtain ⟨rfl, ee12⟩ := h12
    obtain rfl := ee12.symm
    exact aw_lret G T dX10_odds_15 (⟨by unfold an_odds; (repeat' split) <;> first | rfl | (exfalso; omega) | omega, by unfold nx_odds; (repeat' split) <;> first | exact ME.rf _ | (exfalso; omega)⟩)
