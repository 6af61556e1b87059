theorem unl2 {W : Int → Int → Int} {L n : Int} {f g : Int → Int} (h : ∀ p : Int, 0 ≤ p → p < n → g p = tsum W f L p) : unlikeP g n ↔ wQ W L n 1 f := by
  rw [← unl h]
  unfold ruleP
  rw [if_neg (by decide), if_pos rfl]
set_option maxHeartbeats 4000000 in
theorem c_X10_ordersTo {V : Wd} {σ : St} {wi : Int} (hn : NetOK σ 75) (hw : -1 ≤ wi ∧ wi ≤ 2147483647) : Ct V yX10_ordersTo cX10_ordersTo 7 (some .int) 3 65 [rv V 75, iv wi] σ (PI (fun r τ => NO σ τ ∧ ((r = oaN σ ∧ (wi < 0 ∨ oaN σ ≤ wi) ∧ τ 75 20 = an_spread σ) ∨ (0 ≤ wi ∧ r = wi ∧ ∃ f, oaI σ wi = some f ∧ ∀ j : Int, 0 ≤ j → j < σ 75 1 → τ 88 j = f j)) ∧ 0 ≤ r ∧ r ≤ 65536)) := by
  refine ct_of (by decide) (Nat.le_of_ble_eq_true rfl) (fun X G T => ?_)
  have G : Gd X V cX10_ordersTo RX10 7 3 65 := G
  show AW X V σ 0 [] [some (rv V 75), some (iv wi), none, none, none, none, none]
  obtain ⟨n1, n2, n3, n4, n5, n6⟩ := id hn
  have hA := fac_8 (show (σ 75 1).toNat ≤ 8 by omega)
  have loop : ∀ (n0 : Nat) (n : Int) (τ : St) (f : Int → Int) (m : Int) (fu : Nat) (a : Int) (u4 : Option Value) (u5 : Option Value) (u6 : Option Value), (NO σ τ) → (fu < n0) → ((m = 1 ∧ 1 ≤ fu ∧ MO σ τ f ∧ PO (σ 75 1) f ∧ rk f (σ 75 1) (σ 75 1).toNat + fu = fac (σ 75 1).toNat) ∨ (m = 0 ∧ fu = 0)) → (0 ≤ n ∧ n + fu ≤ fac (σ 75 1).toNat) → (τ 75 20 = a) → ((a = -9 ∨ 0 ≤ a) ∧ a ≤ 1000000) → (oaN σ = n + wayN (wQ (nwt σ 75) (σ 75 1) (σ 75 0) 1) (nxP (σ 75 1)) fu f) → (0 ≤ wi → n ≤ wi ∧ wayI (wQ (nwt σ 75) (σ 75 1) (σ 75 0) 1) (nxP (σ 75 1)) fu f (wi - n) = oaI σ wi) → (spr (nwt σ 75) (σ 75 1) (σ 75 0) fu f a = an_spread σ) → AW X V (τ) 43 [] [some (rv V 75), some (iv wi), some (iv n), some (iv m), u4, u5, u6] := by
    intro n0
    induction n0 with
    | zero =>
      intro n τ f m fu a u4 u5 u6 hNO h1 hm h0 h20 ha hqN hqI hqS
      exfalso
      omega
    | succ n0 ih =>
      intro n τ f m fu a u4 u5 u6 hNO h1 hm h0 h20 ha hqN hqI hqS
      refine aw_iload_n G dX10_ordersTo_43 rfl ?_
      refine aw_if_eq (tgt := 171) G dX10_ordersTo_44 (by decide) (by omega) (fun c44 => ?_) (fun c44 => ?_)
      · try simp only [b01_0, b01_n, bP_0, bP_n, Classical.not_not] at c44
        refine aw_iload_n G dX10_ordersTo_171 rfl ?_
        exact aw_iret G T dX10_ordersTo_172 (by
          have fu0 : fu = 0 := by rcases hm with q | q <;> omega
          subst fu0
          have hN0 : oaN σ = n := by rw [hqN]; unfold wayN; omega
          exact ⟨hNO, Or.inl ⟨hN0.symm, by have := fun q => (hqI q).1; omega, by rw [h20]; exact hqS⟩, by omega, by omega⟩)
      · try simp only [b01_0, b01_n, bP_0, bP_n, Classical.not_not] at c44
        obtain ⟨rfl, hfu, hT, hP, hv⟩ : m = 1 ∧ 1 ≤ fu ∧ MO σ τ f ∧ PO (σ 75 1) f ∧ rk f (σ 75 1) (σ 75 1).toNat + fu = fac (σ 75 1).toNat := by
          rcases hm with q | q
          · exact q
          · omega
        obtain ⟨fu', rfl⟩ : ∃ q, fu = q + 1 := ⟨fu - 1, by omega⟩
        have e0 : τ 75 0 = σ 75 0 := hNO.2 0 (by decide)
        have hRb : ∀ p : Int, 0 ≤ p → p < σ 75 0 → 0 ≤ τ 89 p ∧ τ 89 p ≤ 104000 := fun p p0 p1 => by
          rw [hT.2.2.2 p p0 p1]
          exact tsum_R n4 (fun l c d => ⟨nwt_R (by have := n5 l c (by omega); omega), by have := hP.2 l c d; omega⟩)
        have hRs : ∀ p : Int, 0 ≤ p → p < σ 75 0 → inR (τ 89 p) := fun p p0 p1 => by have := hRb p p0 p1; omega
        have hQ : unlikeP (τ 89) (σ 75 0) ↔ (wQ (nwt σ 75) (σ 75 1) (σ 75 0) 1) f := unl2 (fun p a b => hT.2.2.2 p a b)
        have hS0 := spv_c n1 (fun p p0 p1 => hT.2.2.2 p p0 p1)
        have hsm : ∀ m : Nat, (m : Int) < σ 75 0 → 0 ≤ mnTo (τ 89) m ∧ mxTo (τ 89) m ≤ 104000 := by
          intro m
          induction m with
          | zero => intro hm; have := hRb 0 (by omega) (by omega); exact this
          | succ m ihm =>
            intro hm
            have i1 := ihm (by omega)
            have i2 := hRb ((m : Int) + 1) (by omega) (by omega)
            unfold mnTo mxTo
            omega
        have hmm := mxmn (τ 89) (σ 75 0 - 1).toNat
        have at163 : ∀ (τ' : St) (n' a' : Int) (u4 u5 u6 : Option Value), MO σ τ' f → τ' 75 20 = a' → ((a' = -9 ∨ 0 ≤ a') ∧ a' ≤ 1000000) → (0 ≤ n' ∧ n' + fu' ≤ fac (σ 75 1).toNat) → (oaN σ = n' + wayN (wQ (nwt σ 75) (σ 75 1) (σ 75 0) 1) (nxP (σ 75 1)) fu' (nxP (σ 75 1) f)) → (0 ≤ wi → n' ≤ wi ∧ wayI (wQ (nwt σ 75) (σ 75 1) (σ 75 0) 1) (nxP (σ 75 1)) fu' (nxP (σ 75 1) f) (wi - n') = oaI σ wi) → (spr (nwt σ 75) (σ 75 1) (σ 75 0) fu' (nxP (σ 75 1) f) a' = an_spread σ) → AW X V τ' 163 [] [some (rv V 75), some (iv wi), some (iv n'), some (iv 1), u4, u5, u6] := by
          intro τ' n' a' u4 u5 u6 hT' h20 ha' hn' hN' hI' hS'
          refine aw_aload_n G dX10_ordersTo_163 rfl ?_
          refine cv_X10_213 G dX10_ordersTo_164 (c_X10_nextOrder hn hT' hP) (kk := fun r164 t164 h164 => ?_)
          refine aw_istore_3 G dX10_ordersTo_167 (hc := by first | rfl | assumption) (k := ?_)
          refine aw_goto (tgt := 43) G dX10_ordersTo_168 (by decide) ?_
          rcases h164 with ⟨g1, g2, g3, g4⟩ | ⟨g1, g2, g3⟩
          · rcases nxP_v n3 hP with ⟨v1, v2, v3⟩ | ⟨v1, v2⟩
            · exact ih n' t164 (nxP (σ 75 1) f) r164 fu' a' u4 u5 u6 g2.1 (by omega) (Or.inl ⟨g1, by omega, g2, PO_nx n3 hP, by omega⟩) hn' (by rw [g4]; exact h20) ha' hN' hI' hS'
            · omega
          · rcases nxP_v n3 hP with ⟨v1, v2, v3⟩ | ⟨v1, v2⟩
            · omega
            · exact ih n' t164 (nxP (σ 75 1) f) r164 fu' a' u4 u5 u6 (by rw [g3]; exact hT'.1) (by omega) (Or.inr ⟨g1, by omega⟩) hn' (by rw [g3]; exact h20) ha' hN' hI' hS'
        refine aw_aload_n G dX10_ordersTo_47 rfl ?_
        refine gf_X10_53 G dX10_ordersTo_48 (kk := ?_)
        refine aw_aload_n G dX10_ordersTo_51 rfl ?_
        refine gf_X10_7 G dX10_ordersTo_52 (kk := ?_)
        rw [e0]
        refine cs_X10_155 G dX10_ordersTo_55 (c_X10_isUnlike (k := 89) (N := 7) (by decide) rfl (by decide) (by omega) hRs (by omega)) (kk := fun r55 t55 h55 => ?_)
        obtain ⟨rfl, ee55⟩ := h55
        obtain rfl := ee55.symm
        refine aw_if_eq (tgt := 163) G dX10_ordersTo_58 (by decide) (bP_R _) (fun c58 => ?_) (fun c58 => ?_)
        · try simp only [b01_0, b01_n, bP_0, bP_n, Classical.not_not] at c58
          rw [wayN_s, bP_f (show ¬ (wQ (nwt σ 75) (σ 75 1) (σ 75 0) 1) f from fun q => c58 (hQ.mpr q))] at hqN
          rw [spr_s, show accS (nwt σ 75) (σ 75 1) (σ 75 0) f a = a by unfold accS; rw [bP_f (show ¬ (wQ (nwt σ 75) (σ 75 1) (σ 75 0) 1) f from fun q => c58 (hQ.mpr q)), if_neg (by decide)]] at hqS
          exact at163 τ n a _ _ _ hT h20 ha (by omega) (by omega) (fun q => by
            have hz := hqI q
            rw [wayI_s, bP_f (show ¬ (wQ (nwt σ 75) (σ 75 1) (σ 75 0) 1) f from fun q => c58 (hQ.mpr q)), if_neg (by decide)] at hz
            exact hz) hqS
        · try simp only [b01_0, b01_n, bP_0, bP_n, Classical.not_not] at c58
          rw [wayN_s, bP_t (hQ.mp c58)] at hqN
          rw [spr_s] at hqS
          refine aw_iload_n G dX10_ordersTo_61 rfl ?_
          refine aw_iload_n G dX10_ordersTo_62 rfl ?_
          refine aw_icmp_ne (tgt := 68) G dX10_ordersTo_63 (by decide) (by first | omega | exact b01_R _ | exact bP_R _) (by first | omega | exact b01_R _ | exact bP_R _) (fun c63 => ?_) (fun c63 => ?_)
          · refine aw_iinc_2 G dX10_ordersTo_68 rfl (hc := by first | rfl | assumption) (k := ?_)
            refine aw_iconst G dX10_ordersTo_71 ?_
            refine aw_istore_4 G dX10_ordersTo_72 (hc := by first | rfl | assumption) (k := ?_)
            refine aw_aload_n G dX10_ordersTo_74 rfl ?_
            refine gf_X10_53 G dX10_ordersTo_75 (kk := ?_)
            refine aw_iconst G dX10_ordersTo_78 ?_
            refine aw_iaload G dX10_ordersTo_79 (by first | decide | assumption | omega) (by first | rfl | assumption) (by first | decide | assumption) (by omega) ?_
            refine aw_istore_5 G dX10_ordersTo_80 (hc := by first | rfl | assumption) (k := ?_)
            refine aw_iconst G dX10_ordersTo_82 ?_
            refine aw_istore_6 G dX10_ordersTo_83 (hc := by first | rfl | assumption) (k := ?_)
            have inner : ∀ (n1 : Nat) (p : Int) (x : Int) (y : Int), (n ≠ wi) → (0 ≤ p ∧ p ≤ σ 75 0) → (σ 75 0 < p + (n1 : Int)) → ((p = 0 ∧ x = 0 ∧ y = τ 89 0) ∨ (1 ≤ p ∧ x = mxTo (τ 89) (p - 1).toNat ∧ y = mnTo (τ 89) (p - 1).toNat)) → (0 ≤ x ∧ x ≤ 104000 ∧ 0 ≤ y ∧ y ≤ 104000) → AW X V (τ) 85 [] [some (rv V 75), some (iv wi), some (iv (n + 1)), some (iv 1), some (iv x), some (iv y), some (iv p)] := by
              intro n1
              induction n1 with
              | zero =>
                intro p x y hnw g0 g1 gm gr
                exfalso
                omega
              | succ n1 ih1 =>
                intro p x y hnw g0 g1 gm gr
                refine aw_iload G dX10_ordersTo_85 rfl ?_
                refine aw_aload_n G dX10_ordersTo_87 rfl ?_
                refine gf_X10_7 G dX10_ordersTo_88 (kk := ?_)
                rw [e0]
                refine aw_icmp_ge (tgt := 128) G dX10_ordersTo_91 (by decide) (by first | omega | exact b01_R _ | exact bP_R _) (by first | omega | exact b01_R _ | exact bP_R _) (fun c91 => ?_) (fun c91 => ?_)
                · have hml : x - y = spv (nwt σ 75) (σ 75 1) (σ 75 0) f := by
                    rcases gm with ⟨q1, q2, q3⟩ | ⟨q1, q2, q3⟩
                    · omega
                    · rw [← hS0, q2, q3, show p = σ 75 0 by omega]
                  have hsv : 0 ≤ x - y ∧ x - y ≤ 104000 := by
                    have := hsm (σ 75 0 - 1).toNat (by omega)
                    omega
                  refine aw_aload_n G dX10_ordersTo_128 rfl ?_
                  refine aw_aload_n G dX10_ordersTo_129 rfl ?_
                  refine gf_X10_202 G dX10_ordersTo_130 (kk := ?_)
                  rw [h20]
                  refine aw_if_lt (tgt := 148) G dX10_ordersTo_133 (by decide) (by first | omega | exact b01_R _ | exact bP_R _) (fun c133 => ?_) (fun c133 => ?_)
                  · refine aw_iload G dX10_ordersTo_148 rfl ?_
                    refine aw_iload G dX10_ordersTo_150 rfl ?_
                    refine aw_isub G dX10_ordersTo_152 ?_
                    refine aw_goto (tgt := 160) G dX10_ordersTo_153 (by decide) ?_
                    try rw [h20]
                    refine pf_X10_202 G dX10_ordersTo_160 (kk := ?_)
                    first
                      | (rw [show accS (nwt σ 75) (σ 75 1) (σ 75 0) f a = x - y by unfold accS; rw [bP_t (hQ.mp c58), if_pos rfl, if_pos (by omega)]; omega] at hqS
                         exact at163 (up τ 75 20 (x - y)) (n + 1) (x - y) _ _ _ hT.nar (up_at _ _ _ _) (by omega) (by omega) (by omega) (fun q => by
                           have hz := hqI q
                           rw [wayI_s, bP_t (hQ.mp c58), if_pos rfl, if_neg (by omega), show wi - n - 1 = wi - (n + 1) by omega] at hz
                           exact ⟨by omega, hz.2⟩) hqS)
                      | (rw [show accS (nwt σ 75) (σ 75 1) (σ 75 0) f a = x - y by unfold accS; rw [bP_t (hQ.mp c58), if_pos rfl, if_neg (by omega)]; omega] at hqS
                         exact at163 (up τ 75 20 (x - y)) (n + 1) (x - y) _ _ _ hT.nar (up_at _ _ _ _) (by omega) (by omega) (by omega) (fun q => by
                           have hz := hqI q
                           rw [wayI_s, bP_t (hQ.mp c58), if_pos rfl, if_neg (by omega), show wi - n - 1 = wi - (n + 1) by omega] at hz
                           exact ⟨by omega, hz.2⟩) hqS)
                      | (rw [show accS (nwt σ 75) (σ 75 1) (σ 75 0) f a = a by unfold accS; rw [bP_t (hQ.mp c58), if_pos rfl, if_neg (by omega)]; omega] at hqS
                         exact at163 (up τ 75 20 (a)) (n + 1) (a) _ _ _ hT.nar (up_at _ _ _ _) (by omega) (by omega) (by omega) (fun q => by
                           have hz := hqI q
                           rw [wayI_s, bP_t (hQ.mp c58), if_pos rfl, if_neg (by omega), show wi - n - 1 = wi - (n + 1) by omega] at hz
                           exact ⟨by omega, hz.2⟩) hqS)
                  · refine aw_iload G dX10_ordersTo_136 rfl ?_
                    refine aw_iload G dX10_ordersTo_138 rfl ?_
                    refine aw_isub G dX10_ordersTo_140 ?_
                    refine aw_aload_n G dX10_ordersTo_141 rfl ?_
                    refine gf_X10_202 G dX10_ordersTo_142 (kk := ?_)
                    rw [h20]
                    refine aw_icmp_ge (tgt := 156) G dX10_ordersTo_145 (by decide) (by first | omega | exact b01_R _ | exact bP_R _) (by first | omega | exact b01_R _ | exact bP_R _) (fun c145 => ?_) (fun c145 => ?_)
                    · refine aw_aload_n G dX10_ordersTo_156 rfl ?_
                      refine gf_X10_202 G dX10_ordersTo_157 (kk := ?_)
                      try rw [h20]
                      refine pf_X10_202 G dX10_ordersTo_160 (kk := ?_)
                      first
                        | (rw [show accS (nwt σ 75) (σ 75 1) (σ 75 0) f a = x - y by unfold accS; rw [bP_t (hQ.mp c58), if_pos rfl, if_pos (by omega)]; omega] at hqS
                           exact at163 (up τ 75 20 (x - y)) (n + 1) (x - y) _ _ _ hT.nar (up_at _ _ _ _) (by omega) (by omega) (by omega) (fun q => by
                             have hz := hqI q
                             rw [wayI_s, bP_t (hQ.mp c58), if_pos rfl, if_neg (by omega), show wi - n - 1 = wi - (n + 1) by omega] at hz
                             exact ⟨by omega, hz.2⟩) hqS)
                        | (rw [show accS (nwt σ 75) (σ 75 1) (σ 75 0) f a = x - y by unfold accS; rw [bP_t (hQ.mp c58), if_pos rfl, if_neg (by omega)]; omega] at hqS
                           exact at163 (up τ 75 20 (x - y)) (n + 1) (x - y) _ _ _ hT.nar (up_at _ _ _ _) (by omega) (by omega) (by omega) (fun q => by
                             have hz := hqI q
                             rw [wayI_s, bP_t (hQ.mp c58), if_pos rfl, if_neg (by omega), show wi - n - 1 = wi - (n + 1) by omega] at hz
                             exact ⟨by omega, hz.2⟩) hqS)
                        | (rw [show accS (nwt σ 75) (σ 75 1) (σ 75 0) f a = a by unfold accS; rw [bP_t (hQ.mp c58), if_pos rfl, if_neg (by omega)]; omega] at hqS
                           exact at163 (up τ 75 20 (a)) (n + 1) (a) _ _ _ hT.nar (up_at _ _ _ _) (by omega) (by omega) (by omega) (fun q => by
                             have hz := hqI q
                             rw [wayI_s, bP_t (hQ.mp c58), if_pos rfl, if_neg (by omega), show wi - n - 1 = wi - (n + 1) by omega] at hz
                             exact ⟨by omega, hz.2⟩) hqS)
                    · refine aw_iload G dX10_ordersTo_148 rfl ?_
                      refine aw_iload G dX10_ordersTo_150 rfl ?_
                      refine aw_isub G dX10_ordersTo_152 ?_
                      refine aw_goto (tgt := 160) G dX10_ordersTo_153 (by decide) ?_
                      try rw [h20]
                      refine pf_X10_202 G dX10_ordersTo_160 (kk := ?_)
                      first
                        | (rw [show accS (nwt σ 75) (σ 75 1) (σ 75 0) f a = x - y by unfold accS; rw [bP_t (hQ.mp c58), if_pos rfl, if_pos (by omega)]; omega] at hqS
                           exact at163 (up τ 75 20 (x - y)) (n + 1) (x - y) _ _ _ hT.nar (up_at _ _ _ _) (by omega) (by omega) (by omega) (fun q => by
                             have hz := hqI q
                             rw [wayI_s, bP_t (hQ.mp c58), if_pos rfl, if_neg (by omega), show wi - n - 1 = wi - (n + 1) by omega] at hz
                             exact ⟨by omega, hz.2⟩) hqS)
                        | (rw [show accS (nwt σ 75) (σ 75 1) (σ 75 0) f a = x - y by unfold accS; rw [bP_t (hQ.mp c58), if_pos rfl, if_neg (by omega)]; omega] at hqS
                           exact at163 (up τ 75 20 (x - y)) (n + 1) (x - y) _ _ _ hT.nar (up_at _ _ _ _) (by omega) (by omega) (by omega) (fun q => by
                             have hz := hqI q
                             rw [wayI_s, bP_t (hQ.mp c58), if_pos rfl, if_neg (by omega), show wi - n - 1 = wi - (n + 1) by omega] at hz
                             exact ⟨by omega, hz.2⟩) hqS)
                        | (rw [show accS (nwt σ 75) (σ 75 1) (σ 75 0) f a = a by unfold accS; rw [bP_t (hQ.mp c58), if_pos rfl, if_neg (by omega)]; omega] at hqS
                           exact at163 (up τ 75 20 (a)) (n + 1) (a) _ _ _ hT.nar (up_at _ _ _ _) (by omega) (by omega) (by omega) (fun q => by
                             have hz := hqI q
                             rw [wayI_s, bP_t (hQ.mp c58), if_pos rfl, if_neg (by omega), show wi - n - 1 = wi - (n + 1) by omega] at hz
                             exact ⟨by omega, hz.2⟩) hqS)
                · have hRp := hRb p (by omega) (by omega)
                  refine aw_iload G dX10_ordersTo_94 rfl ?_
                  refine aw_aload_n G dX10_ordersTo_96 rfl ?_
                  refine gf_X10_53 G dX10_ordersTo_97 (kk := ?_)
                  refine aw_iload G dX10_ordersTo_100 rfl ?_
                  refine aw_iaload G dX10_ordersTo_102 (by first | decide | assumption | omega) (by first | rfl | assumption) (by first | decide | assumption) (by omega) ?_
                  refine cm_X10_205 G dX10_ordersTo_103 (by first | omega | exact b01_R _ | exact bP_R _) (by first | omega | exact b01_R _ | exact bP_R _) (k := ?_)
                  refine aw_istore_4 G dX10_ordersTo_106 (hc := by first | rfl | assumption) (k := ?_)
                  refine aw_iload G dX10_ordersTo_108 rfl ?_
                  refine aw_aload_n G dX10_ordersTo_110 rfl ?_
                  refine gf_X10_53 G dX10_ordersTo_111 (kk := ?_)
                  refine aw_iload G dX10_ordersTo_114 rfl ?_
                  refine aw_iaload G dX10_ordersTo_116 (by first | decide | assumption | omega) (by first | rfl | assumption) (by first | decide | assumption) (by omega) ?_
                  refine cm_X10_210 G dX10_ordersTo_117 (by first | omega | exact b01_R _ | exact bP_R _) (by first | omega | exact b01_R _ | exact bP_R _) (k := ?_)
                  refine aw_istore_5 G dX10_ordersTo_120 (hc := by first | rfl | assumption) (k := ?_)
                  refine aw_iinc_6 G dX10_ordersTo_122 rfl (hc := by first | rfl | assumption) (k := ?_)
                  refine aw_goto (tgt := 85) G dX10_ordersTo_125 (by decide) ?_
                  refine ih1 (p + 1) _ _ hnw (by omega) (by omega) (Or.inr ⟨by omega, ?_⟩) (by omega)
                  rcases gm with ⟨q1, q2, q3⟩ | ⟨q1, q2, q3⟩
                  · rw [q1] at hRp ⊢
                    rw [q2, q3]
                    exact ⟨(show max 0 (τ 89 0) = τ 89 0 by omega), (show min (τ 89 0) (τ 89 0) = τ 89 0 by omega)⟩
                  · rw [show (p + 1 - 1).toNat = (p - 1).toNat + 1 by omega, q2, q3]
                    have ep : (((p - 1).toNat : Nat) : Int) + 1 = p := by omega
                    rw [show mxTo (τ 89) ((p - 1).toNat + 1) = max (mxTo (τ 89) (p - 1).toNat) (τ 89 ((((p - 1).toNat : Nat) : Int) + 1)) from rfl, show mnTo (τ 89) ((p - 1).toNat + 1) = min (mnTo (τ 89) (p - 1).toNat) (τ 89 ((((p - 1).toNat : Nat) : Int) + 1)) from rfl, ep]
                    exact ⟨rfl, rfl⟩
            exact inner ((σ 75 0).toNat + 1) 0 0 (τ 89 0) (by omega) (by omega) (by omega) (Or.inl ⟨rfl, rfl, rfl⟩) (by have := hRb 0 (by omega) (by omega); omega)
          · refine aw_iload_n G dX10_ordersTo_66 rfl ?_
            exact aw_iret G T dX10_ordersTo_67 (by
          refine ⟨hNO, Or.inr ⟨by omega, by omega, f, ?_, fun j a b => hT.2.2.1 j a b⟩, by omega, by omega⟩
          have hz := (hqI (by omega)).2
          rw [wayI_s, bP_t (hQ.mp c58), if_pos rfl, if_pos (by omega)] at hz
          exact hz.symm)
  have first : ∀ (n0 : Nat) (i : Int), (0 ≤ i ∧ i ≤ σ 75 1) → (σ 75 1 < i + (n0 : Int)) → AW X V (fill σ 88 i (fun j => j + 1)) 2 [] [some (rv V 75), some (iv wi), some (iv i), none, none, none, none] := by
    intro n0
    induction n0 with
    | zero =>
      intro i h0 h1
      exfalso
      omega
    | succ n0 ih =>
      intro i h0 h1
      refine aw_iload_n G dX10_ordersTo_2 rfl ?_
      refine aw_aload_n G dX10_ordersTo_3 rfl ?_
      refine gf_X10_82 G dX10_ordersTo_4 (kk := ?_)
      rw [fill_o (show (75:Nat) ≠ 88 by decide)]
      refine aw_icmp_ge (tgt := 25) G dX10_ordersTo_7 (by decide) (by first | omega | exact b01_R _ | exact bP_R _) (by first | omega | exact b01_R _ | exact bP_R _) (fun c7 => ?_) (fun c7 => ?_)
      · have oo : Only mTr σ (fill σ 88 i (fun j => j + 1)) := fun k hk => fill_r (fun e => hk (by rw [e]; decide))
        have nn : NetOK (fill σ 88 i (fun j => j + 1)) 75 := NetOK.only oo (by decide) hn
        refine aw_aload_n G dX10_ordersTo_25 rfl ?_
        refine cv_X10_141 G dX10_ordersTo_26 (c_X10_layWeights nn) (kk := fun t26 h26 => ?_)
        obtain ⟨o1, q1⟩ := h26
        refine aw_aload_n G dX10_ordersTo_29 rfl ?_
        have e75 : t26 75 = σ 75 := (o1 75 (by decide)).trans (oo 75 (by decide))
        refine cv_X10_144 G dX10_ordersTo_30 (c_X10_laySums (by rw [e75]; omega)) (kk := fun t30 h30 => ?_)
        obtain ⟨o2, q2⟩ := h30
        have hM : MO σ t30 (fun j => j + 1) := MO_lay (NO.of (oo.tr (o1.mono (by decide)))) (fun p l a b c d => by rw [q1 p l a (by rw [oo 75 (by decide)]; exact b) c (by rw [oo 75 (by decide)]; exact d), nwt_only oo (by decide)]) (fun j a b => by rw [o1 88 (by decide), fill_i (by omega)]) o2 q2
        refine aw_aload_n G dX10_ordersTo_33 rfl ?_
        refine aw_bipush G dX10_ordersTo_34 (k := ?_)
        refine pf_X10_202 G dX10_ordersTo_36 (kk := ?_)
        refine aw_iconst G dX10_ordersTo_39 ?_
        refine aw_istore_2 G dX10_ordersTo_40 (hc := by first | rfl | assumption) (k := ?_)
        refine aw_iconst G dX10_ordersTo_41 ?_
        refine aw_istore_3 G dX10_ordersTo_42 (hc := by first | rfl | assumption) (k := ?_)
        exact loop ((fac (σ 75 1).toNat).toNat + 1) 0 _ (fun j => j + 1) 1 (fac (σ 75 1).toNat).toNat (-9) _ _ _ hM.nar.1 (by omega) (Or.inl ⟨rfl, by omega, hM.nar, PO_0 n4, by rw [rk_0]; omega⟩) (by omega) (up_at _ _ _ _) (by omega) (by unfold oaN oN; omega) (fun q => ⟨by omega, by rw [show wi - 0 = wi by omega]; rfl⟩) rfl
      · refine aw_aload_n G dX10_ordersTo_10 rfl ?_
        refine gf_X10_50 G dX10_ordersTo_11 (kk := ?_)
        refine aw_iload_n G dX10_ordersTo_14 rfl ?_
        refine aw_iload_n G dX10_ordersTo_15 rfl ?_
        refine aw_iconst G dX10_ordersTo_16 ?_
        refine aw_iadd G dX10_ordersTo_17 ?_
        refine aw_iastore G dX10_ordersTo_18 (by first | decide | assumption | omega) (by first | rfl | assumption) (by first | decide | assumption) (by omega) ?_
        refine aw_iinc_2 G dX10_ordersTo_19 rfl (hc := by first | rfl | assumption) (k := ?_)
        refine aw_goto (tgt := 2) G dX10_ordersTo_22 (by decide) ?_
        rw [show up (fill σ 88 i (fun j => j + 1)) 88 i (i + 1) = fill σ 88 (i + 1) (fun j => j + 1) from fill_s (f := fun j => j + 1) (by omega)]
        exact ih (i + 1) (by omega) (by omega)
  refine aw_iconst G dX10_ordersTo_0 ?_
  refine aw_istore_2 G dX10_ordersTo_1 (hc := by first | rfl | assumption) (k := ?_)
  have := first ((σ 75 1).toNat + 1) 0 (by omega) (by omega)
  rw [fill_0] at this
  exact this
