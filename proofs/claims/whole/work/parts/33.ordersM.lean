/-- the reference's trial of orders: as MT, but the narrowest may change -/
def NO (ρ σ : St) : Prop := (∀ k, k ≠ 75 → k ∉ mTr → σ k = ρ k) ∧ ∀ j : Int, j ≠ 20 → σ 75 j = ρ 75 j
theorem NO.rf (σ : St) : NO σ σ := ⟨fun _ _ _ => rfl, fun _ _ => rfl⟩
theorem NO.tr {ρ σ τ : St} (h : NO ρ σ) (h2 : NO σ τ) : NO ρ τ := ⟨fun k a b => (h2.1 k a b).trans (h.1 k a b), fun j a => (h2.2 j a).trans (h.2 j a)⟩
theorem NO.of {σ τ : St} (h : Only mTr σ τ) : NO σ τ := ⟨fun k _ b => h k b, fun j _ => by rw [h 75 (by decide)]⟩
theorem NO.nar {ρ σ : St} {x : Int} (h : NO ρ σ) : NO ρ (up σ 75 20 x) := ⟨fun k a b => (up_ne a).trans (h.1 k a b), fun j a => (up_nj a).trans (h.2 j a)⟩
theorem NO.me {ρ σ : St} (h : NO ρ σ) : ME σ ρ := ⟨pp_no (fun j a => h.2 j (by omega)) (fun k a => h.1 k (by omega) (by simp; omega)), fun k a => h.1 k (by omega) (by simp; omega)⟩
theorem NO.w {ρ σ : St} (h : NO ρ σ) : nwt σ 75 = nwt ρ 75 := by
  funext p l
  exact nwt_c (by rw [h.1 (75 + 1) (by decide) (by decide)]) (by rw [h.1 (75 + 2) (by decide) (by decide)]) (by rw [h.1 (75 + 3) (by decide) (by decide)]) (by rw [h.1 (75 + 4) (by decide) (by decide)])
theorem NO.ok {ρ σ : St} (h : NO ρ σ) (q : NetOK ρ 75) : NetOK σ 75 := by
  unfold NetOK RowOK at q ⊢
  rw [h.2 0 (by decide), h.2 1 (by decide), h.1 (75 + 1) (by decide) (by decide), h.1 (75 + 2) (by decide) (by decide), h.1 (75 + 3) (by decide) (by decide), h.1 (75 + 4) (by decide) (by decide), h.1 (75 + 5) (by decide) (by decide)]
  exact q
def MO (ρ σ : St) (f : Int → Int) : Prop := NO ρ σ ∧ (∀ p l : Int, 0 ≤ p → p < ρ 75 0 → 0 ≤ l → l < ρ 75 1 → σ 90 (8 * p + l) = nwt ρ 75 p l) ∧ (∀ j : Int, 0 ≤ j → j < ρ 75 1 → σ 88 j = f j) ∧ ∀ p : Int, 0 ≤ p → p < ρ 75 0 → σ 89 p = tsum (nwt ρ 75) f (ρ 75 1) p
theorem MO.nar {ρ σ : St} {f : Int → Int} {x : Int} (h : MO ρ σ f) : MO ρ (up σ 75 20 x) f := ⟨h.1.nar, fun p l a b c d => by rw [up_o (by decide)]; exact h.2.1 p l a b c d, fun j a b => by rw [up_o (by decide)]; exact h.2.2.1 j a b, fun p a b => by rw [up_o (by decide)]; exact h.2.2.2 p a b⟩
theorem MO_lay {ρ τ t : St} {f : Int → Int} (ho : NO ρ τ) (hw : ∀ p l : Int, 0 ≤ p → p < ρ 75 0 → 0 ≤ l → l < ρ 75 1 → τ 90 (8 * p + l) = nwt ρ 75 p l) (hl : ∀ j : Int, 0 ≤ j → j < ρ 75 1 → τ 88 j = f j) (o : Only [89] τ t) (q : ∀ p, 0 ≤ p → p < τ 75 0 → t 89 p = tsum (fun p l => τ 90 (8 * p + l)) (τ 88) (τ 75 1) p) : MO ρ t f := by
  refine ⟨ho.tr (NO.of (o.mono (by decide))), fun p l a b c d => by rw [o 90 (by decide)]; exact hw p l a b c d, fun j a b => by rw [o 88 (by decide)]; exact hl j a b, fun p a b => ?_⟩
  rw [q p a (by rw [ho.2 0 (by decide)]; exact b), ho.2 1 (by decide)]
  exact tsum_c fun l c d => ⟨hw p l a b c d, hl l c d⟩
theorem swp_up {τ : St} {g : Int → Int} {a b L : Int} (hg : ∀ j : Int, 0 ≤ j → j < L → τ 88 j = g j) : ∀ j : Int, 0 ≤ j → j < L → up (up τ 88 a (g b)) 88 b (g a) 88 j = swp g a b j := fun j h0 h1 => by
  rw [swp_v]
  by_cases e : j = b
  · rw [if_pos e, e, up_at]
  · rw [if_neg e, up_nj e]
    by_cases e2 : j = a
    · rw [if_pos e2, e2, up_at]
    · rw [if_neg e2, up_nj e2]
      exact hg j h0 h1
set_option maxHeartbeats 4000000 in
theorem c_X10_nextOrder {V : Wd} {σ : St} {ρ : St} {f : Int → Int} (hn : NetOK ρ 75) (hT : MO ρ σ f) (hP : PO (ρ 75 1) f) : Ct V yX10_nextOrder cX10_nextOrder 6 (some .boolean) 1 22 [rv V 75] σ (PI (fun r τ => (r = 1 ∧ MO ρ τ (nxP (ρ 75 1) f) ∧ 0 ≤ pkL (ρ 75 1) f ∧ τ 75 = σ 75) ∨ (r = 0 ∧ pkL (ρ 75 1) f < 0 ∧ τ = σ))) := by
  refine ct_of (by decide) (Nat.le_of_ble_eq_true rfl) (fun X G T => ?_)
  have G : Gd X V cX10_nextOrder RX10 6 1 22 := G
  show AW X V σ 0 [] [some (rv V 75), none, none, none, none, none]
  obtain ⟨n1, n2, n3, n4, n5, n6⟩ := id hn
  obtain ⟨hO, hw, hl, hs⟩ := id hT
  have e1 : σ 75 1 = ρ 75 1 := hO.2 1 (by decide)
  have hR : ∀ j : Int, 0 ≤ j → j < ρ 75 1 → 1 ≤ f j ∧ f j ≤ 8 := hP.2
  have three : ∀ (n0 : Nat) (lo : Int) (hi : Int) (τ : St) (g : Int → Int) (k : Nat) (a : Int) (b : Int) (v : Int), (0 ≤ pkL (ρ 75 1) f) → (0 ≤ lo ∧ hi < ρ 75 1 ∧ lo ≤ hi + 1) → (hi - lo + 1 < (n0 : Int)) → (∀ j : Int, 0 ≤ j → j < ρ 75 1 → τ 88 j = g j) → (Only [88] σ τ) → (hi - lo ≤ 2 * k) → (rvs k g lo hi = nxP (ρ 75 1) f) → AW X V (τ) 107 [] [some (rv V 75), some (iv a), some (iv b), some (iv v), some (iv lo), some (iv hi)] := by
    intro n0
    induction n0 with
    | zero =>
      intro lo hi τ g k a b v hpk h0 h1 hg ho hk hq
      exfalso
      omega
    | succ n0 ih =>
      intro lo hi τ g k a b v hpk h0 h1 hg ho hk hq
      refine aw_iload G dX10_nextOrder_107 rfl ?_
      refine aw_iload G dX10_nextOrder_109 rfl ?_
      refine aw_icmp_ge (tgt := 153) G dX10_nextOrder_111 (by decide) (by first | omega | exact b01_R _ | exact bP_R _) (by first | omega | exact b01_R _ | exact bP_R _) (fun c111 => ?_) (fun c111 => ?_)
      · refine aw_aload_n G dX10_nextOrder_153 rfl ?_
        have e75 : τ 75 = σ 75 := ho 75 (by decide)
        refine cv_X10_144 G dX10_nextOrder_154 (c_X10_laySums (by rw [e75, e1, hO.2 0 (by decide)]; omega)) (kk := fun t154 h154 => ?_)
        obtain ⟨o1, q1⟩ := h154
        refine aw_iconst G dX10_nextOrder_157 ?_
        exact aw_zret G T dX10_nextOrder_158 (Or.inr rfl) (by
          have hz : rvs k g lo hi = g := by
            cases k with
            | zero => rfl
            | succ k => rw [rvs_s, if_neg (by omega)]
          refine Or.inl ⟨rfl, ?_, hpk, by rw [o1 75 (by decide), e75]⟩
          rw [← hq, hz]
          exact MO_lay (hO.tr (NO.of (ho.mono (by decide)))) (fun p l a b c d => by rw [ho 90 (by decide)]; exact hw p l a b c d) hg o1 q1)
      · refine aw_aload_n G dX10_nextOrder_114 rfl ?_
        refine gf_X10_50 G dX10_nextOrder_115 (kk := ?_)
        refine aw_iload G dX10_nextOrder_118 rfl ?_
        refine aw_iaload G dX10_nextOrder_120 (by first | decide | assumption | omega) (by first | rfl | assumption) (by first | decide | assumption) (by omega) ?_
        rw [hg lo (by omega) (by omega)]
        refine aw_istore_3 G dX10_nextOrder_121 (hc := by first | rfl | assumption) (k := ?_)
        refine aw_aload_n G dX10_nextOrder_122 rfl ?_
        refine gf_X10_50 G dX10_nextOrder_123 (kk := ?_)
        refine aw_iload G dX10_nextOrder_126 rfl ?_
        refine aw_aload_n G dX10_nextOrder_128 rfl ?_
        refine gf_X10_50 G dX10_nextOrder_129 (kk := ?_)
        refine aw_iload G dX10_nextOrder_132 rfl ?_
        refine aw_iaload G dX10_nextOrder_134 (by first | decide | assumption | omega) (by first | rfl | assumption) (by first | decide | assumption) (by omega) ?_
        rw [hg hi (by omega) (by omega)]
        refine aw_iastore G dX10_nextOrder_135 (by first | decide | assumption | omega) (by first | rfl | assumption) (by first | decide | assumption) (by omega) ?_
        refine aw_aload_n G dX10_nextOrder_136 rfl ?_
        refine gf_X10_50 G dX10_nextOrder_137 (kk := ?_)
        refine aw_iload G dX10_nextOrder_140 rfl ?_
        refine aw_iload_n G dX10_nextOrder_142 rfl ?_
        refine aw_iastore G dX10_nextOrder_143 (by first | decide | assumption | omega) (by first | rfl | assumption) (by first | decide | assumption) (by omega) ?_
        refine aw_iinc_4 G dX10_nextOrder_144 rfl (hc := by first | rfl | assumption) (k := ?_)
        refine aw_iinc_5 G dX10_nextOrder_147 rfl (hc := by first | rfl | assumption) (k := ?_)
        refine aw_goto (tgt := 107) G dX10_nextOrder_150 (by decide) ?_
        obtain ⟨k', rfl⟩ : ∃ q, k = q + 1 := ⟨k - 1, by omega⟩
        rw [rvs_s, if_pos (by omega)] at hq
        exact ih (lo + 1) (hi + -1) _ _ k' a b _ hpk (by omega) (by omega) (swp_up hg) ((ho.up (by decide)).up (by decide)) (by omega) hq
  have two : ∀ (n0 : Nat) (gr : Int) (a : Int), (0 ≤ a ∧ a + 1 < ρ 75 1) → (pkL (ρ 75 1) f = a) → (f a ≤ f (a + 1)) → (a + 1 ≤ gr ∧ gr < ρ 75 1) → (gr - a - 1 < (n0 : Int)) → (pm f (f a) a (gr - a - 1).toNat = pmL (ρ 75 1) f) → AW X V (σ) 47 [] [some (rv V 75), some (iv a), some (iv gr), none, none, none] := by
    intro n0
    induction n0 with
    | zero =>
      intro gr a ha hpk hpa h0 h1 hq
      exfalso
      omega
    | succ n0 ih =>
      intro gr a ha hpk hpa h0 h1 hq
      refine aw_aload_n G dX10_nextOrder_47 rfl ?_
      refine gf_X10_50 G dX10_nextOrder_48 (kk := ?_)
      have hRg := hR gr (by omega) (by omega)
      have hRa := hR a (by omega) (by omega)
      refine aw_iload_n G dX10_nextOrder_51 rfl ?_
      refine aw_iaload G dX10_nextOrder_52 (by first | decide | assumption | omega) (by first | rfl | assumption) (by first | decide | assumption) (by omega) ?_
      rw [hl (gr) (by omega) (by omega)]
      refine aw_aload_n G dX10_nextOrder_53 rfl ?_
      refine gf_X10_50 G dX10_nextOrder_54 (kk := ?_)
      refine aw_iload_n G dX10_nextOrder_57 rfl ?_
      refine aw_iaload G dX10_nextOrder_58 (by first | decide | assumption | omega) (by first | rfl | assumption) (by first | decide | assumption) (by omega) ?_
      rw [hl (a) (by omega) (by omega)]
      refine aw_icmp_ge (tgt := 68) G dX10_nextOrder_59 (by decide) (by first | omega | exact b01_R _ | exact bP_R _) (by first | omega | exact b01_R _ | exact bP_R _) (fun c59 => ?_) (fun c59 => ?_)
      · have hpm : pmL (ρ 75 1) f = gr := by
          rw [← hq]
          by_cases e : gr = a + 1
          · rw [show (gr - a - 1).toNat = 0 by omega, e]
            rfl
          · obtain ⟨m, hm⟩ : ∃ m : Nat, gr - a - 1 = (m : Int) + 1 := ⟨(gr - a - 2).toNat, by omega⟩
            rw [show (gr - a - 1).toNat = m + 1 by omega, pm_s, show a + 1 + ((m : Int) + 1) = gr by omega, if_neg (by omega)]
        refine aw_aload_n G dX10_nextOrder_68 rfl ?_
        refine gf_X10_50 G dX10_nextOrder_69 (kk := ?_)
        refine aw_iload_n G dX10_nextOrder_72 rfl ?_
        refine aw_iaload G dX10_nextOrder_73 (by first | decide | assumption | omega) (by first | rfl | assumption) (by first | decide | assumption) (by omega) ?_
        rw [hl (a) (by omega) (by omega)]
        refine aw_istore_3 G dX10_nextOrder_74 (hc := by first | rfl | assumption) (k := ?_)
        refine aw_aload_n G dX10_nextOrder_75 rfl ?_
        refine gf_X10_50 G dX10_nextOrder_76 (kk := ?_)
        refine aw_iload_n G dX10_nextOrder_79 rfl ?_
        refine aw_aload_n G dX10_nextOrder_80 rfl ?_
        refine gf_X10_50 G dX10_nextOrder_81 (kk := ?_)
        refine aw_iload_n G dX10_nextOrder_84 rfl ?_
        refine aw_iaload G dX10_nextOrder_85 (by first | decide | assumption | omega) (by first | rfl | assumption) (by first | decide | assumption) (by omega) ?_
        rw [hl (gr) (by omega) (by omega)]
        refine aw_iastore G dX10_nextOrder_86 (by first | decide | assumption | omega) (by first | rfl | assumption) (by first | decide | assumption) (by omega) ?_
        refine aw_aload_n G dX10_nextOrder_87 rfl ?_
        refine gf_X10_50 G dX10_nextOrder_88 (kk := ?_)
        refine aw_iload_n G dX10_nextOrder_91 rfl ?_
        refine aw_iload_n G dX10_nextOrder_92 rfl ?_
        refine aw_iastore G dX10_nextOrder_93 (by first | decide | assumption | omega) (by first | rfl | assumption) (by first | decide | assumption) (by omega) ?_
        refine aw_iload_n G dX10_nextOrder_94 rfl ?_
        refine aw_iconst G dX10_nextOrder_95 ?_
        refine aw_iadd G dX10_nextOrder_96 ?_
        refine aw_istore_4 G dX10_nextOrder_97 (hc := by first | rfl | assumption) (k := ?_)
        refine aw_aload_n G dX10_nextOrder_99 rfl ?_
        refine gf_X10_82 G dX10_nextOrder_100 (kk := ?_)
        rw [up_ne (show (75:Nat) ≠ 88 by decide), up_ne (show (75:Nat) ≠ 88 by decide), e1]
        refine aw_iconst G dX10_nextOrder_103 ?_
        refine aw_isub G dX10_nextOrder_104 ?_
        refine aw_istore_5 G dX10_nextOrder_105 (hc := by first | rfl | assumption) (k := ?_)
        exact three ((ρ 75 1).toNat + 1) (a + 1) (ρ 75 1 - 1) _ (swp f a gr) (ρ 75 1).toNat a gr _ (by omega) (by omega) (by omega) (swp_up hl) ((Only.rf.up (by decide)).up (by decide)) (by omega) (by unfold nxP; rw [hpk, hpm, if_neg (by omega)])
      · refine aw_iinc_2 G dX10_nextOrder_62 rfl (hc := by first | rfl | assumption) (k := ?_)
        refine aw_goto (tgt := 47) G dX10_nextOrder_65 (by decide) ?_
        have hne : gr ≠ a + 1 := fun e => by rw [e] at c59; omega
        obtain ⟨m, hm⟩ : ∃ m : Nat, gr - a - 1 = (m : Int) + 1 := ⟨(gr - a - 2).toNat, by omega⟩
        rw [show (gr - a - 1).toNat = m + 1 by omega, pm_s, show a + 1 + ((m : Int) + 1) = gr by omega, if_pos (by omega)] at hq
        exact ih (gr + -1) a ha hpk hpa (by omega) (by omega) (by rw [show (gr + -1 - a - 1).toNat = m by omega]; exact hq)
  have one : ∀ (n0 : Nat) (a : Int), (-2 ≤ a ∧ a + 1 < ρ 75 1 ∧ (a = -2 → ρ 75 1 = 0)) → (a + 2 < (n0 : Int)) → (pk f (a + 1).toNat = pkL (ρ 75 1) f) → AW X V (σ) 7 [] [some (rv V 75), some (iv a), none, none, none, none] := by
    intro n0
    induction n0 with
    | zero =>
      intro a h0 h1 hq
      exfalso
      omega
    | succ n0 ih =>
      intro a h0 h1 hq
      refine aw_iload_n G dX10_nextOrder_7 rfl ?_
      refine aw_if_lt (tgt := 34) G dX10_nextOrder_8 (by decide) (by first | omega | exact b01_R _ | exact bP_R _) (fun c8 => ?_) (fun c8 => ?_)
      · refine aw_iload_n G dX10_nextOrder_34 rfl ?_
        refine aw_if_ge (tgt := 40) G dX10_nextOrder_35 (by decide) (by first | omega | exact b01_R _ | exact bP_R _) (fun c35 => ?_) (fun c35 => ?_)
        · refine aw_aload_n G dX10_nextOrder_40 rfl ?_
          refine gf_X10_82 G dX10_nextOrder_41 (kk := ?_)
          rw [e1]
          refine aw_iconst G dX10_nextOrder_44 ?_
          refine aw_isub G dX10_nextOrder_45 ?_
          refine aw_istore_2 G dX10_nextOrder_46 (hc := by first | rfl | assumption) (k := ?_)
          first
            | (exfalso; omega)
            | (have hpa := c25
               rw [show (a + 1).toNat = a.toNat + 1 by omega, pk_s, show ((a.toNat : Nat) : Int) = a by omega, if_neg (by omega)] at hq
               exact two ((ρ 75 1).toNat + 1) (ρ 75 1 - 1) a (by omega) hq.symm hpa (by omega) (by omega) (by unfold pmL; rw [← hq, show ρ 75 1 - 1 - (a + 1) = ρ 75 1 - 1 - a - 1 by omega]))
        · refine aw_iconst G dX10_nextOrder_38 ?_
          exact aw_zret G T dX10_nextOrder_39 (Or.inl rfl) (by
            first
              | (exfalso; omega)
              | (refine Or.inr ⟨rfl, ?_, rfl⟩
                 rw [← hq, show (a + 1).toNat = 0 by omega]
                 exact (show (-1 : Int) < 0 by decide)))
      · have hRa := hR a (by omega) (by omega)
        have hRb := hR (a + 1) (by omega) (by omega)
        refine aw_aload_n G dX10_nextOrder_11 rfl ?_
        refine gf_X10_50 G dX10_nextOrder_12 (kk := ?_)
        refine aw_iload_n G dX10_nextOrder_15 rfl ?_
        refine aw_iaload G dX10_nextOrder_16 (by first | decide | assumption | omega) (by first | rfl | assumption) (by first | decide | assumption) (by omega) ?_
        rw [hl (a) (by omega) (by omega)]
        refine aw_aload_n G dX10_nextOrder_17 rfl ?_
        refine gf_X10_50 G dX10_nextOrder_18 (kk := ?_)
        refine aw_iload_n G dX10_nextOrder_21 rfl ?_
        refine aw_iconst G dX10_nextOrder_22 ?_
        refine aw_iadd G dX10_nextOrder_23 ?_
        refine aw_iaload G dX10_nextOrder_24 (by first | decide | assumption | omega) (by first | rfl | assumption) (by first | decide | assumption) (by omega) ?_
        rw [hl (a + 1) (by omega) (by omega)]
        refine aw_icmp_le (tgt := 34) G dX10_nextOrder_25 (by decide) (by first | omega | exact b01_R _ | exact bP_R _) (by first | omega | exact b01_R _ | exact bP_R _) (fun c25 => ?_) (fun c25 => ?_)
        · refine aw_iload_n G dX10_nextOrder_34 rfl ?_
          refine aw_if_ge (tgt := 40) G dX10_nextOrder_35 (by decide) (by first | omega | exact b01_R _ | exact bP_R _) (fun c35 => ?_) (fun c35 => ?_)
          · refine aw_aload_n G dX10_nextOrder_40 rfl ?_
            refine gf_X10_82 G dX10_nextOrder_41 (kk := ?_)
            rw [e1]
            refine aw_iconst G dX10_nextOrder_44 ?_
            refine aw_isub G dX10_nextOrder_45 ?_
            refine aw_istore_2 G dX10_nextOrder_46 (hc := by first | rfl | assumption) (k := ?_)
            first
              | (exfalso; omega)
              | (have hpa := c25
                 rw [show (a + 1).toNat = a.toNat + 1 by omega, pk_s, show ((a.toNat : Nat) : Int) = a by omega, if_neg (by omega)] at hq
                 exact two ((ρ 75 1).toNat + 1) (ρ 75 1 - 1) a (by omega) hq.symm hpa (by omega) (by omega) (by unfold pmL; rw [← hq, show ρ 75 1 - 1 - (a + 1) = ρ 75 1 - 1 - a - 1 by omega]))
          · refine aw_iconst G dX10_nextOrder_38 ?_
            exact aw_zret G T dX10_nextOrder_39 (Or.inl rfl) (by
            first
              | (exfalso; omega)
              | (refine Or.inr ⟨rfl, ?_, rfl⟩
                 rw [← hq, show (a + 1).toNat = 0 by omega]
                 exact (show (-1 : Int) < 0 by decide)))
        · refine aw_iinc_1 G dX10_nextOrder_28 rfl (hc := by first | rfl | assumption) (k := ?_)
          refine aw_goto (tgt := 7) G dX10_nextOrder_31 (by decide) ?_
          rw [show (a + 1).toNat = a.toNat + 1 by omega, pk_s, show ((a.toNat : Nat) : Int) = a by omega, if_pos (by omega)] at hq
          exact ih (a + -1) (by omega) (by omega) (by rw [show (a + -1 + 1).toNat = a.toNat by omega]; exact hq)
  refine aw_aload_n G dX10_nextOrder_0 rfl ?_
  refine gf_X10_82 G dX10_nextOrder_1 (kk := ?_)
  rw [e1]
  refine aw_iconst G dX10_nextOrder_4 ?_
  refine aw_isub G dX10_nextOrder_5 ?_
  refine aw_istore_1 G dX10_nextOrder_6 (hc := by first | rfl | assumption) (k := ?_)
  exact one ((ρ 75 1).toNat + 1) (ρ 75 1 - 2) (by omega) (by omega) (by unfold pkL; rw [show ρ 75 1 - 2 + 1 = ρ 75 1 - 1 by omega])
