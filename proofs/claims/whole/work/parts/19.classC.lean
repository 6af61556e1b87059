theorem RX_rows5 {α σ : St} {n : Int} {f : Int → Int} (q : RX α σ) : RX (fill α 80 n f) (fill σ 6 n f) := by
  obtain ⟨q1, q2, q3, q4, q5, q6⟩ := q
  have sr : ∀ k, k ≠ 6 → fill σ 6 n f k = σ k := fun k b => fill_r b
  have ar : ∀ k, k ≠ 80 → fill α 80 n f k = α k := fun k b => fill_r b
  refine ⟨⟨?_, ?_, fun i i0 i1 => ?_⟩, q2.k (by rw [ar _ (by decide)]) (ar _ (by decide)) (by rw [sr _ (by omega)]) (sr _ (by omega)), q3.k (by rw [ar _ (by decide)]) (ar _ (by decide)) (ar _ (by decide)) (ar _ (by decide)) (by rw [sr _ (by omega)]) (by rw [sr _ (by omega)]) (fun k a b => sr _ (by omega)), q4.k (ar _ (by decide)) (ar _ (by decide)) (sr _ (by omega)) (fun k a b => sr _ (by omega)), q5.k (ar _ (by decide)) (sr _ (by omega)), q6.k (by rw [ar _ (by decide)]) (ar _ (by decide)) (by rw [sr _ (by omega)]) (fun k a b => sr _ (by omega))⟩
  · rw [ar _ (by decide), sr _ (by decide)]; exact q1.1
  · rw [ar _ (by decide), sr _ (by decide)]; exact q1.2.1
  · obtain ⟨h1, h2, h3, h4, h5⟩ := q1.2.2 i i0 i1
    rw [sr (1 + 1) (by decide), sr (1 + 2) (by decide), sr (1 + 3) (by decide), sr (1 + 4) (by decide), ar (75 + 1) (by decide), ar (75 + 2) (by decide), ar (75 + 3) (by decide), ar (75 + 4) (by decide)]
    refine ⟨h1, h2, h3, h4, ?_⟩
    show fill σ 6 n f 6 i = fill α 80 n f 80 i
    by_cases z : 0 ≤ i ∧ i < n
    · rw [fill_i z, fill_i z]
    · unfold fill
      rw [if_neg (fun y => z y.2), if_neg (fun y => z y.2)]
      exact h5
theorem fill_c {σ : St} {k : Nat} {n : Int} {f g : Int → Int} (h : ∀ i, 0 ≤ i → i < n → f i = g i) : fill σ k n f = fill σ k n g := by
  funext k' j
  unfold fill
  by_cases z : k' = k ∧ 0 ≤ j ∧ j < n
  · rw [if_pos z, if_pos z, h j z.2.1 z.2.2]
  · rw [if_neg z, if_neg z]
theorem RX.img {α σ : St} (q : RX α σ) : RX (nx_image α) (up (cpNet σ 7 1) 0 2 1) := by
  obtain ⟨q1, q2, q3, q4, q5, q6⟩ := q
  have sr : ∀ k, k < 7 ∨ 12 < k → k ≠ 0 → up (cpNet σ 7 1) 0 2 1 k = σ k := fun k a b => by rw [up_ne b, cpNet_r (by omega)]
  have ar : ∀ k, k ≠ 75 ∧ k ≠ 95 → nx_image α k = α k := fun k b => by
    funext j
    unfold nx_image keepR
    rw [if_neg b.2, up_o b.1]
  have af : ∀ j : Int, j ≠ 26 → nx_image α 75 j = α 75 j := fun j b => by
    unfold nx_image keepR
    rw [if_neg (by decide), up_nj b]
  refine ⟨q1.k (af _ (by decide)) (af _ (by decide)) (ar _ (by decide)) (ar _ (by decide)) (ar _ (by decide)) (ar _ (by decide)) (ar _ (by decide)) (by rw [sr _ (by omega) (by omega)]) (by rw [sr _ (by omega) (by omega)]) (fun k a b => sr _ (by omega) (by omega)), q2.k (af _ (by decide)) (ar _ (by decide)) (by rw [sr _ (by omega) (by omega)]) (sr _ (by omega) (by omega)), q3.k (af _ (by decide)) (ar _ (by decide)) (ar _ (by decide)) (ar _ (by decide)) (by rw [sr _ (by omega) (by omega)]) (by rw [sr _ (by omega) (by omega)]) (fun k a b => sr _ (by omega) (by omega)), q4.k (ar _ (by decide)) (ar _ (by decide)) (sr _ (by omega) (by omega)) (fun k a b => sr _ (by omega) (by omega)), q5.k (ar _ (by decide)) (sr _ (by omega) (by omega)), ?_⟩
  obtain ⟨c0, c1, cr⟩ := cpNet_eq (σ := σ) (a := 7) (b := 1) (by omega)
  refine ⟨rfl, fun _ => ⟨?_, ?_, fun i i0 i1 => ?_⟩⟩
  · rw [up_o (by decide), c0, q1.1]
    unfold nx_image keepR
    rw [if_pos rfl, if_neg (by decide), if_neg (by decide), if_neg (by decide), if_neg (by decide), if_neg (by decide), if_pos rfl, up_nj (by decide)]
  · rw [up_o (by decide), c1, q1.2.1]
    unfold nx_image keepR
    rw [if_pos rfl, if_neg (by decide), if_neg (by decide), if_neg (by decide), if_neg (by decide), if_neg (by decide), if_neg (by decide), if_pos rfl, up_nj (by decide)]
  · obtain ⟨h1, h2, h3, h4, h5⟩ := q1.2.2 i i0 i1
    obtain ⟨g1, g2, g3, g4, g5⟩ := cr i i0 i1
    rw [up_o (by decide), up_o (by decide), up_o (by decide), up_o (by decide), up_o (by decide)]
    refine ⟨g1.trans (h1.trans ?_), g2.trans (h2.trans ?_), g3.trans (h3.trans ?_), g4.trans (h4.trans ?_), g5.trans (h5.trans ?_)⟩
    · unfold nx_image keepR
      rw [if_pos rfl, if_pos ⟨i0, i1⟩, up_o (by decide)]
    · unfold nx_image keepR
      rw [if_pos rfl, if_neg (by omega), if_pos (by omega), up_o (by decide), show 8 + i - 8 = i by omega]
    · unfold nx_image keepR
      rw [if_pos rfl, if_neg (by omega), if_neg (by omega), if_pos (by omega), up_o (by decide), show 16 + i - 16 = i by omega]
    · unfold nx_image keepR
      rw [if_pos rfl, if_neg (by omega), if_neg (by omega), if_neg (by omega), if_pos (by omega), up_o (by decide), show 24 + i - 24 = i by omega]
    · unfold nx_image keepR
      rw [if_pos rfl, if_neg (by omega), if_neg (by omega), if_neg (by omega), if_neg (by omega), if_pos (by omega), up_o (by decide), show 32 + i - 32 = i by omega]
theorem RX.on {α σ : St} (q : RX α σ) (h : α 75 26 = 1) : RX (up (backR α 95) 75 7 0) (up (cpNet σ 1 7) 19 4 0) := by
  refine RX.forget ?_
  obtain ⟨q1, q2, q3, q4, q5, q6⟩ := q
  have sr : ∀ k, k < 1 ∨ 6 < k → cpNet σ 1 7 k = σ k := fun k a => cpNet_r (by omega)
  have ar : ∀ k, k ≠ 75 ∧ k ≠ 76 ∧ k ≠ 77 ∧ k ≠ 78 ∧ k ≠ 79 ∧ k ≠ 80 → backR α 95 k = α k := fun k b => by
    funext j
    unfold backR
    rw [if_neg (by omega), if_neg (by omega), if_neg (by omega), if_neg (by omega), if_neg (by omega), if_neg (by omega), if_neg (by omega)]
  have af : ∀ j : Int, j ≠ 0 → j ≠ 1 → backR α 95 75 j = α 75 j := fun j a b => by
    unfold backR
    rw [if_neg (by omega), if_neg (by omega), if_neg (by omega), if_neg (by omega), if_neg (by omega), if_neg (by omega), if_neg (by omega)]
  obtain ⟨c0, c1, cr⟩ := cpNet_eq (σ := σ) (a := 1) (b := 7) (by omega)
  obtain ⟨k0, k1, kr⟩ := q6.2 h
  refine ⟨⟨?_, ?_, fun i i0 i1 => ?_⟩, q2.k (af _ (by decide) (by decide)) (ar _ (by decide)) (by rw [sr _ (by omega)]) (sr _ (by omega)), q3.k (af _ (by decide) (by decide)) (ar _ (by decide)) (ar _ (by decide)) (ar _ (by decide)) (by rw [sr _ (by omega)]) (by rw [sr _ (by omega)]) (fun k a b => sr _ (by omega)), q4.k (ar _ (by decide)) (ar _ (by decide)) (sr _ (by omega)) (fun k a b => sr _ (by omega)), q5.k (ar _ (by decide)) (sr _ (by omega)), q6.k (af _ (by decide) (by decide)) (ar _ (by decide)) (by rw [sr _ (by omega)]) (fun k a b => sr _ (by omega))⟩
  · rw [c0, k0]
    unfold backR
    rw [if_neg (by omega), if_neg (by omega), if_neg (by omega), if_neg (by omega), if_neg (by omega), if_pos ⟨rfl, rfl⟩]
  · rw [c1, k1]
    unfold backR
    rw [if_neg (by omega), if_neg (by omega), if_neg (by omega), if_neg (by omega), if_neg (by omega), if_neg (by omega), if_pos ⟨rfl, rfl⟩]
  · obtain ⟨g1, g2, g3, g4, g5⟩ := cr i i0 i1
    obtain ⟨h1, h2, h3, h4, h5⟩ := kr i i0 i1
    refine ⟨g1.trans (h1.trans ?_), g2.trans (h2.trans ?_), g3.trans (h3.trans ?_), g4.trans (h4.trans ?_), g5.trans (h5.trans ?_)⟩
    · unfold backR
      rw [if_pos ⟨rfl, i0, i1⟩]
    · unfold backR
      rw [if_neg (by omega), if_pos ⟨rfl, i0, i1⟩]
    · unfold backR
      rw [if_neg (by omega), if_neg (by omega), if_pos ⟨rfl, i0, i1⟩]
    · unfold backR
      rw [if_neg (by omega), if_neg (by omega), if_neg (by omega), if_pos ⟨rfl, i0, i1⟩]
    · unfold backR
      rw [if_neg (by omega), if_neg (by omega), if_neg (by omega), if_neg (by omega), if_pos ⟨rfl, i0, i1⟩]
set_option maxHeartbeats 4000000 in
theorem c_X9_gives {V : Wd} {σ : St} {α : St} {l : Int} (h1 : inR l) (hk : OK α) (hX : RX α σ) : Ct V yX9_gives cX9_gives 3 (some .int) 2 61 [rv V 0, iv l] σ (PI (fun r τ => r = an_gives α l ∧ RX (nx_gives α l) τ ∧ MS σ τ)) := by
  refine ct_of (by decide) (Nat.le_of_ble_eq_true rfl) (fun X G T => ?_)
  have G : Gd X V cX9_gives RX9 3 2 61 := G
  show AW X V σ 0 [] [some (rv V 0), some (iv l), none]
  have hN : NetOK σ 1 := hX.1.ok hk.1
  obtain ⟨⟨e0, e1, er⟩, ⟨x1, x2⟩, xp, xl, xr, xi⟩ := id hX
  obtain ⟨⟨n1, n2, n3, n4, n5, n6⟩, u1, l1, l2, i1, s1, w1⟩ := id hk
  obtain ⟨p1, p2, p3, p4, p5, p6⟩ := id hN
  have hs71 : ∀ l, 0 ≤ l → l < 3 → inR (σ 71 l) := fun l a b => by
    have := xl l a b
    have := s1 l a b
    omega
  refine aw_aload_n G dX9_gives_0 rfl ?_
  refine aw_iload_n G dX9_gives_1 rfl ?_
  refine cv_X9_251 G dX9_gives_2 (c_X9_refusalOfList (by first | assumption | omega) hs71) (kk := fun r2 t2 h2 => ?_)
  obtain ⟨er2, et2⟩ := h2
  refine aw_istore_2 G dX9_gives_5 (hc := by first | rfl | assumption) (k := ?_)
  refine aw_iload_n G dX9_gives_6 rfl ?_
  refine aw_if_eq (tgt := 12) G dX9_gives_7 (by decide) (by rw [er2]; exact rl_R _ _) (fun c7 => ?_) (fun c7 => ?_)
  · rw [c7] at er2 et2
    rw [rt_n (by decide)] at et2
    obtain rfl := et2.symm
    have hg : (0 ≤ l ∧ l < 3) ∧ ¬ σ 71 l < 0 := by
      unfold rl at er2
      by_cases g1 : 0 ≤ l ∧ l < 3
      · rw [if_neg (by omega)] at er2
        by_cases g2 : σ 71 l < 0
        · rw [if_pos g2] at er2; exact absurd er2 (by decide)
        · exact ⟨g1, g2⟩
      · rw [if_pos g1] at er2; exact absurd er2 (by decide)
    have hl := xl l hg.1.1 hg.1.2
    have hs := s1 l hg.1.1 hg.1.2
    have hl1 := lay_l l.toNat (by omega)
    have hk1 : 68 + l.toNat < NC := by show _ < 97; omega
    refine aw_aload_n G dX9_gives_12 rfl ?_
    refine gf_X9_63 G dX9_gives_13 (kk := ?_)
    refine gf_X9_254 G dX9_gives_16 (kk := ?_)
    refine aw_iload_n G dX9_gives_19 rfl ?_
    refine aw_iaload G dX9_gives_20 (by first | decide | assumption | omega) (by first | rfl | assumption) (by first | decide | assumption) (by omega) ?_
    refine aw_aload_n G dX9_gives_21 rfl ?_
    refine gf_X9_10 G dX9_gives_22 (kk := ?_)
    refine gf_X9_109 G dX9_gives_25 (kk := ?_)
    refine aw_icmp_ne (tgt := 45) G dX9_gives_28 (by decide) (by first | omega | exact b01_R _ | exact bP_R _) (by first | omega | exact b01_R _ | exact bP_R _) (fun c28 => ?_) (fun c28 => ?_)
    · have hng : ¬ givesP α l := fun z => by
        first
          | (exact c28 (by rw [hl.1, z.1, e1]))
          | (exact c42 (fun i a b => by
              rw [hl.2 i a (by omega)]
              exact z.2 i a (by have := z.1; omega)))
      refine aw_aload_n G dX9_gives_45 rfl ?_
      refine aw_bipush G dX9_gives_46 (k := ?_)
      refine cv_X9_77 G dX9_gives_48 (c_X9_refused (by decide)) (kk := fun r48 t48 h48 => ?_)
      obtain ⟨rfl, ee48⟩ := h48
      obtain rfl := ee48.symm
      exact aw_iret G T dX9_gives_51 (⟨by unfold an_gives; rw [if_neg (by omega), if_neg (by omega), givesP_f hng], by unfold nx_gives; rw [if_neg (by omega), if_neg (by omega), givesP_fs hng]; exact RX_ref hX (by decide), (MS.rf _).up (by decide)⟩)
    · refine aw_aload_n G dX9_gives_31 rfl ?_
      refine gf_X9_63 G dX9_gives_32 (kk := ?_)
      refine aw_iload_n G dX9_gives_35 rfl ?_
      refine aw_iconst G dX9_gives_36 ?_
      refine aw_bipush G dX9_gives_37 (k := ?_)
      refine cv_X9_263 G dX9_gives_39 (c_X2_allWithin (by omega) (by omega) (fun i a b => by rw [hl.2 i a (by omega)]; exact hs.2.2 i a (by omega)) (by decide) (by decide)) (kk := fun r39 t39 h39 => ?_)
      obtain ⟨rfl, ee39⟩ := h39
      obtain rfl := ee39.symm
      refine aw_if_ne (tgt := 52) G dX9_gives_42 (by decide) (bP_R _) (fun c42 => ?_) (fun c42 => ?_)
      · try simp only [b01_0, b01_n, bP_0, bP_n, Classical.not_not] at c42
        have hgv : givesP α l := ⟨by omega, fun i a b => by
          have := c42 i a (by omega)
          rw [hl.2 i a (by omega)] at this
          exact this⟩
        refine aw_aload_n G dX9_gives_52 rfl ?_
        refine gf_X9_26 G dX9_gives_53 (kk := ?_)
        refine aw_aload_n G dX9_gives_56 rfl ?_
        refine gf_X9_10 G dX9_gives_57 (kk := ?_)
        refine cv_X9_118 G dX9_gives_60 (c_X4_keep ⟨xp.2.1, xp.2.2.1⟩ (by have := xp.1; omega)) (kk := fun t60 h60 => ?_)
        obtain rfl := h60.symm
        refine aw_aload_n G dX9_gives_63 rfl ?_
        refine gf_X9_63 G dX9_gives_64 (kk := ?_)
        refine gf_X9_247 G dX9_gives_67 (kk := ?_)
        refine aw_iload_n G dX9_gives_70 rfl ?_
        refine aw_aaload (ty := .int) G dX9_gives_71 (by first | decide | assumption) rfl (by decide) rfl (by omega) ?_
        refine aw_iconst G dX9_gives_72 ?_
        refine aw_aload_n G dX9_gives_73 rfl ?_
        refine gf_X9_10 G dX9_gives_74 (kk := ?_)
        refine gf_X9_121 G dX9_gives_77 (kk := ?_)
        refine aw_iconst G dX9_gives_80 ?_
        refine aw_aload_n G dX9_gives_81 rfl ?_
        refine gf_X9_10 G dX9_gives_82 (kk := ?_)
        refine gf_X9_109 G dX9_gives_85 (kk := ?_)
        rw [keepS_r ⟨xp.2.1, xp.2.2.1⟩ (show 1 < 19 ∨ _ by omega)]
        refine ca_X9_257 G dX9_gives_88 (h := by omega) (kk := ?_)
        refine aw_aload_n G dX9_gives_91 rfl ?_
        refine gf_X9_10 G dX9_gives_92 (kk := ?_)
        refine gf_X9_109 G dX9_gives_95 (kk := ?_)
        rw [cpy_o (show (1:Nat) ≠ 6 by decide), keepS_r ⟨xp.2.1, xp.2.2.1⟩ (show 1 < 19 ∨ _ by omega)]
        exact aw_iret G T dX9_gives_98 (⟨by unfold an_gives; rw [if_neg (by omega), if_neg (by omega), givesP_t hgv]; exact e1, by
          unfold nx_gives
          rw [if_neg (by omega), if_neg (by omega), givesP_ts hgv, cpy_seg, ← fill_seg, e1]
          have hz := RX_rows5 (hX.keep u1) (n := α 75 1) (f := fun i => α 86 (40 * l + i))
          rw [show fill (keepS σ) 6 (α 75 1) (fun i => keepS σ (68 + l.toNat) (0 + i)) = fill (keepS σ) 6 (α 75 1) (fun i => α 86 (40 * l + i)) from fill_c (fun i a b => by rw [keepS_r ⟨xp.2.1, xp.2.2.1⟩ (by omega), show (0:Int) + i = i by omega]; exact hl.2 i a (by have := hgv.1; omega))]
          exact hz, ((MS.rf _).keep ⟨xp.2.1, xp.2.2.1⟩).cpy (by decide)⟩)
      · try simp only [b01_0, b01_n, bP_0, bP_n, Classical.not_not] at c42
        have hng : ¬ givesP α l := fun z => by
          first
            | (exact c28 (by rw [hl.1, z.1, e1]))
            | (exact c42 (fun i a b => by
                rw [hl.2 i a (by omega)]
                exact z.2 i a (by have := z.1; omega)))
        refine aw_aload_n G dX9_gives_45 rfl ?_
        refine aw_bipush G dX9_gives_46 (k := ?_)
        refine cv_X9_77 G dX9_gives_48 (c_X9_refused (by decide)) (kk := fun r48 t48 h48 => ?_)
        obtain ⟨rfl, ee48⟩ := h48
        obtain rfl := ee48.symm
        exact aw_iret G T dX9_gives_51 (⟨by unfold an_gives; rw [if_neg (by omega), if_neg (by omega), givesP_f hng], by unfold nx_gives; rw [if_neg (by omega), if_neg (by omega), givesP_fs hng]; exact RX_ref hX (by decide), (MS.rf _).up (by decide)⟩)
  · refine aw_iload_n G dX9_gives_10 rfl ?_
    exact aw_iret G T dX9_gives_11 (by
          unfold rl at er2
          by_cases q : 0 ≤ l ∧ l < 3
          · have hl := xl l q.1 q.2
            rw [if_neg (by omega)] at er2
            by_cases q2 : σ 71 l < 0
            · rw [if_pos q2] at er2
              rw [er2, rt_n (by decide)] at et2
              rw [er2, et2]
              exact ⟨by unfold an_gives; (repeat' split) <;> first | rfl | (exfalso; omega) | omega, by unfold nx_gives; (repeat' split) <;> first | exact hX | (exfalso; omega), MS.rf _⟩
            rw [if_neg q2] at er2
            exact absurd er2 c7
          · rw [if_pos q] at er2
            rw [er2, show rt σ (-1) = up σ 72 (-(-1)) (σ 72 (-(-1)) + 1) from if_pos rfl] at et2
            rw [er2, et2]
            exact ⟨by unfold an_gives; (repeat' split) <;> first | rfl | (exfalso; omega) | omega, by unfold nx_gives; (repeat' split) <;> first | exact RX_ref hX (by decide) | (exfalso; omega), (MS.rf _).up (by decide)⟩)
set_option maxHeartbeats 4000000 in
theorem c_X9_rules {V : Wd} {σ : St} {α : St} {l : Int} (h1 : inR l) (hk : OK α) (hX : RX α σ) : Ct V yX9_rules cX9_rules 6 (some .int) 2 46 [rv V 0, iv l] σ (PI (fun r τ => r = an_rules α l ∧ RX (nx_rules α l) τ ∧ MS σ τ)) := by
  refine ct_of (by decide) (Nat.le_of_ble_eq_true rfl) (fun X G T => ?_)
  have G : Gd X V cX9_rules RX9 6 2 46 := G
  show AW X V σ 0 [] [some (rv V 0), some (iv l), none, none, none, none]
  have hN : NetOK σ 1 := hX.1.ok hk.1
  obtain ⟨⟨e0, e1, er⟩, ⟨x1, x2⟩, xp, xl, xr, xi⟩ := id hX
  obtain ⟨⟨n1, n2, n3, n4, n5, n6⟩, u1, l1, l2, i1, s1, w1⟩ := id hk
  obtain ⟨p1, p2, p3, p4, p5, p6⟩ := id hN
  have hs71 : ∀ l, 0 ≤ l → l < 3 → inR (σ 71 l) := fun l a b => by
    have := xl l a b
    have := s1 l a b
    omega
  have loop : ∀ (n0 : Nat) (i : Int), ((0 ≤ l ∧ l < 3) ∧ ¬ σ 71 l < 0) → (1 ≤ σ 71 l ∧ σ 71 l ≤ 7) → (0 ≤ i ∧ i ≤ 6) → (6 < i + (n0 : Int)) → (True) → AW X V (σ) 46 [] [some (rv V 0), some (iv l), some (iv 0), some (iv (σ 71 l)), some (iv (bitsTo (fun i => α 86 (40 * l + i)) (α 85 l) i.toNat)), some (iv i)] := by
    intro n0
    induction n0 with
    | zero =>
      intro i hg hs7 h0 h3 u0
      exfalso
      omega
    | succ n0 ih =>
      intro i hg hs7 h0 h3 u0
      have hl := xl l hg.1.1 hg.1.2
      have hs := s1 l hg.1.1 hg.1.2
      have hl1 := lay_l l.toNat (by omega)
      have hk1 : 68 + l.toNat < NC := by show _ < 97; omega
      rw [← hl.1] at ih ⊢
      have hC : ∀ i, 0 ≤ i → i < σ 71 l → σ (68 + l.toNat) i = (fun i => α 86 (40 * l + i)) i := fun i a b => hl.2 i a (by omega)
      have hRs : ∀ i, 0 ≤ i → i < σ 71 l → inR (σ (68 + l.toNat) i) := fun i a b => by rw [hC i a b]; exact hs.2.2 i a (by omega)
      refine aw_iload G dX9_rules_46 rfl ?_
      refine aw_bipush G dX9_rules_48 (k := ?_)
      refine aw_icmp_ge (tgt := 86) G dX9_rules_50 (by decide) (by first | omega | exact b01_R _ | exact bP_R _) (by first | omega | exact b01_R _ | exact bP_R _) (fun c50 => ?_) (fun c50 => ?_)
      · refine aw_iload G dX9_rules_86 rfl ?_
        exact aw_iret G T dX9_rules_88 (⟨by unfold an_rules; rw [if_neg (by omega), if_neg (by omega), if_neg (by omega), show i.toNat = 6 by omega, hl.1], by unfold nx_rules; rw [if_neg (by omega), if_neg (by omega), if_neg (by omega)]; exact hX, MS.rf _⟩)
      · refine aw_iload G dX9_rules_53 rfl ?_
        refine aw_aload_n G dX9_rules_55 rfl ?_
        refine gf_X9_63 G dX9_rules_56 (kk := ?_)
        refine gf_X9_247 G dX9_rules_59 (kk := ?_)
        refine aw_iload_n G dX9_rules_62 rfl ?_
        refine aw_aaload (ty := .int) G dX9_rules_63 (by first | decide | assumption) rfl (by decide) rfl (by omega) ?_
        refine aw_iload_n G dX9_rules_64 rfl ?_
        refine cs_X9_168 G dX9_rules_65 (c_X5_holds (N := 40) hk1 hl1 (by decide) (by omega) hRs (by omega) (by omega)) (kk := fun r65 t65 h65 => ?_)
        obtain ⟨rfl, ee65⟩ := h65
        obtain rfl := ee65.symm
        refine aw_if_eq (tgt := 80) G dX9_rules_68 (by decide) (bP_R _) (fun c68 => ?_) (fun c68 => ?_)
        · try simp only [b01_0, b01_n, bP_0, bP_n, Classical.not_not] at c68
          refine aw_iinc_5 G dX9_rules_80 rfl (hc := by first | rfl | assumption) (k := ?_)
          refine aw_goto (tgt := 46) G dX9_rules_83 (by decide) ?_
          have hz := ih (i + 1) hg hs7 (by omega) (by omega) trivial
          rw [show (i + 1).toNat = i.toNat + 1 by omega] at hz
          rw [show i = ((i.toNat : Nat) : Int) by omega] at c68
          first
            | (rw [bits_f (fun q => c68 ((ruleP_c hC).mpr q))] at hz; exact hz)
            | (rw [bits_t ((ruleP_c hC).mp c68), show ((i.toNat : Nat) : Int) = i by omega] at hz; exact hz)
        · try simp only [b01_0, b01_n, bP_0, bP_n, Classical.not_not] at c68
          refine aw_iload G dX9_rules_71 rfl ?_
          refine aw_iconst G dX9_rules_73 ?_
          refine aw_iload G dX9_rules_74 rfl ?_
          refine aw_ishl G dX9_rules_76 ?_
          refine aw_ior G dX9_rules_77 ?_
          refine aw_istore_4 G dX9_rules_78 (hc := by first | rfl | assumption) (k := ?_)
          refine aw_iinc_5 G dX9_rules_80 rfl (hc := by first | rfl | assumption) (k := ?_)
          refine aw_goto (tgt := 46) G dX9_rules_83 (by decide) ?_
          have hz := ih (i + 1) hg hs7 (by omega) (by omega) trivial
          rw [show (i + 1).toNat = i.toNat + 1 by omega] at hz
          rw [show i = ((i.toNat : Nat) : Int) by omega] at c68
          first
            | (rw [bits_f (fun q => c68 ((ruleP_c hC).mpr q))] at hz; exact hz)
            | (rw [bits_t ((ruleP_c hC).mp c68), show ((i.toNat : Nat) : Int) = i by omega] at hz; exact hz)
  refine aw_aload_n G dX9_rules_0 rfl ?_
  refine aw_iload_n G dX9_rules_1 rfl ?_
  refine cv_X9_251 G dX9_rules_2 (c_X9_refusalOfList (by first | assumption | omega) hs71) (kk := fun r2 t2 h2 => ?_)
  obtain ⟨er2, et2⟩ := h2
  refine aw_istore_2 G dX9_rules_5 (hc := by first | rfl | assumption) (k := ?_)
  refine aw_iload_n G dX9_rules_6 rfl ?_
  refine aw_if_eq (tgt := 12) G dX9_rules_7 (by decide) (by rw [er2]; exact rl_R _ _) (fun c7 => ?_) (fun c7 => ?_)
  · obtain rfl := c7
    rw [rt_n (by decide)] at et2
    obtain rfl := et2.symm
    have hg : (0 ≤ l ∧ l < 3) ∧ ¬ σ 71 l < 0 := by
      unfold rl at er2
      by_cases g1 : 0 ≤ l ∧ l < 3
      · rw [if_neg (by omega)] at er2
        by_cases g2 : σ 71 l < 0
        · rw [if_pos g2] at er2; exact absurd er2 (by decide)
        · exact ⟨g1, g2⟩
      · rw [if_pos g1] at er2; exact absurd er2 (by decide)
    have hl := xl l hg.1.1 hg.1.2
    have hs := s1 l hg.1.1 hg.1.2
    refine aw_aload_n G dX9_rules_12 rfl ?_
    refine gf_X9_63 G dX9_rules_13 (kk := ?_)
    refine gf_X9_254 G dX9_rules_16 (kk := ?_)
    refine aw_iload_n G dX9_rules_19 rfl ?_
    refine aw_iaload G dX9_rules_20 (by first | decide | assumption | omega) (by first | rfl | assumption) (by first | decide | assumption) (by omega) ?_
    refine aw_istore_3 G dX9_rules_21 (hc := by first | rfl | assumption) (k := ?_)
    refine aw_iload_n G dX9_rules_22 rfl ?_
    refine aw_iconst G dX9_rules_23 ?_
    refine aw_icmp_lt (tgt := 33) G dX9_rules_24 (by decide) (by first | omega | exact b01_R _ | exact bP_R _) (by first | omega | exact b01_R _ | exact bP_R _) (fun c24 => ?_) (fun c24 => ?_)
    · refine aw_aload_n G dX9_rules_33 rfl ?_
      refine aw_bipush G dX9_rules_34 (k := ?_)
      refine cv_X9_77 G dX9_rules_36 (c_X9_refused (by decide)) (kk := fun r36 t36 h36 => ?_)
      obtain ⟨rfl, ee36⟩ := h36
      obtain rfl := ee36.symm
      exact aw_iret G T dX9_rules_39 (⟨by unfold an_rules; (repeat' split) <;> first | rfl | (exfalso; omega) | omega, by unfold nx_rules; (repeat' split) <;> first | exact RX_ref hX (by decide) | (exfalso; omega), (MS.rf _).up (by decide)⟩)
    · refine aw_iload_n G dX9_rules_27 rfl ?_
      refine aw_bipush G dX9_rules_28 (k := ?_)
      refine aw_icmp_le (tgt := 40) G dX9_rules_30 (by decide) (by first | omega | exact b01_R _ | exact bP_R _) (by first | omega | exact b01_R _ | exact bP_R _) (fun c30 => ?_) (fun c30 => ?_)
      · refine aw_iconst G dX9_rules_40 ?_
        refine aw_istore_4 G dX9_rules_41 (hc := by first | rfl | assumption) (k := ?_)
        refine aw_iconst G dX9_rules_43 ?_
        refine aw_istore_5 G dX9_rules_44 (hc := by first | rfl | assumption) (k := ?_)
        exact loop 7 0 hg (by omega) (by omega) (by omega) trivial
      · refine aw_aload_n G dX9_rules_33 rfl ?_
        refine aw_bipush G dX9_rules_34 (k := ?_)
        refine cv_X9_77 G dX9_rules_36 (c_X9_refused (by decide)) (kk := fun r36 t36 h36 => ?_)
        obtain ⟨rfl, ee36⟩ := h36
        obtain rfl := ee36.symm
        exact aw_iret G T dX9_rules_39 (⟨by unfold an_rules; (repeat' split) <;> first | rfl | (exfalso; omega) | omega, by unfold nx_rules; (repeat' split) <;> first | exact RX_ref hX (by decide) | (exfalso; omega), (MS.rf _).up (by decide)⟩)
  · refine aw_iload_n G dX9_rules_10 rfl ?_
    exact aw_iret G T dX9_rules_11 (by
          unfold rl at er2
          by_cases q : 0 ≤ l ∧ l < 3
          · have hl := xl l q.1 q.2
            rw [if_neg (by omega)] at er2
            by_cases q2 : σ 71 l < 0
            · rw [if_pos q2] at er2
              rw [er2, rt_n (by decide)] at et2
              rw [er2, et2]
              exact ⟨by unfold an_rules; (repeat' split) <;> first | rfl | (exfalso; omega) | omega, by unfold nx_rules; (repeat' split) <;> first | exact hX | (exfalso; omega), MS.rf _⟩
            rw [if_neg q2] at er2
            exact absurd er2 c7
          · rw [if_pos q] at er2
            rw [er2, show rt σ (-1) = up σ 72 (-(-1)) (σ 72 (-(-1)) + 1) from if_pos rfl] at et2
            rw [er2, et2]
            exact ⟨by unfold an_rules; (repeat' split) <;> first | rfl | (exfalso; omega) | omega, by unfold nx_rules; (repeat' split) <;> first | exact RX_ref hX (by decide) | (exfalso; omega), (MS.rf _).up (by decide)⟩)
set_option maxHeartbeats 4000000 in
theorem c_X9_undo {V : Wd} {σ : St} {α : St}  (hk : OK α) (hX : RX α σ) : Ct V yX9_undo cX9_undo 1 (some .int) 2 61 [rv V 0] σ (PI (fun r τ => r = an_undo α ∧ RX (nx_undo α) τ ∧ MS σ τ)) := by
  refine ct_of (by decide) (Nat.le_of_ble_eq_true rfl) (fun X G T => ?_)
  have G : Gd X V cX9_undo RX9 1 2 61 := G
  show AW X V σ 0 [] [some (rv V 0)]
  have hN : NetOK σ 1 := hX.1.ok hk.1
  obtain ⟨⟨e0, e1, er⟩, ⟨x1, x2⟩, xp, xl, xr, xi⟩ := id hX
  obtain ⟨⟨n1, n2, n3, n4, n5, n6⟩, u1, l1, l2, i1, s1, w1⟩ := id hk
  obtain ⟨p1, p2, p3, p4, p5, p6⟩ := id hN
  refine aw_aload_n G dX9_undo_0 rfl ?_
  refine gf_X9_26 G dX9_undo_1 (kk := ?_)
  refine gf_X9_267 G dX9_undo_4 (kk := ?_)
  refine aw_iconst G dX9_undo_7 ?_
  refine aw_icmp_ge (tgt := 18) G dX9_undo_8 (by decide) (by rw [xp.1]; omega) (by first | omega | exact b01_R _ | exact bP_R _) (fun c8 => ?_) (fun c8 => ?_)
  · have hu0 := xp.1
    refine aw_aload_n G dX9_undo_18 rfl ?_
    refine gf_X9_26 G dX9_undo_19 (kk := ?_)
    refine aw_aload_n G dX9_undo_22 rfl ?_
    refine gf_X9_10 G dX9_undo_23 (kk := ?_)
    refine cv_X9_268 G dX9_undo_26 (c_X4_restore ⟨xp.2.1, xp.2.2.1⟩) (kk := fun t26 h26 => ?_)
    obtain rfl := h26.symm
    refine aw_aload_n G dX9_undo_29 rfl ?_
    refine gf_X9_26 G dX9_undo_30 (kk := ?_)
    refine gf_X9_267 G dX9_undo_33 (kk := ?_)
    exact aw_iret G T dX9_undo_36 (⟨by unfold restS; rw [cpy_o (by omega), cpy_o (by omega), cpy_o (by omega), up_at]; unfold an_undo; (repeat' split) <;> first | rfl | (exfalso; omega) | omega, hX.rest (by omega), (MS.rf _).rest⟩)
  · have hu0 := xp.1
    refine aw_aload_n G dX9_undo_11 rfl ?_
    refine aw_bipush G dX9_undo_12 (k := ?_)
    refine cv_X9_77 G dX9_undo_14 (c_X9_refused (by decide)) (kk := fun r14 t14 h14 => ?_)
    obtain ⟨rfl, ee14⟩ := h14
    obtain rfl := ee14.symm
    exact aw_iret G T dX9_undo_17 (⟨by unfold an_undo; (repeat' split) <;> first | rfl | (exfalso; omega) | omega, by unfold nx_undo; (repeat' split) <;> first | exact hX | exact RX_ref hX (by decide) | (exfalso; omega), by first | exact MS.rf _ | exact (MS.rf _).up (by decide)⟩)
set_option maxHeartbeats 4000000 in
theorem c_X9_image {V : Wd} {σ : St} {α : St}  (hk : OK α) (hX : RX α σ) : Ct V yX9_image cX9_image 1 (some .int) 2 61 [rv V 0] σ (PI (fun r τ => r = an_image α ∧ RX (nx_image α) τ ∧ MS σ τ)) := by
  refine ct_of (by decide) (Nat.le_of_ble_eq_true rfl) (fun X G T => ?_)
  have G : Gd X V cX9_image RX9 1 2 61 := G
  show AW X V σ 0 [] [some (rv V 0)]
  have hN : NetOK σ 1 := hX.1.ok hk.1
  obtain ⟨⟨e0, e1, er⟩, ⟨x1, x2⟩, xp, xl, xr, xi⟩ := id hX
  obtain ⟨⟨n1, n2, n3, n4, n5, n6⟩, u1, l1, l2, i1, s1, w1⟩ := id hk
  obtain ⟨p1, p2, p3, p4, p5, p6⟩ := id hN
  refine aw_aload_n G dX9_image_0 rfl ?_
  refine gf_X9_16 G dX9_image_1 (kk := ?_)
  refine aw_aload_n G dX9_image_4 rfl ?_
  refine gf_X9_10 G dX9_image_5 (kk := ?_)
  refine cv_X9_271 G dX9_image_8 (c_X3_copyFrom (by first | exact isNet_1 | exact isNet_7 | exact isNet_13) (by first | exact isNet_1 | exact isNet_7 | exact isNet_13) (by omega)) (kk := fun t8 h8 => ?_)
  obtain rfl := h8.symm
  refine aw_aload_n G dX9_image_11 rfl ?_
  refine aw_iconst G dX9_image_12 ?_
  refine pf_X9_19 G dX9_image_13 (Or.inr rfl) (kk := ?_)
  refine aw_aload_n G dX9_image_16 rfl ?_
  refine gf_X9_16 G dX9_image_17 (kk := ?_)
  refine gf_X9_109 G dX9_image_20 (kk := ?_)
  exact aw_iret G T dX9_image_23 (⟨by rw [up_o (by decide), (cpNet_eq (σ := σ) (a := 7) (b := 1) (by omega)).2.1, e1]; rfl, hX.img, ((MS.rf _).net (by decide)).up (by decide)⟩)
set_option maxHeartbeats 4000000 in
theorem c_X9_on {V : Wd} {σ : St} {α : St}  (hk : OK α) (hX : RX α σ) : Ct V yX9_on cX9_on 1 (some .int) 2 61 [rv V 0] σ (PI (fun r τ => r = an_on α ∧ RX (nx_on α) τ ∧ MS σ τ)) := by
  refine ct_of (by decide) (Nat.le_of_ble_eq_true rfl) (fun X G T => ?_)
  have G : Gd X V cX9_on RX9 1 2 61 := G
  show AW X V σ 0 [] [some (rv V 0)]
  have hN : NetOK σ 1 := hX.1.ok hk.1
  obtain ⟨⟨e0, e1, er⟩, ⟨x1, x2⟩, xp, xl, xr, xi⟩ := id hX
  obtain ⟨⟨n1, n2, n3, n4, n5, n6⟩, u1, l1, l2, i1, s1, w1⟩ := id hk
  obtain ⟨p1, p2, p3, p4, p5, p6⟩ := id hN
  refine aw_aload_n G dX9_on_0 rfl ?_
  refine gf_X9_19 G dX9_on_1 (kk := ?_)
  refine aw_if_ne (tgt := 14) G dX9_on_4 (by decide) (by rw [xi.1]; omega) (fun c4 => ?_) (fun c4 => ?_)
  · try simp only [b01_0, b01_n, bP_0, bP_n, Classical.not_not] at c4
    have hu0 := xi.1
    refine aw_aload_n G dX9_on_14 rfl ?_
    refine gf_X9_10 G dX9_on_15 (kk := ?_)
    refine aw_aload_n G dX9_on_18 rfl ?_
    refine gf_X9_16 G dX9_on_19 (kk := ?_)
    refine cv_X9_271 G dX9_on_22 (c_X3_copyFrom (by first | exact isNet_1 | exact isNet_7 | exact isNet_13) (by first | exact isNet_1 | exact isNet_7 | exact isNet_13) (by omega)) (kk := fun t22 h22 => ?_)
    obtain rfl := h22.symm
    refine aw_aload_n G dX9_on_25 rfl ?_
    refine gf_X9_26 G dX9_on_26 (kk := ?_)
    refine cv_X9_93 G dX9_on_29 (c_X4_forget) (kk := fun t29 h29 => ?_)
    obtain rfl := h29.symm
    refine aw_aload_n G dX9_on_32 rfl ?_
    refine gf_X9_10 G dX9_on_33 (kk := ?_)
    refine gf_X9_109 G dX9_on_36 (kk := ?_)
    exact aw_iret G T dX9_on_39 (⟨by rw [up_o (by decide), (cpNet_eq (σ := σ) (a := 1) (b := 7) (by omega)).2.1, (xi.2 (by omega)).2.1]; unfold an_on; (repeat' split) <;> first | rfl | (exfalso; omega) | omega, by unfold nx_on; (repeat' split) <;> first | exact hX.on (by omega) | (exfalso; omega), ((MS.rf _).net (by decide)).up (by decide)⟩)
  · try simp only [b01_0, b01_n, bP_0, bP_n, Classical.not_not] at c4
    have hu0 := xi.1
    refine aw_aload_n G dX9_on_7 rfl ?_
    refine aw_bipush G dX9_on_8 (k := ?_)
    refine cv_X9_77 G dX9_on_10 (c_X9_refused (by decide)) (kk := fun r10 t10 h10 => ?_)
    obtain ⟨rfl, ee10⟩ := h10
    obtain rfl := ee10.symm
    exact aw_iret G T dX9_on_13 (⟨by unfold an_on; (repeat' split) <;> first | rfl | (exfalso; omega) | omega, by unfold nx_on; (repeat' split) <;> first | exact hX | exact RX_ref hX (by decide) | (exfalso; omega), by first | exact MS.rf _ | exact (MS.rf _).up (by decide)⟩)
set_option maxHeartbeats 4000000 in
theorem c_X9_count {V : Wd} {σ : St} {α : St} {v : Int} (h1 : inR v) (hk : OK α) (hX : RX α σ) : Ct V yX9_count cX9_count 2 (some .int) 1 23 [rv V 0, iv v] σ (PI (fun r τ => r = an_count α v ∧ RX α τ ∧ MS σ τ)) := by
  refine ct_of (by decide) (Nat.le_of_ble_eq_true rfl) (fun X G T => ?_)
  have G : Gd X V cX9_count RX9 2 1 23 := G
  show AW X V σ 0 [] [some (rv V 0), some (iv v)]
  have hN : NetOK σ 1 := hX.1.ok hk.1
  obtain ⟨⟨e0, e1, er⟩, ⟨x1, x2⟩, xp, xl, xr, xi⟩ := id hX
  obtain ⟨⟨n1, n2, n3, n4, n5, n6⟩, u1, l1, l2, i1, s1, w1⟩ := id hk
  obtain ⟨p1, p2, p3, p4, p5, p6⟩ := id hN
  refine aw_iload_n G dX9_count_0 rfl ?_
  by_cases s1_0 : v = 0
  · refine aw_tswIn (off := 35) (tgt := 36) G dX9_count_1 (by first | omega | exact b01_R _ | exact bP_R _) (by omega) (by omega) (by rw [s1_0]; rfl) (by decide) ?_
    refine aw_aload_n G dX9_count_36 rfl ?_
    refine gf_X9_10 G dX9_count_37 (kk := ?_)
    refine gf_X9_96 G dX9_count_40 (kk := ?_)
    exact aw_iret G T dX9_count_43 (⟨by rw [e0]; unfold an_count; (repeat' split) <;> first | rfl | (exfalso; omega) | omega, hX, MS.rf _⟩)
  by_cases s1_1 : v = 1
  · refine aw_tswIn (off := 43) (tgt := 44) G dX9_count_1 (by first | omega | exact b01_R _ | exact bP_R _) (by omega) (by omega) (by rw [s1_1]; rfl) (by decide) ?_
    refine aw_aload_n G dX9_count_44 rfl ?_
    refine gf_X9_10 G dX9_count_45 (kk := ?_)
    refine gf_X9_109 G dX9_count_48 (kk := ?_)
    exact aw_iret G T dX9_count_51 (⟨by rw [e1]; unfold an_count; (repeat' split) <;> first | rfl | (exfalso; omega) | omega, hX, MS.rf _⟩)
  by_cases s1_2 : v = 2
  · refine aw_tswIn (off := 51) (tgt := 52) G dX9_count_1 (by first | omega | exact b01_R _ | exact bP_R _) (by omega) (by omega) (by rw [s1_2]; rfl) (by decide) ?_
    refine aw_aload_n G dX9_count_52 rfl ?_
    refine gf_X9_49 G dX9_count_53 (kk := ?_)
    refine gf_X9_81 G dX9_count_56 (kk := ?_)
    exact aw_iret G T dX9_count_59 (⟨by rw [x1]; unfold an_count; (repeat' split) <;> first | rfl | (exfalso; omega) | omega, hX, MS.rf _⟩)
  by_cases s1_3 : v = 3
  · refine aw_tswIn (off := 59) (tgt := 60) G dX9_count_1 (by first | omega | exact b01_R _ | exact bP_R _) (by omega) (by omega) (by rw [s1_3]; rfl) (by decide) ?_
    refine aw_aload_n G dX9_count_60 rfl ?_
    refine gf_X9_26 G dX9_count_61 (kk := ?_)
    refine gf_X9_267 G dX9_count_64 (kk := ?_)
    exact aw_iret G T dX9_count_67 (⟨by rw [xp.1]; unfold an_count; (repeat' split) <;> first | rfl | (exfalso; omega) | omega, hX, MS.rf _⟩)
  by_cases s1_4 : v = 4
  · refine aw_tswIn (off := 67) (tgt := 68) G dX9_count_1 (by first | omega | exact b01_R _ | exact bP_R _) (by omega) (by omega) (by rw [s1_4]; rfl) (by decide) ?_
    refine aw_aload_n G dX9_count_68 rfl ?_
    refine gf_X9_10 G dX9_count_69 (kk := ?_)
    refine gf_X9_121 G dX9_count_72 (kk := ?_)
    refine aw_aload_n G dX9_count_75 rfl ?_
    refine gf_X9_10 G dX9_count_76 (kk := ?_)
    refine gf_X9_109 G dX9_count_79 (kk := ?_)
    refine cs_X9_159 G dX9_count_82 (c_X5_together (k := 6) (N := 8) (by decide) rfl (by decide) (by omega)) (kk := fun r82 t82 h82 => ?_)
    obtain ⟨rfl, ee82⟩ := h82
    obtain rfl := ee82.symm
    exact aw_iret G T dX9_count_85 (⟨by rw [show sumTo (σ 6) (σ 1 1).toNat = sumTo (α 80) (α 75 1).toNat by rw [e1]; exact sumTo_c (fun i a b => (er i a (by omega)).2.2.2.2)]; unfold an_count; (repeat' split) <;> first | rfl | (exfalso; omega) | omega, hX, MS.rf _⟩)
  refine aw_tswOut (tgt := 86) G dX9_count_1 (by first | omega | exact b01_R _ | exact bP_R _) (by omega) (by decide) ?_
  refine aw_iload_n G dX9_count_86 rfl ?_
  refine aw_bipush G dX9_count_87 (k := ?_)
  refine aw_icmp_lt (tgt := 110) G dX9_count_89 (by decide) (by first | omega | exact b01_R _ | exact bP_R _) (by first | omega | exact b01_R _ | exact bP_R _) (fun c89 => ?_) (fun c89 => ?_)
  · refine aw_bipush G dX9_count_110 (k := ?_)
    exact aw_iret G T dX9_count_112 (⟨by first | (rw [xr _ (by omega) (by omega)]; unfold an_count; (repeat' split) <;> first | rfl | (exfalso; omega) | omega) | (unfold an_count; (repeat' split) <;> first | rfl | (exfalso; omega) | omega), hX, MS.rf _⟩)
  · refine aw_iload_n G dX9_count_92 rfl ?_
    refine aw_bipush G dX9_count_93 (k := ?_)
    refine aw_icmp_gt (tgt := 110) G dX9_count_95 (by decide) (by first | omega | exact b01_R _ | exact bP_R _) (by first | omega | exact b01_R _ | exact bP_R _) (fun c95 => ?_) (fun c95 => ?_)
    · refine aw_bipush G dX9_count_110 (k := ?_)
      exact aw_iret G T dX9_count_112 (⟨by first | (rw [xr _ (by omega) (by omega)]; unfold an_count; (repeat' split) <;> first | rfl | (exfalso; omega) | omega) | (unfold an_count; (repeat' split) <;> first | rfl | (exfalso; omega) | omega), hX, MS.rf _⟩)
    · refine aw_aload_n G dX9_count_98 rfl ?_
      refine gf_X9_67 G dX9_count_99 (kk := ?_)
      refine aw_iload_n G dX9_count_102 rfl ?_
      refine aw_bipush G dX9_count_103 (k := ?_)
      refine aw_isub G dX9_count_105 ?_
      refine aw_iaload G dX9_count_106 (by first | decide | assumption | omega) (by first | rfl | assumption) (by first | decide | assumption) (by omega) ?_
      refine aw_goto (tgt := 112) G dX9_count_107 (by decide) ?_
      exact aw_iret G T dX9_count_112 (⟨by first | (rw [xr _ (by omega) (by omega)]; unfold an_count; (repeat' split) <;> first | rfl | (exfalso; omega) | omega) | (unfold an_count; (repeat' split) <;> first | rfl | (exfalso; omega) | omega), hX, MS.rf _⟩)
