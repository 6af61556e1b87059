theorem oa_c {σ τ : St} (h : NO σ τ) : oaN τ = oaN σ ∧ ∀ i, oaI τ i = oaI σ i := by
  unfold oaN oaI
  rw [h.w, h.2 0 (by decide), h.2 1 (by decide)]
  exact ⟨rfl, fun _ => rfl⟩
set_option maxHeartbeats 4000000 in
theorem c_X10_orders {V : Wd} {σ : St} {i l : Int} (h1 : inR i) (h2 : inR l) (hk : OK σ) : Ct V yX10_orders cX10_orders 4 (some .int) 4 91 [rv V 75, iv i, iv l] σ (PI (fun r τ => r = an_orders σ i l ∧ ME τ (nx_orders σ i l))) := by
  refine ct_of (by decide) (Nat.le_of_ble_eq_true rfl) (fun X G T => ?_)
  have G : Gd X V cX10_orders RX10 4 4 91 := G
  show AW X V σ 0 [] [some (rv V 75), some (iv i), some (iv l), none]
  obtain ⟨⟨n1, n2, n3, n4, n5, n6⟩, u1, l1, l2, i1, s1, w1⟩ := id hk
  refine aw_iload_n G dX10_orders_0 rfl ?_
  refine aw_iconst G dX10_orders_1 ?_
  refine aw_icmp_ge (tgt := 12) G dX10_orders_2 (by decide) (by first | omega | exact b01_R _ | exact bP_R _) (by first | omega | exact b01_R _ | exact bP_R _) (fun c2 => ?_) (fun c2 => ?_)
  · refine aw_iload_n G dX10_orders_12 rfl ?_
    refine aw_if_lt (tgt := 30) G dX10_orders_13 (by decide) (by first | omega | exact b01_R _ | exact bP_R _) (fun c13 => ?_) (fun c13 => ?_)
    · refine aw_iload_n G dX10_orders_30 rfl ?_
      refine aw_if_ge (tgt := 40) G dX10_orders_31 (by decide) (by first | omega | exact b01_R _ | exact bP_R _) (fun c31 => ?_) (fun c31 => ?_)
      · refine aw_aload_n G dX10_orders_40 rfl ?_
        refine aw_iconst G dX10_orders_41 ?_
        refine cv_X10_216 G dX10_orders_42 (c_X10_ordersTo hk.1 (by omega)) (kk := fun r42 t42 h42 => ?_)
        obtain ⟨ho42, hc42, hr42⟩ := h42
        have hN0 : r42 = oaN σ := by
          rcases hc42 with ⟨q1, q2⟩ | ⟨q1, q2⟩
          · exact q1
          · omega
        refine aw_iload_n G dX10_orders_45 rfl ?_
        refine aw_icmp_gt (tgt := 52) G dX10_orders_46 (by decide) (by first | omega | exact b01_R _ | exact bP_R _) (by first | omega | exact b01_R _ | exact bP_R _) (fun c46 => ?_) (fun c46 => ?_)
        · refine aw_aload_n G dX10_orders_52 rfl ?_
          refine aw_iload_n G dX10_orders_53 rfl ?_
          refine cv_X10_216 G dX10_orders_54 (c_X10_ordersTo (ho42.ok hk.1) (by omega)) (kk := fun r54 t54 h54 => ?_)
          obtain ⟨ho54, hc54, hr54⟩ := h54
          obtain ⟨wc1, wc2⟩ := oa_c ho42
          rw [wc1, wc2 i, ho42.2 1 (by decide)] at hc54
          refine aw_istore_3 G dX10_orders_57 (hc := by first | rfl | assumption) (k := ?_)
          refine aw_aload_n G dX10_orders_58 rfl ?_
          refine gf_X10_50 G dX10_orders_59 (kk := ?_)
          refine aw_iload_n G dX10_orders_62 rfl ?_
          refine aw_iaload G dX10_orders_63 (by first | decide | assumption | omega) (by first | rfl | assumption) (by first | decide | assumption) (by omega) ?_
          exact aw_iret G T dX10_orders_64 (by
    refine ⟨?_, by unfold nx_orders; (repeat' split) <;> first | exact (ho42.tr ho54).me | (exfalso; omega)⟩
    rcases hc54 with ⟨q1, q2⟩ | ⟨q1, q2, f, q3, q4⟩
    · omega
    · unfold an_orders
      rw [if_neg (by omega), if_neg (by omega), if_neg (by omega), q3]
      exact q4 l (by omega) (by omega))
        · refine aw_bipush G dX10_orders_49 (k := ?_)
          exact aw_iret G T dX10_orders_51 (by
    refine ⟨?_, by unfold nx_orders; (repeat' split) <;> first | exact ho42.me | (exfalso; omega)⟩
    unfold an_orders
    rw [if_neg (by omega), if_neg (by omega), if_neg (by omega), (oaI_n (by omega)).mpr (by omega)])
      · refine aw_aload_n G dX10_orders_34 rfl ?_
        refine aw_iconst G dX10_orders_35 ?_
        refine cv_X10_216 G dX10_orders_36 (c_X10_ordersTo hk.1 (by omega)) (kk := fun r36 t36 h36 => ?_)
        obtain ⟨ho36, hc36, hr36⟩ := h36
        exact aw_iret G T dX10_orders_39 (by
    refine ⟨?_, by unfold nx_orders; (repeat' split) <;> first | exact ho36.me | (exfalso; omega)⟩
    unfold an_orders
    rw [if_neg (by omega), if_neg (by omega), if_pos (by omega)]
    rcases hc36 with ⟨q1, q2⟩ | ⟨q1, q2⟩
    · exact q1
    · omega)
    · refine aw_aload_n G dX10_orders_16 rfl ?_
      refine aw_iload_n G dX10_orders_17 rfl ?_
      refine cv_X10_108 G dX10_orders_18 (c_X10_isLine (by first | assumption | omega) (by omega)) (kk := fun r18 t18 h18 => ?_)
      obtain ⟨rfl, ee18⟩ := h18
      obtain rfl := ee18.symm
      refine aw_if_ne (tgt := 30) G dX10_orders_21 (by decide) (by first | omega | exact b01_R _ | exact bP_R _) (fun c21 => ?_) (fun c21 => ?_)
      · try simp only [b01_0, b01_n, bP_0, bP_n, Classical.not_not] at c21
        refine aw_iload_n G dX10_orders_30 rfl ?_
        refine aw_if_ge (tgt := 40) G dX10_orders_31 (by decide) (by first | omega | exact b01_R _ | exact bP_R _) (fun c31 => ?_) (fun c31 => ?_)
        · refine aw_aload_n G dX10_orders_40 rfl ?_
          refine aw_iconst G dX10_orders_41 ?_
          refine cv_X10_216 G dX10_orders_42 (c_X10_ordersTo hk.1 (by omega)) (kk := fun r42 t42 h42 => ?_)
          obtain ⟨ho42, hc42, hr42⟩ := h42
          have hN0 : r42 = oaN σ := by
            rcases hc42 with ⟨q1, q2⟩ | ⟨q1, q2⟩
            · exact q1
            · omega
          refine aw_iload_n G dX10_orders_45 rfl ?_
          refine aw_icmp_gt (tgt := 52) G dX10_orders_46 (by decide) (by first | omega | exact b01_R _ | exact bP_R _) (by first | omega | exact b01_R _ | exact bP_R _) (fun c46 => ?_) (fun c46 => ?_)
          · refine aw_aload_n G dX10_orders_52 rfl ?_
            refine aw_iload_n G dX10_orders_53 rfl ?_
            refine cv_X10_216 G dX10_orders_54 (c_X10_ordersTo (ho42.ok hk.1) (by omega)) (kk := fun r54 t54 h54 => ?_)
            obtain ⟨ho54, hc54, hr54⟩ := h54
            obtain ⟨wc1, wc2⟩ := oa_c ho42
            rw [wc1, wc2 i, ho42.2 1 (by decide)] at hc54
            refine aw_istore_3 G dX10_orders_57 (hc := by first | rfl | assumption) (k := ?_)
            refine aw_aload_n G dX10_orders_58 rfl ?_
            refine gf_X10_50 G dX10_orders_59 (kk := ?_)
            refine aw_iload_n G dX10_orders_62 rfl ?_
            refine aw_iaload G dX10_orders_63 (by first | decide | assumption | omega) (by first | rfl | assumption) (by first | decide | assumption) (by omega) ?_
            exact aw_iret G T dX10_orders_64 (by
    refine ⟨?_, by unfold nx_orders; (repeat' split) <;> first | exact (ho42.tr ho54).me | (exfalso; omega)⟩
    rcases hc54 with ⟨q1, q2⟩ | ⟨q1, q2, f, q3, q4⟩
    · omega
    · unfold an_orders
      rw [if_neg (by omega), if_neg (by omega), if_neg (by omega), q3]
      exact q4 l (by omega) (by omega))
          · refine aw_bipush G dX10_orders_49 (k := ?_)
            exact aw_iret G T dX10_orders_51 (by
    refine ⟨?_, by unfold nx_orders; (repeat' split) <;> first | exact ho42.me | (exfalso; omega)⟩
    unfold an_orders
    rw [if_neg (by omega), if_neg (by omega), if_neg (by omega), (oaI_n (by omega)).mpr (by omega)])
        · refine aw_aload_n G dX10_orders_34 rfl ?_
          refine aw_iconst G dX10_orders_35 ?_
          refine cv_X10_216 G dX10_orders_36 (c_X10_ordersTo hk.1 (by omega)) (kk := fun r36 t36 h36 => ?_)
          obtain ⟨ho36, hc36, hr36⟩ := h36
          exact aw_iret G T dX10_orders_39 (by
    refine ⟨?_, by unfold nx_orders; (repeat' split) <;> first | exact ho36.me | (exfalso; omega)⟩
    unfold an_orders
    rw [if_neg (by omega), if_neg (by omega), if_pos (by omega)]
    rcases hc36 with ⟨q1, q2⟩ | ⟨q1, q2⟩
    · exact q1
    · omega)
      · try simp only [b01_0, b01_n, bP_0, bP_n, Classical.not_not] at c21
        refine aw_aload_n G dX10_orders_24 rfl ?_
        refine aw_iconst G dX10_orders_25 ?_
        refine cv_X10_87 G dX10_orders_26 (c_X10_refused (by decide)) (kk := fun r26 t26 h26 => ?_)
        obtain ⟨rfl, ee26⟩ := h26
        obtain rfl := ee26.symm
        exact aw_iret G T dX10_orders_29 (⟨by unfold an_orders; (repeat' split) <;> first | rfl | (exfalso; omega) | omega, by unfold nx_orders; (repeat' split) <;> first | exact ME.rf _ | (exfalso; omega)⟩)
  · refine aw_aload_n G dX10_orders_5 rfl ?_
    refine aw_bipush G dX10_orders_6 (k := ?_)
    refine cv_X10_87 G dX10_orders_8 (c_X10_refused (by decide)) (kk := fun r8 t8 h8 => ?_)
    obtain ⟨rfl, ee8⟩ := h8
    obtain rfl := ee8.symm
    exact aw_iret G T dX10_orders_11 (⟨by unfold an_orders; (repeat' split) <;> first | rfl | (exfalso; omega) | omega, by unfold nx_orders; (repeat' split) <;> first | exact ME.rf _ | (exfalso; omega)⟩)

set_option maxHeartbeats 4000000 in
theorem c_X10_spread {V : Wd} {σ : St}  (hk : OK σ) : Ct V yX10_spread cX10_spread 2 (some .int) 4 91 [rv V 75] σ (PI (fun r τ => r = an_spread σ ∧ ME τ σ)) := by
  refine ct_of (by decide) (Nat.le_of_ble_eq_true rfl) (fun X G T => ?_)
  have G : Gd X V cX10_spread RX10 2 4 91 := G
  show AW X V σ 0 [] [some (rv V 75), none]
  refine aw_aload_n G dX10_spread_0 rfl ?_
  refine aw_iconst G dX10_spread_1 ?_
  refine cv_X10_216 G dX10_spread_2 (c_X10_ordersTo hk.1 (by omega)) (kk := fun r2 t2 h2 => ?_)
  obtain ⟨ho2, hc2, hr2⟩ := h2
  refine aw_istore_1 G dX10_spread_5 (hc := by first | rfl | assumption) (k := ?_)
  refine aw_aload_n G dX10_spread_6 rfl ?_
  refine gf_X10_202 G dX10_spread_7 (kk := ?_)
  exact aw_iret G T dX10_spread_10 (by
    rcases hc2 with ⟨q1, q2, q3⟩ | ⟨q1, q2⟩
    · exact ⟨q3, ho2.me⟩
    · omega)

