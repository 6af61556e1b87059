set_option maxHeartbeats 4000000 in
theorem c_X10_in {V : Wd} {σ : St} {a b c : Int} (ha : inR a) (hb : inR b) (hc : inR c) : Ct V yX10_in cX10_in 3 (some .boolean) 0 0 [iv a, iv b, iv c] σ (PI (fun r τ => r = b01 (b ≤ a ∧ a ≤ c) ∧ τ = σ)) := by
  refine ct_of (by decide) (Nat.le_of_ble_eq_true rfl) (fun X G T => ?_)
  have G : Gd X V cX10_in RX10 3 0 0 := G
  show AW X V σ 0 [] [some (iv a), some (iv b), some (iv c)]
  refine aw_iload_n G dX10_in_0 rfl ?_
  refine aw_iload_n G dX10_in_1 rfl ?_
  refine aw_icmp_lt (tgt := 14) G dX10_in_2 (by decide) (by first | omega | exact b01_R _ | exact bP_R _) (by first | omega | exact b01_R _ | exact bP_R _) (fun c2 => ?_) (fun c2 => ?_)
  · refine aw_iconst G dX10_in_14 ?_
    exact aw_zret G T dX10_in_15 (by first | exact Or.inl rfl | exact Or.inr rfl | assumption) (⟨by first | exact (b01_t (by omega)).symm | exact (b01_f (by omega)).symm, rfl⟩)
  · refine aw_iload_n G dX10_in_5 rfl ?_
    refine aw_iload_n G dX10_in_6 rfl ?_
    refine aw_icmp_gt (tgt := 14) G dX10_in_7 (by decide) (by first | omega | exact b01_R _ | exact bP_R _) (by first | omega | exact b01_R _ | exact bP_R _) (fun c7 => ?_) (fun c7 => ?_)
    · refine aw_iconst G dX10_in_14 ?_
      exact aw_zret G T dX10_in_15 (by first | exact Or.inl rfl | exact Or.inr rfl | assumption) (⟨by first | exact (b01_t (by omega)).symm | exact (b01_f (by omega)).symm, rfl⟩)
    · refine aw_iconst G dX10_in_10 ?_
      refine aw_goto (tgt := 15) G dX10_in_11 (by decide) ?_
      exact aw_zret G T dX10_in_15 (by first | exact Or.inl rfl | exact Or.inr rfl | assumption) (⟨by first | exact (b01_t (by omega)).symm | exact (b01_f (by omega)).symm, rfl⟩)

theorem b01_c {P Q : Prop} [Decidable P] [Decidable Q] (h : P ↔ Q) : b01 P = b01 Q := by
  unfold b01
  by_cases q : P
  · rw [if_pos q, if_pos (h.mp q)]
  · rw [if_neg q, if_neg (fun z => q (h.mpr z))]
theorem b01_i {P : Prop} [Decidable P] : b01 P = if P then 1 else 0 := rfl
set_option maxHeartbeats 4000000 in
theorem c_X10_isPoint {V : Wd} {σ : St} {p : Int} (hp : inR p) (hn : 0 ≤ σ 75 0 ∧ σ 75 0 ≤ 8) : Ct V yX10_isPoint cX10_isPoint 2 (some .boolean) 1 22 [rv V 75, iv p] σ (PI (fun r τ => r = b01 (0 ≤ p ∧ p < σ 75 0) ∧ τ = σ)) := by
  refine ct_of (by decide) (Nat.le_of_ble_eq_true rfl) (fun X G T => ?_)
  have G : Gd X V cX10_isPoint RX10 2 1 22 := G
  show AW X V σ 0 [] [some (rv V 75), some (iv p)]
  refine aw_iload_n G dX10_isPoint_0 rfl ?_
  refine aw_iconst G dX10_isPoint_1 ?_
  refine aw_aload_n G dX10_isPoint_2 rfl ?_
  refine gf_X10_7 G dX10_isPoint_3 (kk := ?_)
  refine aw_iconst G dX10_isPoint_6 ?_
  refine aw_isub G dX10_isPoint_7 ?_
  refine cs_X10_78 G dX10_isPoint_8 (c_X10_in (by first | assumption | omega) (by first | assumption | omega) (by first | assumption | omega)) (kk := fun r8 t8 h8 => ?_)
  obtain ⟨rfl, rfl⟩ := h8
  exact aw_zret G T dX10_isPoint_11 (b01_01 _) (⟨b01_c (by omega), rfl⟩)

set_option maxHeartbeats 4000000 in
theorem c_X10_isLine {V : Wd} {σ : St} {p : Int} (hp : inR p) (hn : 0 ≤ σ 75 1 ∧ σ 75 1 ≤ 8) : Ct V yX10_isLine cX10_isLine 2 (some .boolean) 1 22 [rv V 75, iv p] σ (PI (fun r τ => r = b01 (0 ≤ p ∧ p < σ 75 1) ∧ τ = σ)) := by
  refine ct_of (by decide) (Nat.le_of_ble_eq_true rfl) (fun X G T => ?_)
  have G : Gd X V cX10_isLine RX10 2 1 22 := G
  show AW X V σ 0 [] [some (rv V 75), some (iv p)]
  refine aw_iload_n G dX10_isLine_0 rfl ?_
  refine aw_iconst G dX10_isLine_1 ?_
  refine aw_aload_n G dX10_isLine_2 rfl ?_
  refine gf_X10_82 G dX10_isLine_3 (kk := ?_)
  refine aw_iconst G dX10_isLine_6 ?_
  refine aw_isub G dX10_isLine_7 ?_
  refine cs_X10_78 G dX10_isLine_8 (c_X10_in (by first | assumption | omega) (by first | assumption | omega) (by first | assumption | omega)) (kk := fun r8 t8 h8 => ?_)
  obtain ⟨rfl, rfl⟩ := h8
  exact aw_zret G T dX10_isLine_11 (b01_01 _) (⟨b01_c (by omega), rfl⟩)

set_option maxHeartbeats 4000000 in
theorem c_X10_refused {V : Wd} {σ : St} {r : Int} (hr : -6 ≤ r ∧ r ≤ -1) : Ct V yX10_refused cX10_refused 2 (some .int) 0 0 [rv V 75, iv r] σ (PI (fun q τ => q = r ∧ τ = rf σ r)) := by
  refine ct_of (by decide) (Nat.le_of_ble_eq_true rfl) (fun X G T => ?_)
  have G : Gd X V cX10_refused RX10 2 0 0 := G
  show AW X V σ 0 [] [some (rv V 75), some (iv r)]
  refine aw_aload_n G dX10_refused_0 rfl ?_
  refine gf_X10_47 G dX10_refused_1 (kk := ?_)
  refine aw_iload_n G dX10_refused_4 rfl ?_
  refine aw_ineg G dX10_refused_5 ?_
  refine aw_dup2 G dX10_refused_6 (k := ?_)
  refine aw_iaload G dX10_refused_7 (by first | decide | assumption | omega) (by first | rfl | assumption) (by first | decide | assumption) (by omega) ?_
  refine aw_iconst G dX10_refused_8 ?_
  refine aw_iadd G dX10_refused_9 ?_
  refine aw_iastore G dX10_refused_10 (by first | decide | assumption | omega) (by first | rfl | assumption) (by first | decide | assumption) (by omega) ?_
  refine aw_iload_n G dX10_refused_11 rfl ?_
  exact aw_iret G T dX10_refused_12 (⟨rfl, rfl⟩)

set_option maxHeartbeats 4000000 in
theorem c_X10_farther {V : Wd} {σ : St} {r : Int} (hr : -6 ≤ r ∧ r ≤ -1) : Ct V yX10_farther cX10_farther 2 (some .long) 1 21 [rv V 75, iv r] σ (PJ (fun q τ => q = 4000000000000000000 - r ∧ τ = rf σ r)) := by
  refine ct_of (by decide) (Nat.le_of_ble_eq_true rfl) (fun X G T => ?_)
  have G : Gd X V cX10_farther RX10 2 1 21 := G
  show AW X V σ 0 [] [some (rv V 75), some (iv r)]
  refine lc_X10_85 G dX10_farther_0 ?_
  refine aw_aload_n G dX10_farther_3 rfl ?_
  refine aw_iload_n G dX10_farther_4 rfl ?_
  refine cv_X10_87 G dX10_farther_5 (c_X10_refused hr) (kk := fun r5 t5 h5 => ?_)
  obtain ⟨rfl, rfl⟩ := h5
  refine aw_i2l G dX10_farther_8 (by first | omega | exact b01_R _ | exact bP_R _) ?_
  refine aw_lsub G dX10_farther_9 ?_
  exact aw_lret G T dX10_farther_10 (⟨rfl, rfl⟩)

set_option maxHeartbeats 4000000 in
theorem c_X10_isList {V : Wd} {σ : St} {l : Int} (hl : inR l) : Ct V yX10_isList cX10_isList 1 (some .boolean) 1 22 [iv l] σ (PI (fun r τ => r = b01 (0 ≤ l ∧ l ≤ 2) ∧ τ = σ)) := by
  refine ct_of (by decide) (Nat.le_of_ble_eq_true rfl) (fun X G T => ?_)
  have G : Gd X V cX10_isList RX10 1 1 22 := G
  show AW X V σ 0 [] [some (iv l)]
  refine aw_iload_n G dX10_isList_0 rfl ?_
  refine aw_iconst G dX10_isList_1 ?_
  refine aw_iconst G dX10_isList_2 ?_
  refine cs_X10_78 G dX10_isList_3 (c_X10_in (by first | assumption | omega) (by first | assumption | omega) (by first | assumption | omega)) (kk := fun r3 t3 h3 => ?_)
  obtain ⟨rfl, rfl⟩ := h3
  exact aw_zret G T dX10_isList_6 (b01_01 _) (⟨rfl, rfl⟩)

set_option maxHeartbeats 4000000 in
theorem c_X10_letter {V : Wd} {σ : St} {c : Int} (hc : inR c) (hk : OK σ) : Ct V yX10_letter cX10_letter 2 (some .int) 1 21 [rv V 75, iv c] σ (PI (fun r τ => r = an_letter σ c ∧ τ = nx_letter σ c)) := by
  refine ct_of (by decide) (Nat.le_of_ble_eq_true rfl) (fun X G T => ?_)
  have G : Gd X V cX10_letter RX10 2 1 21 := G
  show AW X V σ 0 [] [some (rv V 75), some (iv c)]
  obtain ⟨-, -, h1, -⟩ := hk
  refine aw_iload_n G dX10_letter_0 rfl ?_
  refine aw_if_ge (tgt := 11) G dX10_letter_1 (by decide) (by first | omega | exact b01_R _ | exact bP_R _) (fun c1 => ?_) (fun c1 => ?_)
  · refine aw_iload_n G dX10_letter_11 rfl ?_
    refine aw_sipush G dX10_letter_12 (k := ?_)
    refine aw_icmp_gt (tgt := 27) G dX10_letter_15 (by decide) (by first | omega | exact b01_R _ | exact bP_R _) (by first | omega | exact b01_R _ | exact bP_R _) (fun c15 => ?_) (fun c15 => ?_)
    · refine aw_aload_n G dX10_letter_27 rfl ?_
      refine aw_bipush G dX10_letter_28 (k := ?_)
      refine cv_X10_87 G dX10_letter_30 (c_X10_refused (by decide)) (kk := fun r30 t30 h30 => ?_)
      obtain ⟨rfl, rfl⟩ := h30
      exact aw_iret G T dX10_letter_33 (⟨by unfold an_letter; (repeat' split) <;> first | rfl | (exfalso; omega) | omega, by unfold nx_letter; (repeat' split) <;> first | rfl | (exfalso; omega) | omega⟩)
    · refine aw_aload_n G dX10_letter_18 rfl ?_
      refine gf_X10_91 G dX10_letter_19 (kk := ?_)
      refine aw_bipush G dX10_letter_22 (k := ?_)
      refine aw_icmp_ne (tgt := 34) G dX10_letter_24 (by decide) (by first | omega | exact b01_R _ | exact bP_R _) (by first | omega | exact b01_R _ | exact bP_R _) (fun c24 => ?_) (fun c24 => ?_)
      · refine aw_aload_n G dX10_letter_34 rfl ?_
        refine gf_X10_38 G dX10_letter_35 (kk := ?_)
        refine aw_aload_n G dX10_letter_38 rfl ?_
        refine gf_X10_91 G dX10_letter_39 (kk := ?_)
        refine aw_iload_n G dX10_letter_42 rfl ?_
        refine aw_iastore G dX10_letter_43 (by first | decide | assumption | omega) (by first | rfl | assumption) (by first | decide | assumption) (by omega) ?_
        refine aw_aload_n G dX10_letter_44 rfl ?_
        refine aw_dup G dX10_letter_45 (k := ?_)
        refine gf_X10_91 G dX10_letter_46 (kk := ?_)
        refine aw_iconst G dX10_letter_49 ?_
        refine aw_iadd G dX10_letter_50 ?_
        refine pf_X10_91 G dX10_letter_51 (kk := ?_)
        refine aw_aload_n G dX10_letter_54 rfl ?_
        refine gf_X10_91 G dX10_letter_55 (kk := ?_)
        exact aw_iret G T dX10_letter_58 (⟨by rw [up_at]; unfold an_letter; (repeat' split) <;> first | rfl | (exfalso; omega) | omega, by unfold nx_letter; (repeat' split) <;> first | rfl | (exfalso; omega) | omega⟩)
      · refine aw_aload_n G dX10_letter_27 rfl ?_
        refine aw_bipush G dX10_letter_28 (k := ?_)
        refine cv_X10_87 G dX10_letter_30 (c_X10_refused (by decide)) (kk := fun r30 t30 h30 => ?_)
        obtain ⟨rfl, rfl⟩ := h30
        exact aw_iret G T dX10_letter_33 (⟨by unfold an_letter; (repeat' split) <;> first | rfl | (exfalso; omega) | omega, by unfold nx_letter; (repeat' split) <;> first | rfl | (exfalso; omega) | omega⟩)
  · refine aw_aload_n G dX10_letter_4 rfl ?_
    refine aw_bipush G dX10_letter_5 (k := ?_)
    refine cv_X10_87 G dX10_letter_7 (c_X10_refused (by decide)) (kk := fun r7 t7 h7 => ?_)
    obtain ⟨rfl, rfl⟩ := h7
    exact aw_iret G T dX10_letter_10 (⟨by unfold an_letter; (repeat' split) <;> first | rfl | (exfalso; omega) | omega, by unfold nx_letter; (repeat' split) <;> first | rfl | (exfalso; omega) | omega⟩)

set_option maxHeartbeats 4000000 in
theorem c_X10_comes {V : Wd} {σ : St} {k p q : Int} (hn : 0 ≤ σ 75 1 ∧ σ 75 1 < 8) : Ct V yX10_comes cX10_comes 4 none 0 0 [rv V 75, iv k, iv p, iv q] σ (PV (fun τ => τ = addLine σ 75 k p q)) := by
  refine ct_of (by decide) (Nat.le_of_ble_eq_true rfl) (fun X G T => ?_)
  have G : Gd X V cX10_comes RX10 4 0 0 := G
  show AW X V σ 0 [] [some (rv V 75), some (iv k), some (iv p), some (iv q)]
  refine aw_aload_n G dX10_comes_0 rfl ?_
  refine gf_X10_13 G dX10_comes_1 (kk := ?_)
  refine aw_aload_n G dX10_comes_4 rfl ?_
  refine gf_X10_82 G dX10_comes_5 (kk := ?_)
  refine aw_iload_n G dX10_comes_8 rfl ?_
  refine aw_iastore G dX10_comes_9 (by first | decide | assumption | omega) (by first | rfl | assumption) (by first | decide | assumption) (by (repeat rw [up_o (by omega)]); omega) ?_
  refine aw_aload_n G dX10_comes_10 rfl ?_
  refine gf_X10_17 G dX10_comes_11 (kk := ?_)
  refine aw_aload_n G dX10_comes_14 rfl ?_
  refine gf_X10_82 G dX10_comes_15 (kk := ?_)
  refine aw_iconst G dX10_comes_18 ?_
  refine aw_iastore G dX10_comes_19 (by first | decide | assumption | omega) (by first | rfl | assumption) (by first | decide | assumption) (by (repeat rw [up_o (by omega)]); omega) ?_
  refine aw_aload_n G dX10_comes_20 rfl ?_
  refine gf_X10_20 G dX10_comes_21 (kk := ?_)
  refine aw_aload_n G dX10_comes_24 rfl ?_
  refine gf_X10_82 G dX10_comes_25 (kk := ?_)
  refine aw_iload_n G dX10_comes_28 rfl ?_
  refine aw_iastore G dX10_comes_29 (by first | decide | assumption | omega) (by first | rfl | assumption) (by first | decide | assumption) (by (repeat rw [up_o (by omega)]); omega) ?_
  refine aw_aload_n G dX10_comes_30 rfl ?_
  refine gf_X10_23 G dX10_comes_31 (kk := ?_)
  refine aw_aload_n G dX10_comes_34 rfl ?_
  refine gf_X10_82 G dX10_comes_35 (kk := ?_)
  refine aw_iload_n G dX10_comes_38 rfl ?_
  refine aw_iastore G dX10_comes_39 (by first | decide | assumption | omega) (by first | rfl | assumption) (by first | decide | assumption) (by (repeat rw [up_o (by omega)]); omega) ?_
  refine aw_aload_n G dX10_comes_40 rfl ?_
  refine gf_X10_26 G dX10_comes_41 (kk := ?_)
  refine aw_aload_n G dX10_comes_44 rfl ?_
  refine gf_X10_82 G dX10_comes_45 (kk := ?_)
  refine aw_iconst G dX10_comes_48 ?_
  refine aw_iastore G dX10_comes_49 (by first | decide | assumption | omega) (by first | rfl | assumption) (by first | decide | assumption) (by (repeat rw [up_o (by omega)]); omega) ?_
  refine aw_aload_n G dX10_comes_50 rfl ?_
  refine aw_dup G dX10_comes_51 (k := ?_)
  refine gf_X10_82 G dX10_comes_52 (kk := ?_)
  refine aw_iconst G dX10_comes_55 ?_
  refine aw_iadd G dX10_comes_56 ?_
  refine pf_X10_82 G dX10_comes_57 (kk := ?_)
  exact aw_vret G T dX10_comes_60 (by unfold addLine; congr 1 <;> simp [up])

set_option maxHeartbeats 4000000 in
theorem c_X10_points {V : Wd} {σ : St} {n : Int} (hc : inR n) : Ct V yX10_points cX10_points 3 (some .int) 1 21 [rv V 75, iv n] σ (PI (fun r τ => r = an_points σ n ∧ τ = nx_points σ n)) := by
  refine ct_of (by decide) (Nat.le_of_ble_eq_true rfl) (fun X G T => ?_)
  have G : Gd X V cX10_points RX10 3 1 21 := G
  show AW X V σ 0 [] [some (rv V 75), some (iv n), none]
  refine aw_iload_n G dX10_points_0 rfl ?_
  refine aw_iconst G dX10_points_1 ?_
  refine aw_icmp_ge (tgt := 12) G dX10_points_2 (by decide) (by first | omega | exact b01_R _ | exact bP_R _) (by first | omega | exact b01_R _ | exact bP_R _) (fun c2 => ?_) (fun c2 => ?_)
  · refine aw_iload_n G dX10_points_12 rfl ?_
    refine aw_bipush G dX10_points_13 (k := ?_)
    refine aw_icmp_le (tgt := 25) G dX10_points_15 (by decide) (by first | omega | exact b01_R _ | exact bP_R _) (by first | omega | exact b01_R _ | exact bP_R _) (fun c15 => ?_) (fun c15 => ?_)
    · refine aw_aload_n G dX10_points_25 rfl ?_
      refine gf_X10_7 G dX10_points_26 (kk := ?_)
      refine aw_istore_2 G dX10_points_29 (k := ?_)
      refine aw_aload_n G dX10_points_30 rfl ?_
      refine aw_iload_n G dX10_points_31 rfl ?_
      refine pf_X10_7 G dX10_points_32 (kk := ?_)
      refine aw_aload_n G dX10_points_35 rfl ?_
      refine aw_iconst G dX10_points_36 ?_
      refine pf_X10_82 G dX10_points_37 (kk := ?_)
      refine aw_aload_n G dX10_points_40 rfl ?_
      refine aw_iconst G dX10_points_41 ?_
      refine pf_X10_125 G dX10_points_42 (kk := ?_)
      refine aw_iload_n G dX10_points_45 rfl ?_
      exact aw_iret G T dX10_points_46 (⟨by unfold an_points; (repeat' split) <;> first | rfl | (exfalso; omega) | omega, by unfold nx_points; (repeat' split) <;> first | rfl | (exfalso; omega) | omega⟩)
    · refine aw_aload_n G dX10_points_18 rfl ?_
      refine aw_bipush G dX10_points_19 (k := ?_)
      refine cv_X10_87 G dX10_points_21 (c_X10_refused (by decide)) (kk := fun r21 t21 h21 => ?_)
      obtain ⟨rfl, rfl⟩ := h21
      exact aw_iret G T dX10_points_24 (⟨by unfold an_points; (repeat' split) <;> first | rfl | (exfalso; omega) | omega, by unfold nx_points; (repeat' split) <;> first | rfl | (exfalso; omega) | omega⟩)
  · refine aw_aload_n G dX10_points_5 rfl ?_
    refine aw_bipush G dX10_points_6 (k := ?_)
    refine cv_X10_87 G dX10_points_8 (c_X10_refused (by decide)) (kk := fun r8 t8 h8 => ?_)
    obtain ⟨rfl, rfl⟩ := h8
    exact aw_iret G T dX10_points_11 (⟨by unfold an_points; (repeat' split) <;> first | rfl | (exfalso; omega) | omega, by unfold nx_points; (repeat' split) <;> first | rfl | (exfalso; omega) | omega⟩)

set_option maxHeartbeats 4000000 in
theorem c_X10_line {V : Wd} {σ : St} {k p q : Int} (h1 : inR k) (h2 : inR p) (h3 : inR q) (hk : OK σ) : Ct V yX10_line cX10_line 4 (some .int) 2 43 [rv V 75, iv k, iv p, iv q] σ (PI (fun r τ => r = an_line σ k p q ∧ τ = nx_line σ k p q)) := by
  refine ct_of (by decide) (Nat.le_of_ble_eq_true rfl) (fun X G T => ?_)
  have G : Gd X V cX10_line RX10 4 2 43 := G
  show AW X V σ 0 [] [some (rv V 75), some (iv k), some (iv p), some (iv q)]
  obtain ⟨⟨n1, n2, n3, n4, -⟩, -⟩ := hk
  refine aw_iload_n G dX10_line_0 rfl ?_
  refine aw_iconst G dX10_line_1 ?_
  refine aw_iconst G dX10_line_2 ?_
  refine cs_X10_78 G dX10_line_3 (c_X10_in (by first | assumption | omega) (by first | assumption | omega) (by first | assumption | omega)) (kk := fun r3 t3 h3 => ?_)
  obtain ⟨rfl, rfl⟩ := h3
  refine aw_if_ne (tgt := 16) G dX10_line_6 (by decide) (by first | omega | exact b01_R _ | exact bP_R _) (fun c6 => ?_) (fun c6 => ?_)
  · try simp only [b01_0, b01_n, bP_0, bP_n] at c6
    refine aw_aload_n G dX10_line_16 rfl ?_
    refine aw_iload_n G dX10_line_17 rfl ?_
    refine cv_X10_100 G dX10_line_18 (c_X10_isPoint (by first | assumption | omega) (by omega)) (kk := fun r18 t18 h18 => ?_)
    obtain ⟨rfl, rfl⟩ := h18
    refine aw_if_eq (tgt := 32) G dX10_line_21 (by decide) (by first | omega | exact b01_R _ | exact bP_R _) (fun c21 => ?_) (fun c21 => ?_)
    · try simp only [b01_0, b01_n, bP_0, bP_n] at c21
      refine aw_aload_n G dX10_line_32 rfl ?_
      refine aw_iconst G dX10_line_33 ?_
      refine cv_X10_87 G dX10_line_34 (c_X10_refused (by decide)) (kk := fun r34 t34 h34 => ?_)
      obtain ⟨rfl, rfl⟩ := h34
      exact aw_iret G T dX10_line_37 (⟨by unfold an_line; (repeat' split) <;> first | rfl | (exfalso; omega) | omega, by unfold nx_line; (repeat' split) <;> first | rfl | (exfalso; omega) | omega⟩)
    · try simp only [b01_0, b01_n, bP_0, bP_n] at c21
      refine aw_aload_n G dX10_line_24 rfl ?_
      refine aw_iload_n G dX10_line_25 rfl ?_
      refine cv_X10_100 G dX10_line_26 (c_X10_isPoint (by first | assumption | omega) (by omega)) (kk := fun r26 t26 h26 => ?_)
      obtain ⟨rfl, rfl⟩ := h26
      refine aw_if_ne (tgt := 38) G dX10_line_29 (by decide) (by first | omega | exact b01_R _ | exact bP_R _) (fun c29 => ?_) (fun c29 => ?_)
      · try simp only [b01_0, b01_n, bP_0, bP_n] at c29
        refine aw_aload_n G dX10_line_38 rfl ?_
        refine gf_X10_82 G dX10_line_39 (kk := ?_)
        refine aw_bipush G dX10_line_42 (k := ?_)
        refine aw_icmp_ne (tgt := 54) G dX10_line_44 (by decide) (by first | omega | exact b01_R _ | exact bP_R _) (by first | omega | exact b01_R _ | exact bP_R _) (fun c44 => ?_) (fun c44 => ?_)
        · refine aw_aload_n G dX10_line_54 rfl ?_
          refine aw_iload_n G dX10_line_55 rfl ?_
          refine aw_iload_n G dX10_line_56 rfl ?_
          refine aw_iload_n G dX10_line_57 rfl ?_
          refine cv_X10_104 G dX10_line_58 (c_X10_comes (by omega)) (kk := fun t58 h58 => ?_)
          subst h58
          refine aw_aload_n G dX10_line_61 rfl ?_
          refine aw_iconst G dX10_line_62 ?_
          refine pf_X10_125 G dX10_line_63 (kk := ?_)
          refine aw_aload_n G dX10_line_66 rfl ?_
          refine gf_X10_82 G dX10_line_67 (kk := ?_)
          refine aw_iconst G dX10_line_70 ?_
          refine aw_isub G dX10_line_71 ?_
          exact aw_iret G T dX10_line_72 (⟨by rw [up_nj (show (1:Int) ≠ 7 by decide)]; unfold addLine; rw [up_at]; unfold an_line; (repeat' split) <;> first | rfl | (exfalso; omega) | omega, by unfold nx_line; (repeat' split) <;> first | rfl | (exfalso; omega) | omega⟩)
        · refine aw_aload_n G dX10_line_47 rfl ?_
          refine aw_bipush G dX10_line_48 (k := ?_)
          refine cv_X10_87 G dX10_line_50 (c_X10_refused (by decide)) (kk := fun r50 t50 h50 => ?_)
          obtain ⟨rfl, rfl⟩ := h50
          exact aw_iret G T dX10_line_53 (⟨by unfold an_line; (repeat' split) <;> first | rfl | (exfalso; omega) | omega, by unfold nx_line; (repeat' split) <;> first | rfl | (exfalso; omega) | omega⟩)
      · try simp only [b01_0, b01_n, bP_0, bP_n] at c29
        refine aw_aload_n G dX10_line_32 rfl ?_
        refine aw_iconst G dX10_line_33 ?_
        refine cv_X10_87 G dX10_line_34 (c_X10_refused (by decide)) (kk := fun r34 t34 h34 => ?_)
        obtain ⟨rfl, rfl⟩ := h34
        exact aw_iret G T dX10_line_37 (⟨by unfold an_line; (repeat' split) <;> first | rfl | (exfalso; omega) | omega, by unfold nx_line; (repeat' split) <;> first | rfl | (exfalso; omega) | omega⟩)
  · try simp only [b01_0, b01_n, bP_0, bP_n] at c6
    refine aw_aload_n G dX10_line_9 rfl ?_
    refine aw_bipush G dX10_line_10 (k := ?_)
    refine cv_X10_87 G dX10_line_12 (c_X10_refused (by decide)) (kk := fun r12 t12 h12 => ?_)
    obtain ⟨rfl, rfl⟩ := h12
    exact aw_iret G T dX10_line_15 (⟨by unfold an_line; (repeat' split) <;> first | rfl | (exfalso; omega) | omega, by unfold nx_line; (repeat' split) <;> first | rfl | (exfalso; omega) | omega⟩)

set_option maxHeartbeats 4000000 in
theorem c_X10_drop {V : Wd} {σ : St}  (hk : OK σ) : Ct V yX10_drop cX10_drop 1 (some .int) 1 21 [rv V 75] σ (PI (fun r τ => r = an_drop σ ∧ τ = nx_drop σ)) := by
  refine ct_of (by decide) (Nat.le_of_ble_eq_true rfl) (fun X G T => ?_)
  have G : Gd X V cX10_drop RX10 1 1 21 := G
  show AW X V σ 0 [] [some (rv V 75)]
  obtain ⟨⟨n1, n2, n3, n4, -⟩, -⟩ := hk
  refine aw_aload_n G dX10_drop_0 rfl ?_
  refine gf_X10_82 G dX10_drop_1 (kk := ?_)
  refine aw_if_ne (tgt := 14) G dX10_drop_4 (by decide) (by first | omega | exact b01_R _ | exact bP_R _) (fun c4 => ?_) (fun c4 => ?_)
  · try simp only [b01_0, b01_n, bP_0, bP_n] at c4
    refine aw_aload_n G dX10_drop_14 rfl ?_
    refine aw_dup G dX10_drop_15 (k := ?_)
    refine gf_X10_82 G dX10_drop_16 (kk := ?_)
    refine aw_iconst G dX10_drop_19 ?_
    refine aw_isub G dX10_drop_20 ?_
    refine pf_X10_82 G dX10_drop_21 (kk := ?_)
    refine aw_aload_n G dX10_drop_24 rfl ?_
    refine aw_iconst G dX10_drop_25 ?_
    refine pf_X10_125 G dX10_drop_26 (kk := ?_)
    refine aw_aload_n G dX10_drop_29 rfl ?_
    refine gf_X10_82 G dX10_drop_30 (kk := ?_)
    exact aw_iret G T dX10_drop_33 (⟨by rw [up_nj (show (1:Int) ≠ 7 by decide), up_at]; unfold an_drop; (repeat' split) <;> first | rfl | (exfalso; omega) | omega, by unfold nx_drop; (repeat' split) <;> first | rfl | (exfalso; omega) | omega⟩)
  · try simp only [b01_0, b01_n, bP_0, bP_n] at c4
    refine aw_aload_n G dX10_drop_7 rfl ?_
    refine aw_bipush G dX10_drop_8 (k := ?_)
    refine cv_X10_87 G dX10_drop_10 (c_X10_refused (by decide)) (kk := fun r10 t10 h10 => ?_)
    obtain ⟨rfl, rfl⟩ := h10
    exact aw_iret G T dX10_drop_13 (⟨by unfold an_drop; (repeat' split) <;> first | rfl | (exfalso; omega) | omega, by unfold nx_drop; (repeat' split) <;> first | rfl | (exfalso; omega) | omega⟩)

/-- the oldest of eight goes: rows up to i have moved -/
def shU (σ : St) (i : Int) : St := fun k j => if (k = 81 ∨ k = 82 ∨ k = 83) ∧ 0 ≤ j ∧ j < i - 8 then σ k (j + 8) else σ k j
def ldU (σ : St) (u i : Int) : St := fun k j => if k = 81 ∧ 8 * u ≤ j ∧ j < 8 * u + i then σ 76 (j - 8 * u) else if k = 82 ∧ 8 * u ≤ j ∧ j < 8 * u + i then σ 77 (j - 8 * u) else if k = 83 ∧ 8 * u ≤ j ∧ j < 8 * u + i then σ 80 (j - 8 * u) else σ k j
theorem shU_8 (σ : St) : shU σ 8 = σ := by
  funext k j
  unfold shU
  rw [if_neg (by omega)]
theorem ldU_0 (σ : St) (u : Int) : ldU σ u 0 = σ := by
  funext k j
  unfold ldU
  rw [if_neg (by omega), if_neg (by omega), if_neg (by omega)]
theorem shU_s {σ : St} {i : Int} (h : 8 ≤ i) : up (up (up (shU σ i) 81 (i - 8) (σ 81 i)) 82 (i - 8) (σ 82 i)) 83 (i - 8) (σ 83 i) = shU σ (i + 1) := by
  funext k j
  unfold up shU
  by_cases h1 : k = 81
  · subst h1
    simp only [show ¬ (81 = 83) by decide, show ¬ (81 = 82) by decide, false_and, if_false, true_and, true_or]
    by_cases h2 : j = i - 8
    · rw [if_pos h2, if_pos (by omega), show j + 8 = i by omega]
    · rw [if_neg h2]
      by_cases h3 : 0 ≤ j ∧ j < i - 8
      · rw [if_pos h3, if_pos (by omega)]
      · rw [if_neg h3, if_neg (by omega)]
  by_cases h4 : k = 82
  · subst h4
    simp only [show ¬ (82 = 83) by decide, show ¬ (82 = 81) by decide, false_and, if_false, true_and, true_or, false_or]
    by_cases h2 : j = i - 8
    · rw [if_pos h2, if_pos (by omega), show j + 8 = i by omega]
    · rw [if_neg h2]
      by_cases h3 : 0 ≤ j ∧ j < i - 8
      · rw [if_pos h3, if_pos (by omega)]
      · rw [if_neg h3, if_neg (by omega)]
  by_cases h5 : k = 83
  · subst h5
    simp only [show ¬ (83 = 82) by decide, show ¬ (83 = 81) by decide, false_and, if_false, true_and, false_or]
    by_cases h2 : j = i - 8
    · rw [if_pos h2, if_pos (by omega), show j + 8 = i by omega]
    · rw [if_neg h2]
      by_cases h3 : 0 ≤ j ∧ j < i - 8
      · rw [if_pos h3, if_pos (by omega)]
      · rw [if_neg h3, if_neg (by omega)]
  · simp [h1, h4, h5]
theorem ldU_s {σ : St} {u i : Int} (h : 0 ≤ i) : up (up (up (ldU σ u i) 81 (8 * u + i) (σ 76 i)) 82 (8 * u + i) (σ 77 i)) 83 (8 * u + i) (σ 80 i) = ldU σ u (i + 1) := by
  funext k j
  unfold up ldU
  by_cases h1 : k = 81
  · subst h1
    simp only [show ¬ (81 = 83) by decide, show ¬ (81 = 82) by decide, false_and, if_false, true_and]
    by_cases h2 : j = 8 * u + i
    · rw [if_pos h2, if_pos (by omega), show j - 8 * u = i by omega]
    · rw [if_neg h2]
      by_cases h3 : 8 * u ≤ j ∧ j < 8 * u + i
      · rw [if_pos h3, if_pos (by omega)]
      · rw [if_neg h3, if_neg (by omega)]
  by_cases h4 : k = 82
  · subst h4
    simp only [show ¬ (82 = 83) by decide, show ¬ (82 = 81) by decide, false_and, if_false, true_and]
    by_cases h2 : j = 8 * u + i
    · rw [if_pos h2, if_pos (by omega), show j - 8 * u = i by omega]
    · rw [if_neg h2]
      by_cases h3 : 8 * u ≤ j ∧ j < 8 * u + i
      · rw [if_pos h3, if_pos (by omega)]
      · rw [if_neg h3, if_neg (by omega)]
  by_cases h5 : k = 83
  · subst h5
    simp only [show ¬ (83 = 82) by decide, show ¬ (83 = 81) by decide, false_and, if_false, true_and]
    by_cases h2 : j = 8 * u + i
    · rw [if_pos h2, if_pos (by omega), show j - 8 * u = i by omega]
    · rw [if_neg h2]
      by_cases h3 : 8 * u ≤ j ∧ j < 8 * u + i
      · rw [if_pos h3, if_pos (by omega)]
      · rw [if_neg h3, if_neg (by omega)]
  · simp [h1, h4, h5]
theorem shU_r {σ : St} {i : Int} {k : Nat} (h : k ≠ 81 ∧ k ≠ 82 ∧ k ≠ 83) : shU σ i k = σ k := by
  funext j
  unfold shU
  rw [if_neg (by omega)]
theorem ldU_r {σ : St} {u i : Int} {k : Nat} (h : k ≠ 81 ∧ k ≠ 82 ∧ k ≠ 83) : ldU σ u i k = σ k := by
  funext j
  unfold ldU
  rw [if_neg (by omega), if_neg (by omega), if_neg (by omega)]
set_option maxHeartbeats 4000000 in
theorem c_X10_canBeUndone {V : Wd} {σ : St}  (hu : 0 ≤ σ 75 7 ∧ σ 75 7 ≤ 8) : Ct V yX10_canBeUndone cX10_canBeUndone 2 none 0 0 [rv V 75] σ (PV (fun τ => τ = canU σ)) := by
  refine ct_of (by decide) (Nat.le_of_ble_eq_true rfl) (fun X G T => ?_)
  have G : Gd X V cX10_canBeUndone RX10 2 0 0 := G
  show AW X V σ 0 [] [some (rv V 75), none]
  have second : ∀ (ρ : St) (u : Option Value), lcat u = 1 → 0 ≤ ρ 75 7 → ρ 75 7 ≤ 7 → up (ldU ρ (ρ 75 7) 8) 75 7 (ρ 75 7 + 1) = canU σ → AW X V ρ 79 [] [some (rv V 75), u] := by
    intro ρ u hu2 u0 u7 he
    have loop : ∀ (n0 : Nat) (i : Int), (0 ≤ i ∧ i ≤ 8) → (8 < i + (n0 : Int)) → AW X V (ldU ρ (ρ 75 7) i) 81 [] [some (rv V 75), some (iv i)] := by
      intro n0
      induction n0 with
      | zero =>
        intro i h0 h1
        exfalso
        omega
      | succ n0 ih =>
        intro i h0 h1
        refine aw_iload_n G dX10_canBeUndone_81 rfl ?_
        refine aw_bipush G dX10_canBeUndone_82 (k := ?_)
        refine aw_icmp_ge (tgt := 153) G dX10_canBeUndone_84 (by decide) (by first | omega | exact b01_R _ | exact bP_R _) (by first | omega | exact b01_R _ | exact bP_R _) (fun c84 => ?_) (fun c84 => ?_)
        · refine aw_aload_n G dX10_canBeUndone_153 rfl ?_
          refine aw_dup G dX10_canBeUndone_154 (k := ?_)
          refine gf_X10_125 G dX10_canBeUndone_155 (kk := ?_)
          refine aw_iconst G dX10_canBeUndone_158 ?_
          refine aw_iadd G dX10_canBeUndone_159 ?_
          refine pf_X10_125 G dX10_canBeUndone_160 (kk := ?_)
          exact aw_vret G T dX10_canBeUndone_163 (by rw [← he, show i = 8 by omega, ldU_r (show (75:Nat) ≠ 81 ∧ (75:Nat) ≠ 82 ∧ (75:Nat) ≠ 83 by decide)])
        · refine aw_aload_n G dX10_canBeUndone_87 rfl ?_
          refine gf_X10_29 G dX10_canBeUndone_88 (kk := ?_)
          refine aw_bipush G dX10_canBeUndone_91 (k := ?_)
          refine aw_aload_n G dX10_canBeUndone_93 rfl ?_
          refine gf_X10_125 G dX10_canBeUndone_94 (kk := ?_)
          rw [ldU_r (show (75:Nat) ≠ 81 ∧ (75:Nat) ≠ 82 ∧ (75:Nat) ≠ 83 by decide)]
          refine aw_imul G dX10_canBeUndone_97 ?_
          refine aw_iload_n G dX10_canBeUndone_98 rfl ?_
          refine aw_iadd G dX10_canBeUndone_99 ?_
          refine aw_aload_n G dX10_canBeUndone_100 rfl ?_
          refine gf_X10_13 G dX10_canBeUndone_101 (kk := ?_)
          refine aw_iload_n G dX10_canBeUndone_104 rfl ?_
          refine aw_iaload G dX10_canBeUndone_105 (by first | decide | assumption | omega) (by first | rfl | assumption) (by first | decide | assumption) (by omega) ?_
          rw [ldU_r (show (76:Nat) ≠ 81 ∧ (76:Nat) ≠ 82 ∧ (76:Nat) ≠ 83 by decide)]
          refine aw_iastore G dX10_canBeUndone_106 (by first | decide | assumption | omega) (by first | rfl | assumption) (by first | decide | assumption) (by omega) ?_
          refine aw_aload_n G dX10_canBeUndone_107 rfl ?_
          refine gf_X10_32 G dX10_canBeUndone_108 (kk := ?_)
          refine aw_bipush G dX10_canBeUndone_111 (k := ?_)
          refine aw_aload_n G dX10_canBeUndone_113 rfl ?_
          refine gf_X10_125 G dX10_canBeUndone_114 (kk := ?_)
          rw [up_o (show (75:Nat) ≠ 81 by decide), ldU_r (show (75:Nat) ≠ 81 ∧ (75:Nat) ≠ 82 ∧ (75:Nat) ≠ 83 by decide)]
          refine aw_imul G dX10_canBeUndone_117 ?_
          refine aw_iload_n G dX10_canBeUndone_118 rfl ?_
          refine aw_iadd G dX10_canBeUndone_119 ?_
          refine aw_aload_n G dX10_canBeUndone_120 rfl ?_
          refine gf_X10_17 G dX10_canBeUndone_121 (kk := ?_)
          refine aw_iload_n G dX10_canBeUndone_124 rfl ?_
          refine aw_iaload G dX10_canBeUndone_125 (by first | decide | assumption | omega) (by first | rfl | assumption) (by first | decide | assumption) (by omega) ?_
          rw [up_o (show (77:Nat) ≠ 81 by decide), ldU_r (show (77:Nat) ≠ 81 ∧ (77:Nat) ≠ 82 ∧ (77:Nat) ≠ 83 by decide)]
          refine aw_iastore G dX10_canBeUndone_126 (by first | decide | assumption | omega) (by first | rfl | assumption) (by first | decide | assumption) (by omega) ?_
          refine aw_aload_n G dX10_canBeUndone_127 rfl ?_
          refine gf_X10_35 G dX10_canBeUndone_128 (kk := ?_)
          refine aw_bipush G dX10_canBeUndone_131 (k := ?_)
          refine aw_aload_n G dX10_canBeUndone_133 rfl ?_
          refine gf_X10_125 G dX10_canBeUndone_134 (kk := ?_)
          rw [up_o (show (75:Nat) ≠ 82 by decide), up_o (show (75:Nat) ≠ 81 by decide), ldU_r (show (75:Nat) ≠ 81 ∧ (75:Nat) ≠ 82 ∧ (75:Nat) ≠ 83 by decide)]
          refine aw_imul G dX10_canBeUndone_137 ?_
          refine aw_iload_n G dX10_canBeUndone_138 rfl ?_
          refine aw_iadd G dX10_canBeUndone_139 ?_
          refine aw_aload_n G dX10_canBeUndone_140 rfl ?_
          refine gf_X10_26 G dX10_canBeUndone_141 (kk := ?_)
          refine aw_iload_n G dX10_canBeUndone_144 rfl ?_
          refine aw_iaload G dX10_canBeUndone_145 (by first | decide | assumption | omega) (by first | rfl | assumption) (by first | decide | assumption) (by omega) ?_
          rw [up_o (show (80:Nat) ≠ 82 by decide), up_o (show (80:Nat) ≠ 81 by decide), ldU_r (show (80:Nat) ≠ 81 ∧ (80:Nat) ≠ 82 ∧ (80:Nat) ≠ 83 by decide)]
          refine aw_iastore G dX10_canBeUndone_146 (by first | decide | assumption | omega) (by first | rfl | assumption) (by first | decide | assumption) (by omega) ?_
          refine aw_iinc_1 G dX10_canBeUndone_147 rfl (k := ?_)
          refine aw_goto (tgt := 81) G dX10_canBeUndone_150 (by decide) ?_
          rw [show up (up (up (ldU ρ (ρ 75 7) i) 81 (8 * (ρ 75 7) + i) (ρ 76 i)) 82 (8 * (ρ 75 7) + i) (ρ 77 i)) 83 (8 * (ρ 75 7) + i) (ρ 80 i) = ldU ρ (ρ 75 7) (i + 1) from ldU_s (by omega)]
          exact ih (i + 1) (by omega) (by omega)
    refine aw_iconst G dX10_canBeUndone_79 ?_
    refine aw_istore_1 G dX10_canBeUndone_80 (k := ?_)
    have := loop 9 0 (by omega) (by omega)
    rw [ldU_0] at this
    exact this
  have first : ∀ (n0 : Nat) (i : Int), (8 ≤ i ∧ i ≤ 64) → (64 < i + (n0 : Int)) → (σ 75 7 = 8) → AW X V (shU σ i) 12 [] [some (rv V 75), some (iv i)] := by
    intro n0
    induction n0 with
    | zero =>
      intro i h0 h1 h8
      exfalso
      omega
    | succ n0 ih =>
      intro i h0 h1 h8
      refine aw_iload_n G dX10_canBeUndone_12 rfl ?_
      refine aw_bipush G dX10_canBeUndone_13 (k := ?_)
      refine aw_icmp_ge (tgt := 69) G dX10_canBeUndone_15 (by decide) (by first | omega | exact b01_R _ | exact bP_R _) (by first | omega | exact b01_R _ | exact bP_R _) (fun c15 => ?_) (fun c15 => ?_)
      · refine aw_aload_n G dX10_canBeUndone_69 rfl ?_
        refine aw_dup G dX10_canBeUndone_70 (k := ?_)
        refine gf_X10_125 G dX10_canBeUndone_71 (kk := ?_)
        refine aw_iconst G dX10_canBeUndone_74 ?_
        refine aw_isub G dX10_canBeUndone_75 ?_
        refine pf_X10_125 G dX10_canBeUndone_76 (kk := ?_)
        have e0 : i = 64 := by omega
        subst e0
        rw [shU_r (show (75:Nat) ≠ 81 ∧ (75:Nat) ≠ 82 ∧ (75:Nat) ≠ 83 by decide), h8]
        refine second _ _ rfl (by rw [up_at]; decide) (by rw [up_at]; decide) ?_
        rw [up_at]
        funext k j
        by_cases c1 : k = 75 ∧ j = 7
        · obtain ⟨e1, e2⟩ := c1
          subst e1 e2
          simp [up, canU, h8]
        · unfold canU
          rw [show up (ldU (up (shU σ 64) 75 7 (8 - 1)) (8 - 1) 8) 75 7 (8 - 1 + 1) k j = ldU (up (shU σ 64) 75 7 (8 - 1)) (8 - 1) 8 k j by unfold up; rw [if_neg c1]]
          simp only [h8, if_true]
          rw [if_neg c1]
          unfold ldU
          rw [up_o (show (76:Nat) ≠ 75 by decide), up_o (show (77:Nat) ≠ 75 by decide), up_o (show (80:Nat) ≠ 75 by decide), shU_r (show (76:Nat) ≠ 81 ∧ (76:Nat) ≠ 82 ∧ (76:Nat) ≠ 83 by decide), shU_r (show (77:Nat) ≠ 81 ∧ (77:Nat) ≠ 82 ∧ (77:Nat) ≠ 83 by decide), shU_r (show (80:Nat) ≠ 81 ∧ (80:Nat) ≠ 82 ∧ (80:Nat) ≠ 83 by decide)]
          by_cases c81 : k = 81
          · subst c81
            by_cases c3 : 56 ≤ j ∧ j < 64
            · rw [if_pos (by omega), if_pos (by omega)]
              congr 1
            · rw [if_neg (by omega), if_neg (by omega), if_neg (by omega), if_neg (by omega), if_neg (by omega), if_neg (by omega), up_o (show (81:Nat) ≠ 75 by decide)]
              unfold shU
              by_cases c4 : 0 ≤ j ∧ j < 56
              · rw [if_pos (by omega)]
                simp [c4]
              · rw [if_neg (by omega)]
                simp [c4]
          by_cases c82 : k = 82
          · subst c82
            by_cases c3 : 56 ≤ j ∧ j < 64
            · rw [if_neg (by omega), if_pos (by omega), if_neg (by omega), if_pos (by omega)]
              congr 1
            · rw [if_neg (by omega), if_neg (by omega), if_neg (by omega), if_neg (by omega), if_neg (by omega), if_neg (by omega), up_o (show (82:Nat) ≠ 75 by decide)]
              unfold shU
              by_cases c4 : 0 ≤ j ∧ j < 56
              · rw [if_pos (by omega)]
                simp [c4]
              · rw [if_neg (by omega)]
                simp [c4]
          by_cases c83 : k = 83
          · subst c83
            by_cases c3 : 56 ≤ j ∧ j < 64
            · rw [if_neg (by omega), if_neg (by omega), if_pos (by omega), if_neg (by omega), if_neg (by omega), if_pos (by omega)]
              congr 1
            · rw [if_neg (by omega), if_neg (by omega), if_neg (by omega), if_neg (by omega), if_neg (by omega), if_neg (by omega), up_o (show (83:Nat) ≠ 75 by decide)]
              unfold shU
              by_cases c4 : 0 ≤ j ∧ j < 56
              · rw [if_pos (by omega)]
                simp [c4]
              · rw [if_neg (by omega)]
                simp [c4]
          rw [if_neg (by omega), if_neg (by omega), if_neg (by omega), if_neg (by omega), if_neg (by omega), if_neg (by omega), if_neg (by omega)]
          unfold up
          rw [if_neg c1, shU_r (by omega)]
      · refine aw_aload_n G dX10_canBeUndone_18 rfl ?_
        refine gf_X10_29 G dX10_canBeUndone_19 (kk := ?_)
        refine aw_iload_n G dX10_canBeUndone_22 rfl ?_
        refine aw_bipush G dX10_canBeUndone_23 (k := ?_)
        refine aw_isub G dX10_canBeUndone_25 ?_
        refine aw_aload_n G dX10_canBeUndone_26 rfl ?_
        refine gf_X10_29 G dX10_canBeUndone_27 (kk := ?_)
        refine aw_iload_n G dX10_canBeUndone_30 rfl ?_
        refine aw_iaload G dX10_canBeUndone_31 (by first | decide | assumption | omega) (by first | rfl | assumption) (by first | decide | assumption) (by omega) ?_
        rw [show shU σ i 81 i = σ 81 i by unfold shU; rw [if_neg (by omega)]]
        refine aw_iastore G dX10_canBeUndone_32 (by first | decide | assumption | omega) (by first | rfl | assumption) (by first | decide | assumption) (by omega) ?_
        refine aw_aload_n G dX10_canBeUndone_33 rfl ?_
        refine gf_X10_32 G dX10_canBeUndone_34 (kk := ?_)
        refine aw_iload_n G dX10_canBeUndone_37 rfl ?_
        refine aw_bipush G dX10_canBeUndone_38 (k := ?_)
        refine aw_isub G dX10_canBeUndone_40 ?_
        refine aw_aload_n G dX10_canBeUndone_41 rfl ?_
        refine gf_X10_32 G dX10_canBeUndone_42 (kk := ?_)
        refine aw_iload_n G dX10_canBeUndone_45 rfl ?_
        refine aw_iaload G dX10_canBeUndone_46 (by first | decide | assumption | omega) (by first | rfl | assumption) (by first | decide | assumption) (by omega) ?_
        rw [up_o (show (82:Nat) ≠ 81 by decide), show shU σ i 82 i = σ 82 i by unfold shU; rw [if_neg (by omega)]]
        refine aw_iastore G dX10_canBeUndone_47 (by first | decide | assumption | omega) (by first | rfl | assumption) (by first | decide | assumption) (by omega) ?_
        refine aw_aload_n G dX10_canBeUndone_48 rfl ?_
        refine gf_X10_35 G dX10_canBeUndone_49 (kk := ?_)
        refine aw_iload_n G dX10_canBeUndone_52 rfl ?_
        refine aw_bipush G dX10_canBeUndone_53 (k := ?_)
        refine aw_isub G dX10_canBeUndone_55 ?_
        refine aw_aload_n G dX10_canBeUndone_56 rfl ?_
        refine gf_X10_35 G dX10_canBeUndone_57 (kk := ?_)
        refine aw_iload_n G dX10_canBeUndone_60 rfl ?_
        refine aw_iaload G dX10_canBeUndone_61 (by first | decide | assumption | omega) (by first | rfl | assumption) (by first | decide | assumption) (by omega) ?_
        rw [up_o (show (83:Nat) ≠ 82 by decide), up_o (show (83:Nat) ≠ 81 by decide), show shU σ i 83 i = σ 83 i by unfold shU; rw [if_neg (by omega)]]
        refine aw_iastore G dX10_canBeUndone_62 (by first | decide | assumption | omega) (by first | rfl | assumption) (by first | decide | assumption) (by omega) ?_
        refine aw_iinc_1 G dX10_canBeUndone_63 rfl (k := ?_)
        refine aw_goto (tgt := 12) G dX10_canBeUndone_66 (by decide) ?_
        rw [show up (up (up (shU σ i) 81 (i - 8) (σ 81 i)) 82 (i - 8) (σ 82 i)) 83 (i - 8) (σ 83 i) = shU σ (i + 1) from shU_s (by omega)]
        exact ih (i + 1) (by omega) (by omega) h8
  refine aw_aload_n G dX10_canBeUndone_0 rfl ?_
  refine gf_X10_125 G dX10_canBeUndone_1 (kk := ?_)
  refine aw_bipush G dX10_canBeUndone_4 (k := ?_)
  refine aw_icmp_ne (tgt := 79) G dX10_canBeUndone_6 (by decide) (by first | omega | exact b01_R _ | exact bP_R _) (by first | omega | exact b01_R _ | exact bP_R _) (fun c6 => ?_) (fun c6 => ?_)
  · refine second _ _ rfl (by omega) (by omega) ?_
    funext k j
    unfold canU up ldU
    simp only [show ¬ σ 75 7 = 8 by omega, if_false]
    by_cases c1 : k = 75 ∧ j = 7
    · rw [if_pos c1, if_pos c1]
    · rw [if_neg c1, if_neg c1]
      rw [show (if (k = 81 ∨ k = 82 ∨ k = 83) ∧ False ∧ 0 ≤ j ∧ j < 56 then σ k (j + 8) else σ k j) = σ k j from if_neg (fun q => q.2.1)]
  · refine aw_bipush G dX10_canBeUndone_9 (k := ?_)
    refine aw_istore_1 G dX10_canBeUndone_11 (k := ?_)
    have := first 57 8 (by omega) (by omega) c6
    rw [shU_8] at this
    exact this
theorem canU_r {σ : St} {k : Nat} (h : k ≠ 81 ∧ k ≠ 82 ∧ k ≠ 83 ∧ k ≠ 75) : canU σ k = σ k := by
  funext j
  unfold canU
  dsimp only
  rw [if_neg (by omega), if_neg (by omega), if_neg (by omega), if_neg (by omega), if_neg (by omega)]
theorem canU_f {σ : St} {j : Int} (h : j ≠ 7) : canU σ 75 j = σ 75 j := by
  unfold canU
  dsimp only
  rw [if_neg (by omega), if_neg (by omega), if_neg (by omega), if_neg (by omega), if_neg (by omega)]
set_option maxHeartbeats 4000000 in
theorem c_X10_label {V : Wd} {σ : St} {l v : Int} (h1 : inR l) (h2 : inR v) (hk : OK σ) : Ct V yX10_label cX10_label 4 (some .int) 2 43 [rv V 75, iv l, iv v] σ (PI (fun r τ => r = an_label σ l v ∧ τ = nx_label σ l v)) := by
  refine ct_of (by decide) (Nat.le_of_ble_eq_true rfl) (fun X G T => ?_)
  have G : Gd X V cX10_label RX10 4 2 43 := G
  show AW X V σ 0 [] [some (rv V 75), some (iv l), some (iv v), none]
  obtain ⟨⟨n1, n2, n3, n4, n5, n6⟩, u1, l1, l2, i1, s1, w1⟩ := hk
  refine aw_aload_n G dX10_label_0 rfl ?_
  refine aw_iload_n G dX10_label_1 rfl ?_
  refine cv_X10_108 G dX10_label_2 (c_X10_isLine (by first | assumption | omega) (by omega)) (kk := fun r2 t2 h2 => ?_)
  obtain ⟨rfl, rfl⟩ := h2
  refine aw_if_ne (tgt := 14) G dX10_label_5 (by decide) (by first | omega | exact b01_R _ | exact bP_R _) (fun c5 => ?_) (fun c5 => ?_)
  · try simp only [b01_0, b01_n, bP_0, bP_n] at c5
    refine aw_iload_n G dX10_label_14 rfl ?_
    refine aw_if_ge (tgt := 25) G dX10_label_15 (by decide) (by first | omega | exact b01_R _ | exact bP_R _) (fun c15 => ?_) (fun c15 => ?_)
    · refine aw_iload_n G dX10_label_25 rfl ?_
      refine aw_bipush G dX10_label_26 (k := ?_)
      refine aw_icmp_le (tgt := 38) G dX10_label_28 (by decide) (by first | omega | exact b01_R _ | exact bP_R _) (by first | omega | exact b01_R _ | exact bP_R _) (fun c28 => ?_) (fun c28 => ?_)
      · refine aw_aload_n G dX10_label_38 rfl ?_
        refine cv_X10_128 G dX10_label_39 (c_X10_canBeUndone (by omega)) (kk := fun t39 h39 => ?_)
        subst h39
        refine aw_aload_n G dX10_label_42 rfl ?_
        refine gf_X10_26 G dX10_label_43 (kk := ?_)
        refine aw_iload_n G dX10_label_46 rfl ?_
        refine aw_iaload G dX10_label_47 (by first | decide | assumption | omega) (by first | rfl | assumption) (by first | decide | assumption) (by omega) ?_
        rw [canU_r (show (80:Nat) ≠ 81 ∧ (80:Nat) ≠ 82 ∧ (80:Nat) ≠ 83 ∧ (80:Nat) ≠ 75 by decide)]
        refine aw_istore_3 G dX10_label_48 (k := ?_)
        refine aw_aload_n G dX10_label_49 rfl ?_
        refine gf_X10_26 G dX10_label_50 (kk := ?_)
        refine aw_iload_n G dX10_label_53 rfl ?_
        refine aw_iload_n G dX10_label_54 rfl ?_
        refine aw_iastore G dX10_label_55 (by first | decide | assumption | omega) (by first | rfl | assumption) (by first | decide | assumption) (by omega) ?_
        refine aw_iload_n G dX10_label_56 rfl ?_
        exact aw_iret G T dX10_label_57 (⟨by unfold an_label; (repeat' split) <;> first | rfl | (exfalso; omega) | omega, by unfold nx_label; (repeat' split) <;> first | rfl | (exfalso; omega) | omega⟩)
      · refine aw_aload_n G dX10_label_31 rfl ?_
        refine aw_bipush G dX10_label_32 (k := ?_)
        refine cv_X10_87 G dX10_label_34 (c_X10_refused (by decide)) (kk := fun r34 t34 h34 => ?_)
        obtain ⟨rfl, rfl⟩ := h34
        exact aw_iret G T dX10_label_37 (⟨by unfold an_label; (repeat' split) <;> first | rfl | (exfalso; omega) | omega, by unfold nx_label; (repeat' split) <;> first | rfl | (exfalso; omega) | omega⟩)
    · refine aw_aload_n G dX10_label_18 rfl ?_
      refine aw_bipush G dX10_label_19 (k := ?_)
      refine cv_X10_87 G dX10_label_21 (c_X10_refused (by decide)) (kk := fun r21 t21 h21 => ?_)
      obtain ⟨rfl, rfl⟩ := h21
      exact aw_iret G T dX10_label_24 (⟨by unfold an_label; (repeat' split) <;> first | rfl | (exfalso; omega) | omega, by unfold nx_label; (repeat' split) <;> first | rfl | (exfalso; omega) | omega⟩)
  · try simp only [b01_0, b01_n, bP_0, bP_n] at c5
    refine aw_aload_n G dX10_label_8 rfl ?_
    refine aw_iconst G dX10_label_9 ?_
    refine cv_X10_87 G dX10_label_10 (c_X10_refused (by decide)) (kk := fun r10 t10 h10 => ?_)
    obtain ⟨rfl, rfl⟩ := h10
    exact aw_iret G T dX10_label_13 (⟨by unfold an_label; (repeat' split) <;> first | rfl | (exfalso; omega) | omega, by unfold nx_label; (repeat' split) <;> first | rfl | (exfalso; omega) | omega⟩)

set_option maxHeartbeats 4000000 in
theorem c_X10_turn {V : Wd} {σ : St} {l k f : Int} (h1 : inR l) (h2 : inR k) (h3 : inR f) (hk : OK σ) : Ct V yX10_turn cX10_turn 5 (some .int) 2 43 [rv V 75, iv l, iv k, iv f] σ (PI (fun r τ => r = an_turn σ l k f ∧ τ = nx_turn σ l k f)) := by
  refine ct_of (by decide) (Nat.le_of_ble_eq_true rfl) (fun X G T => ?_)
  have G : Gd X V cX10_turn RX10 5 2 43 := G
  show AW X V σ 0 [] [some (rv V 75), some (iv l), some (iv k), some (iv f), none]
  obtain ⟨⟨n1, n2, n3, n4, n5, n6⟩, u1, l1, l2, i1, s1, w1⟩ := hk
  refine aw_aload_n G dX10_turn_0 rfl ?_
  refine aw_iload_n G dX10_turn_1 rfl ?_
  refine cv_X10_108 G dX10_turn_2 (c_X10_isLine (by first | assumption | omega) (by omega)) (kk := fun r2 t2 h2 => ?_)
  obtain ⟨rfl, rfl⟩ := h2
  refine aw_if_ne (tgt := 14) G dX10_turn_5 (by decide) (by first | omega | exact b01_R _ | exact bP_R _) (fun c5 => ?_) (fun c5 => ?_)
  · try simp only [b01_0, b01_n, bP_0, bP_n] at c5
    refine aw_iload_n G dX10_turn_14 rfl ?_
    refine aw_iconst G dX10_turn_15 ?_
    refine aw_iconst G dX10_turn_16 ?_
    refine cs_X10_78 G dX10_turn_17 (c_X10_in (by first | assumption | omega) (by first | assumption | omega) (by first | assumption | omega)) (kk := fun r17 t17 h17 => ?_)
    obtain ⟨rfl, rfl⟩ := h17
    refine aw_if_ne (tgt := 30) G dX10_turn_20 (by decide) (by first | omega | exact b01_R _ | exact bP_R _) (fun c20 => ?_) (fun c20 => ?_)
    · try simp only [b01_0, b01_n, bP_0, bP_n] at c20
      refine aw_iload_n G dX10_turn_30 rfl ?_
      refine aw_if_ge (tgt := 41) G dX10_turn_31 (by decide) (by first | omega | exact b01_R _ | exact bP_R _) (fun c31 => ?_) (fun c31 => ?_)
      · refine aw_iload_n G dX10_turn_41 rfl ?_
        refine aw_bipush G dX10_turn_42 (k := ?_)
        refine aw_icmp_le (tgt := 54) G dX10_turn_44 (by decide) (by first | omega | exact b01_R _ | exact bP_R _) (by first | omega | exact b01_R _ | exact bP_R _) (fun c44 => ?_) (fun c44 => ?_)
        · refine aw_aload_n G dX10_turn_54 rfl ?_
          refine cv_X10_128 G dX10_turn_55 (c_X10_canBeUndone (by omega)) (kk := fun t55 h55 => ?_)
          subst h55
          refine aw_bipush G dX10_turn_58 (k := ?_)
          refine aw_aload_n G dX10_turn_60 rfl ?_
          refine gf_X10_13 G dX10_turn_61 (kk := ?_)
          refine aw_iload_n G dX10_turn_64 rfl ?_
          refine aw_iaload G dX10_turn_65 (by first | decide | assumption | omega) (by first | rfl | assumption) (by first | decide | assumption) (by omega) ?_
          rw [canU_r (show (76:Nat) ≠ 81 ∧ (76:Nat) ≠ 82 ∧ (76:Nat) ≠ 83 ∧ (76:Nat) ≠ 75 by decide)]
          refine aw_imul G dX10_turn_66 ?_
          refine aw_aload_n G dX10_turn_67 rfl ?_
          refine gf_X10_17 G dX10_turn_68 (kk := ?_)
          refine aw_iload_n G dX10_turn_71 rfl ?_
          refine aw_iaload G dX10_turn_72 (by first | decide | assumption | omega) (by first | rfl | assumption) (by first | decide | assumption) (by omega) ?_
          rw [canU_r (show (77:Nat) ≠ 81 ∧ (77:Nat) ≠ 82 ∧ (77:Nat) ≠ 83 ∧ (77:Nat) ≠ 75 by decide)]
          refine aw_iadd G dX10_turn_73 ?_
          refine aw_istore_4 G dX10_turn_74 (k := ?_)
          refine aw_aload_n G dX10_turn_76 rfl ?_
          refine gf_X10_13 G dX10_turn_77 (kk := ?_)
          refine aw_iload_n G dX10_turn_80 rfl ?_
          refine aw_iload_n G dX10_turn_81 rfl ?_
          refine aw_iastore G dX10_turn_82 (by first | decide | assumption | omega) (by first | rfl | assumption) (by first | decide | assumption) (by omega) ?_
          refine aw_aload_n G dX10_turn_83 rfl ?_
          refine gf_X10_17 G dX10_turn_84 (kk := ?_)
          refine aw_iload_n G dX10_turn_87 rfl ?_
          refine aw_iload_n G dX10_turn_88 rfl ?_
          refine aw_iastore G dX10_turn_89 (by first | decide | assumption | omega) (by first | rfl | assumption) (by first | decide | assumption) (by omega) ?_
          refine aw_iload G dX10_turn_90 rfl ?_
          exact aw_iret G T dX10_turn_92 (⟨by unfold an_turn; (repeat' split) <;> first | rfl | (exfalso; omega) | omega, by unfold nx_turn; (repeat' split) <;> first | rfl | (exfalso; omega) | omega⟩)
        · refine aw_aload_n G dX10_turn_47 rfl ?_
          refine aw_bipush G dX10_turn_48 (k := ?_)
          refine cv_X10_87 G dX10_turn_50 (c_X10_refused (by decide)) (kk := fun r50 t50 h50 => ?_)
          obtain ⟨rfl, rfl⟩ := h50
          exact aw_iret G T dX10_turn_53 (⟨by unfold an_turn; (repeat' split) <;> first | rfl | (exfalso; omega) | omega, by unfold nx_turn; (repeat' split) <;> first | rfl | (exfalso; omega) | omega⟩)
      · refine aw_aload_n G dX10_turn_34 rfl ?_
        refine aw_bipush G dX10_turn_35 (k := ?_)
        refine cv_X10_87 G dX10_turn_37 (c_X10_refused (by decide)) (kk := fun r37 t37 h37 => ?_)
        obtain ⟨rfl, rfl⟩ := h37
        exact aw_iret G T dX10_turn_40 (⟨by unfold an_turn; (repeat' split) <;> first | rfl | (exfalso; omega) | omega, by unfold nx_turn; (repeat' split) <;> first | rfl | (exfalso; omega) | omega⟩)
    · try simp only [b01_0, b01_n, bP_0, bP_n] at c20
      refine aw_aload_n G dX10_turn_23 rfl ?_
      refine aw_bipush G dX10_turn_24 (k := ?_)
      refine cv_X10_87 G dX10_turn_26 (c_X10_refused (by decide)) (kk := fun r26 t26 h26 => ?_)
      obtain ⟨rfl, rfl⟩ := h26
      exact aw_iret G T dX10_turn_29 (⟨by unfold an_turn; (repeat' split) <;> first | rfl | (exfalso; omega) | omega, by unfold nx_turn; (repeat' split) <;> first | rfl | (exfalso; omega) | omega⟩)
  · try simp only [b01_0, b01_n, bP_0, bP_n] at c5
    refine aw_aload_n G dX10_turn_8 rfl ?_
    refine aw_iconst G dX10_turn_9 ?_
    refine cv_X10_87 G dX10_turn_10 (c_X10_refused (by decide)) (kk := fun r10 t10 h10 => ?_)
    obtain ⟨rfl, rfl⟩ := h10
    exact aw_iret G T dX10_turn_13 (⟨by unfold an_turn; (repeat' split) <;> first | rfl | (exfalso; omega) | omega, by unfold nx_turn; (repeat' split) <;> first | rfl | (exfalso; omega) | omega⟩)

set_option maxHeartbeats 4000000 in
theorem c_X10_forth {V : Wd} {σ : St} {l : Int} (hl : 0 ≤ l ∧ l < 8) (hR : RowOK σ 75) : Ct V yX10_forth cX10_forth 2 (some .int) 0 0 [rv V 75, iv l] σ (PI (fun r τ => r = kforth (σ 76 l) (σ 77 l) ∧ τ = σ)) := by
  refine ct_of (by decide) (Nat.le_of_ble_eq_true rfl) (fun X G T => ?_)
  have G : Gd X V cX10_forth RX10 2 0 0 := G
  show AW X V σ 0 [] [some (rv V 75), some (iv l)]
  have hr := hR l (by omega) (by omega)
  simp only [Nat.reduceAdd] at hr
  refine aw_aload_n G dX10_forth_0 rfl ?_
  refine gf_X10_13 G dX10_forth_1 (kk := ?_)
  refine aw_iload_n G dX10_forth_4 rfl ?_
  refine aw_iaload G dX10_forth_5 (by first | decide | assumption | omega) (by first | rfl | assumption) (by first | decide | assumption) (by omega) ?_
  refine aw_iconst G dX10_forth_6 ?_
  refine aw_icmp_ne (tgt := 14) G dX10_forth_7 (by decide) (by first | omega | exact b01_R _ | exact bP_R _) (by first | omega | exact b01_R _ | exact bP_R _) (fun c7 => ?_) (fun c7 => ?_)
  · refine aw_aload_n G dX10_forth_14 rfl ?_
    refine gf_X10_13 G dX10_forth_15 (kk := ?_)
    refine aw_iload_n G dX10_forth_18 rfl ?_
    refine aw_iaload G dX10_forth_19 (by first | decide | assumption | omega) (by first | rfl | assumption) (by first | decide | assumption) (by omega) ?_
    refine aw_iconst G dX10_forth_20 ?_
    refine aw_icmp_ne (tgt := 28) G dX10_forth_21 (by decide) (by first | omega | exact b01_R _ | exact bP_R _) (by first | omega | exact b01_R _ | exact bP_R _) (fun c21 => ?_) (fun c21 => ?_)
    · refine aw_aload_n G dX10_forth_28 rfl ?_
      refine gf_X10_13 G dX10_forth_29 (kk := ?_)
      refine aw_iload_n G dX10_forth_32 rfl ?_
      refine aw_iaload G dX10_forth_33 (by first | decide | assumption | omega) (by first | rfl | assumption) (by first | decide | assumption) (by omega) ?_
      refine aw_iconst G dX10_forth_34 ?_
      refine aw_icmp_ne (tgt := 49) G dX10_forth_35 (by decide) (by first | omega | exact b01_R _ | exact bP_R _) (by first | omega | exact b01_R _ | exact bP_R _) (fun c35 => ?_) (fun c35 => ?_)
      · refine aw_iconst G dX10_forth_49 ?_
        exact aw_iret G T dX10_forth_50 (⟨by unfold kforth; (repeat' split) <;> omega, rfl⟩)
      · refine aw_iconst G dX10_forth_38 ?_
        refine aw_aload_n G dX10_forth_39 rfl ?_
        refine gf_X10_17 G dX10_forth_40 (kk := ?_)
        refine aw_iload_n G dX10_forth_43 rfl ?_
        refine aw_iaload G dX10_forth_44 (by first | decide | assumption | omega) (by first | rfl | assumption) (by first | decide | assumption) (by omega) ?_
        refine aw_iadd G dX10_forth_45 ?_
        refine aw_goto (tgt := 50) G dX10_forth_46 (by decide) ?_
        exact aw_iret G T dX10_forth_50 (⟨by unfold kforth; (repeat' split) <;> omega, rfl⟩)
    · refine aw_iconst G dX10_forth_24 ?_
      refine aw_goto (tgt := 50) G dX10_forth_25 (by decide) ?_
      exact aw_iret G T dX10_forth_50 (⟨by unfold kforth; (repeat' split) <;> omega, rfl⟩)
  · refine aw_iconst G dX10_forth_10 ?_
    refine aw_goto (tgt := 50) G dX10_forth_11 (by decide) ?_
    exact aw_iret G T dX10_forth_50 (⟨by unfold kforth; (repeat' split) <;> omega, rfl⟩)

set_option maxHeartbeats 4000000 in
theorem c_X10_back {V : Wd} {σ : St} {l : Int} (hl : 0 ≤ l ∧ l < 8) (hR : RowOK σ 75) : Ct V yX10_back cX10_back 2 (some .int) 0 0 [rv V 75, iv l] σ (PI (fun r τ => r = kback (σ 76 l) (σ 77 l) ∧ τ = σ)) := by
  refine ct_of (by decide) (Nat.le_of_ble_eq_true rfl) (fun X G T => ?_)
  have G : Gd X V cX10_back RX10 2 0 0 := G
  show AW X V σ 0 [] [some (rv V 75), some (iv l)]
  have hr := hR l (by omega) (by omega)
  simp only [Nat.reduceAdd] at hr
  refine aw_aload_n G dX10_back_0 rfl ?_
  refine gf_X10_13 G dX10_back_1 (kk := ?_)
  refine aw_iload_n G dX10_back_4 rfl ?_
  refine aw_iaload G dX10_back_5 (by first | decide | assumption | omega) (by first | rfl | assumption) (by first | decide | assumption) (by omega) ?_
  refine aw_iconst G dX10_back_6 ?_
  refine aw_icmp_ne (tgt := 14) G dX10_back_7 (by decide) (by first | omega | exact b01_R _ | exact bP_R _) (by first | omega | exact b01_R _ | exact bP_R _) (fun c7 => ?_) (fun c7 => ?_)
  · refine aw_aload_n G dX10_back_14 rfl ?_
    refine gf_X10_13 G dX10_back_15 (kk := ?_)
    refine aw_iload_n G dX10_back_18 rfl ?_
    refine aw_iaload G dX10_back_19 (by first | decide | assumption | omega) (by first | rfl | assumption) (by first | decide | assumption) (by omega) ?_
    refine aw_iconst G dX10_back_20 ?_
    refine aw_icmp_eq (tgt := 34) G dX10_back_21 (by decide) (by first | omega | exact b01_R _ | exact bP_R _) (by first | omega | exact b01_R _ | exact bP_R _) (fun c21 => ?_) (fun c21 => ?_)
    · refine aw_iconst G dX10_back_34 ?_
      refine aw_goto (tgt := 62) G dX10_back_35 (by decide) ?_
      exact aw_iret G T dX10_back_62 (⟨by unfold kback; (repeat' split) <;> omega, rfl⟩)
    · refine aw_aload_n G dX10_back_24 rfl ?_
      refine gf_X10_13 G dX10_back_25 (kk := ?_)
      refine aw_iload_n G dX10_back_28 rfl ?_
      refine aw_iaload G dX10_back_29 (by first | decide | assumption | omega) (by first | rfl | assumption) (by first | decide | assumption) (by omega) ?_
      refine aw_iconst G dX10_back_30 ?_
      refine aw_icmp_ne (tgt := 38) G dX10_back_31 (by decide) (by first | omega | exact b01_R _ | exact bP_R _) (by first | omega | exact b01_R _ | exact bP_R _) (fun c31 => ?_) (fun c31 => ?_)
      · refine aw_aload_n G dX10_back_38 rfl ?_
        refine gf_X10_13 G dX10_back_39 (kk := ?_)
        refine aw_iload_n G dX10_back_42 rfl ?_
        refine aw_iaload G dX10_back_43 (by first | decide | assumption | omega) (by first | rfl | assumption) (by first | decide | assumption) (by omega) ?_
        refine aw_iconst G dX10_back_44 ?_
        refine aw_icmp_ne (tgt := 61) G dX10_back_45 (by decide) (by first | omega | exact b01_R _ | exact bP_R _) (by first | omega | exact b01_R _ | exact bP_R _) (fun c45 => ?_) (fun c45 => ?_)
        · refine aw_iconst G dX10_back_61 ?_
          exact aw_iret G T dX10_back_62 (⟨by unfold kback; (repeat' split) <;> omega, rfl⟩)
        · refine aw_iconst G dX10_back_48 ?_
          refine aw_aload_n G dX10_back_49 rfl ?_
          refine gf_X10_17 G dX10_back_50 (kk := ?_)
          refine aw_iload_n G dX10_back_53 rfl ?_
          refine aw_iaload G dX10_back_54 (by first | decide | assumption | omega) (by first | rfl | assumption) (by first | decide | assumption) (by omega) ?_
          refine aw_iconst G dX10_back_55 ?_
          refine aw_irem G dX10_back_56 (by first | omega | exact b01_R _ | exact bP_R _) (by first | omega | exact b01_R _ | exact bP_R _) ?_
          rw [tm_em _ hr.2.2.1]
          refine aw_isub G dX10_back_57 ?_
          refine aw_goto (tgt := 62) G dX10_back_58 (by decide) ?_
          exact aw_iret G T dX10_back_62 (⟨by unfold kback; (repeat' split) <;> omega, rfl⟩)
      · refine aw_iconst G dX10_back_34 ?_
        refine aw_goto (tgt := 62) G dX10_back_35 (by decide) ?_
        exact aw_iret G T dX10_back_62 (⟨by unfold kback; (repeat' split) <;> omega, rfl⟩)
  · refine aw_iconst G dX10_back_10 ?_
    refine aw_goto (tgt := 62) G dX10_back_11 (by decide) ?_
    exact aw_iret G T dX10_back_62 (⟨by unfold kback; (repeat' split) <;> omega, rfl⟩)

set_option maxHeartbeats 4000000 in
theorem c_X10_weight {V : Wd} {σ : St} {p l : Int} (hp : inR p) (hl : 0 ≤ l ∧ l < 8) (hR : RowOK σ 75) : Ct V yX10_weight cX10_weight 3 (some .int) 1 21 [rv V 75, iv p, iv l] σ (PI (fun r τ => r = nwt σ 75 p l ∧ τ = σ)) := by
  refine ct_of (by decide) (Nat.le_of_ble_eq_true rfl) (fun X G T => ?_)
  have G : Gd X V cX10_weight RX10 3 1 21 := G
  show AW X V σ 0 [] [some (rv V 75), some (iv p), some (iv l)]
  have hr := hR l (by omega) (by omega)
  simp only [Nat.reduceAdd] at hr
  refine aw_aload_n G dX10_weight_0 rfl ?_
  refine gf_X10_20 G dX10_weight_1 (kk := ?_)
  refine aw_iload_n G dX10_weight_4 rfl ?_
  refine aw_iaload G dX10_weight_5 (by first | decide | assumption | omega) (by first | rfl | assumption) (by first | decide | assumption) (by omega) ?_
  refine aw_iload_n G dX10_weight_6 rfl ?_
  refine aw_icmp_ne (tgt := 18) G dX10_weight_7 (by decide) (by first | omega | exact b01_R _ | exact bP_R _) (by first | omega | exact b01_R _ | exact bP_R _) (fun c7 => ?_) (fun c7 => ?_)
  · refine aw_iconst G dX10_weight_18 ?_
    refine aw_aload_n G dX10_weight_19 rfl ?_
    refine gf_X10_23 G dX10_weight_20 (kk := ?_)
    refine aw_iload_n G dX10_weight_23 rfl ?_
    refine aw_iaload G dX10_weight_24 (by first | decide | assumption | omega) (by first | rfl | assumption) (by first | decide | assumption) (by omega) ?_
    refine aw_iload_n G dX10_weight_25 rfl ?_
    refine aw_icmp_ne (tgt := 37) G dX10_weight_26 (by decide) (by first | omega | exact b01_R _ | exact bP_R _) (by first | omega | exact b01_R _ | exact bP_R _) (fun c26 => ?_) (fun c26 => ?_)
    · refine aw_iconst G dX10_weight_37 ?_
      refine aw_iadd G dX10_weight_38 ?_
      exact aw_iret G T dX10_weight_39 (⟨by simp [nwt, c7, c26], rfl⟩)
    · refine aw_aload_n G dX10_weight_29 rfl ?_
      refine aw_iload_n G dX10_weight_30 rfl ?_
      refine cv_X10_134 G dX10_weight_31 (c_X10_back (by omega) (by assumption)) (kk := fun r31 t31 h31 => ?_)
      obtain ⟨rfl, rfl⟩ := h31
      refine aw_goto (tgt := 38) G dX10_weight_34 (by decide) ?_
      refine aw_iadd G dX10_weight_38 ?_
      exact aw_iret G T dX10_weight_39 (⟨by simp [nwt, c7, c26], rfl⟩)
  · refine aw_aload_n G dX10_weight_10 rfl ?_
    refine aw_iload_n G dX10_weight_11 rfl ?_
    refine cv_X10_131 G dX10_weight_12 (c_X10_forth (by omega) (by assumption)) (kk := fun r12 t12 h12 => ?_)
    obtain ⟨rfl, rfl⟩ := h12
    refine aw_goto (tgt := 19) G dX10_weight_15 (by decide) ?_
    refine aw_aload_n G dX10_weight_19 rfl ?_
    refine gf_X10_23 G dX10_weight_20 (kk := ?_)
    refine aw_iload_n G dX10_weight_23 rfl ?_
    refine aw_iaload G dX10_weight_24 (by first | decide | assumption | omega) (by first | rfl | assumption) (by first | decide | assumption) (by omega) ?_
    refine aw_iload_n G dX10_weight_25 rfl ?_
    refine aw_icmp_ne (tgt := 37) G dX10_weight_26 (by decide) (by first | omega | exact b01_R _ | exact bP_R _) (by first | omega | exact b01_R _ | exact bP_R _) (fun c26 => ?_) (fun c26 => ?_)
    · refine aw_iconst G dX10_weight_37 ?_
      refine aw_iadd G dX10_weight_38 ?_
      exact aw_iret G T dX10_weight_39 (⟨by simp [nwt, c7, c26], rfl⟩)
    · refine aw_aload_n G dX10_weight_29 rfl ?_
      refine aw_iload_n G dX10_weight_30 rfl ?_
      refine cv_X10_134 G dX10_weight_31 (c_X10_back (by omega) (by assumption)) (kk := fun r31 t31 h31 => ?_)
      obtain ⟨rfl, rfl⟩ := h31
      refine aw_goto (tgt := 38) G dX10_weight_34 (by decide) ?_
      refine aw_iadd G dX10_weight_38 ?_
      exact aw_iret G T dX10_weight_39 (⟨by simp [nwt, c7, c26], rfl⟩)

set_option maxHeartbeats 4000000 in
theorem c_X10_of {V : Wd} {σ : St} {l v : Int} (h1 : inR l) (h2 : inR v) (hk : OK σ) : Ct V yX10_of cX10_of 3 (some .int) 2 43 [rv V 75, iv l, iv v] σ (PI (fun r τ => r = an_of σ l v ∧ τ = nx_of σ l v)) := by
  refine ct_of (by decide) (Nat.le_of_ble_eq_true rfl) (fun X G T => ?_)
  have G : Gd X V cX10_of RX10 3 2 43 := G
  show AW X V σ 0 [] [some (rv V 75), some (iv l), some (iv v)]
  obtain ⟨⟨n1, n2, n3, n4, n5, n6⟩, u1, l1, l2, i1, s1, w1⟩ := hk
  refine aw_aload_n G dX10_of_0 rfl ?_
  refine aw_iload_n G dX10_of_1 rfl ?_
  refine cv_X10_108 G dX10_of_2 (c_X10_isLine (by first | assumption | omega) (by omega)) (kk := fun r2 t2 h2 => ?_)
  obtain ⟨rfl, rfl⟩ := h2
  refine aw_if_ne (tgt := 14) G dX10_of_5 (by decide) (by first | omega | exact b01_R _ | exact bP_R _) (fun c5 => ?_) (fun c5 => ?_)
  · try simp only [b01_0, b01_n, bP_0, bP_n] at c5
    refine aw_iload_n G dX10_of_14 rfl ?_
    by_cases s15_0 : v = 0
    · refine aw_tswIn (off := 41) (tgt := 56) G dX10_of_15 (by first | omega | exact b01_R _ | exact bP_R _) (by omega) (by omega) (by rw [s15_0]; rfl) (by decide) ?_
      refine aw_aload_n G dX10_of_56 rfl ?_
      refine gf_X10_13 G dX10_of_57 (kk := ?_)
      refine aw_iload_n G dX10_of_60 rfl ?_
      refine aw_iaload G dX10_of_61 (by first | decide | assumption | omega) (by first | rfl | assumption) (by first | decide | assumption) (by omega) ?_
      exact aw_iret G T dX10_of_62 (⟨by unfold an_of; (repeat' split) <;> first | rfl | (exfalso; omega) | omega, by unfold nx_of; (repeat' split) <;> first | rfl | (exfalso; omega) | omega⟩)
    by_cases s15_1 : v = 1
    · refine aw_tswIn (off := 48) (tgt := 63) G dX10_of_15 (by first | omega | exact b01_R _ | exact bP_R _) (by omega) (by omega) (by rw [s15_1]; rfl) (by decide) ?_
      refine aw_aload_n G dX10_of_63 rfl ?_
      refine gf_X10_17 G dX10_of_64 (kk := ?_)
      refine aw_iload_n G dX10_of_67 rfl ?_
      refine aw_iaload G dX10_of_68 (by first | decide | assumption | omega) (by first | rfl | assumption) (by first | decide | assumption) (by omega) ?_
      exact aw_iret G T dX10_of_69 (⟨by unfold an_of; (repeat' split) <;> first | rfl | (exfalso; omega) | omega, by unfold nx_of; (repeat' split) <;> first | rfl | (exfalso; omega) | omega⟩)
    by_cases s15_2 : v = 2
    · refine aw_tswIn (off := 55) (tgt := 70) G dX10_of_15 (by first | omega | exact b01_R _ | exact bP_R _) (by omega) (by omega) (by rw [s15_2]; rfl) (by decide) ?_
      refine aw_aload_n G dX10_of_70 rfl ?_
      refine gf_X10_20 G dX10_of_71 (kk := ?_)
      refine aw_iload_n G dX10_of_74 rfl ?_
      refine aw_iaload G dX10_of_75 (by first | decide | assumption | omega) (by first | rfl | assumption) (by first | decide | assumption) (by omega) ?_
      exact aw_iret G T dX10_of_76 (⟨by unfold an_of; (repeat' split) <;> first | rfl | (exfalso; omega) | omega, by unfold nx_of; (repeat' split) <;> first | rfl | (exfalso; omega) | omega⟩)
    by_cases s15_3 : v = 3
    · refine aw_tswIn (off := 62) (tgt := 77) G dX10_of_15 (by first | omega | exact b01_R _ | exact bP_R _) (by omega) (by omega) (by rw [s15_3]; rfl) (by decide) ?_
      refine aw_aload_n G dX10_of_77 rfl ?_
      refine gf_X10_23 G dX10_of_78 (kk := ?_)
      refine aw_iload_n G dX10_of_81 rfl ?_
      refine aw_iaload G dX10_of_82 (by first | decide | assumption | omega) (by first | rfl | assumption) (by first | decide | assumption) (by omega) ?_
      exact aw_iret G T dX10_of_83 (⟨by unfold an_of; (repeat' split) <;> first | rfl | (exfalso; omega) | omega, by unfold nx_of; (repeat' split) <;> first | rfl | (exfalso; omega) | omega⟩)
    by_cases s15_4 : v = 4
    · refine aw_tswIn (off := 69) (tgt := 84) G dX10_of_15 (by first | omega | exact b01_R _ | exact bP_R _) (by omega) (by omega) (by rw [s15_4]; rfl) (by decide) ?_
      refine aw_aload_n G dX10_of_84 rfl ?_
      refine gf_X10_26 G dX10_of_85 (kk := ?_)
      refine aw_iload_n G dX10_of_88 rfl ?_
      refine aw_iaload G dX10_of_89 (by first | decide | assumption | omega) (by first | rfl | assumption) (by first | decide | assumption) (by omega) ?_
      exact aw_iret G T dX10_of_90 (⟨by unfold an_of; (repeat' split) <;> first | rfl | (exfalso; omega) | omega, by unfold nx_of; (repeat' split) <;> first | rfl | (exfalso; omega) | omega⟩)
    by_cases s15_5 : v = 5
    · refine aw_tswIn (off := 76) (tgt := 91) G dX10_of_15 (by first | omega | exact b01_R _ | exact bP_R _) (by omega) (by omega) (by rw [s15_5]; rfl) (by decide) ?_
      refine aw_aload_n G dX10_of_91 rfl ?_
      refine aw_iload_n G dX10_of_92 rfl ?_
      refine cv_X10_131 G dX10_of_93 (c_X10_forth (by omega) (by assumption)) (kk := fun r93 t93 h93 => ?_)
      obtain ⟨rfl, rfl⟩ := h93
      exact aw_iret G T dX10_of_96 (⟨by unfold an_of; (repeat' split) <;> first | rfl | (exfalso; omega) | omega, by unfold nx_of; (repeat' split) <;> first | rfl | (exfalso; omega) | omega⟩)
    by_cases s15_6 : v = 6
    · refine aw_tswIn (off := 82) (tgt := 97) G dX10_of_15 (by first | omega | exact b01_R _ | exact bP_R _) (by omega) (by omega) (by rw [s15_6]; rfl) (by decide) ?_
      refine aw_aload_n G dX10_of_97 rfl ?_
      refine aw_iload_n G dX10_of_98 rfl ?_
      refine cv_X10_134 G dX10_of_99 (c_X10_back (by omega) (by assumption)) (kk := fun r99 t99 h99 => ?_)
      obtain ⟨rfl, rfl⟩ := h99
      exact aw_iret G T dX10_of_102 (⟨by unfold an_of; (repeat' split) <;> first | rfl | (exfalso; omega) | omega, by unfold nx_of; (repeat' split) <;> first | rfl | (exfalso; omega) | omega⟩)
    refine aw_tswOut (tgt := 103) G dX10_of_15 (by first | omega | exact b01_R _ | exact bP_R _) (by omega) (by decide) ?_
    refine aw_aload_n G dX10_of_103 rfl ?_
    refine aw_bipush G dX10_of_104 (k := ?_)
    refine cv_X10_87 G dX10_of_106 (c_X10_refused (by decide)) (kk := fun r106 t106 h106 => ?_)
    obtain ⟨rfl, rfl⟩ := h106
    exact aw_iret G T dX10_of_109 (⟨by unfold an_of; (repeat' split) <;> first | rfl | (exfalso; omega) | omega, by unfold nx_of; (repeat' split) <;> first | rfl | (exfalso; omega) | omega⟩)
  · try simp only [b01_0, b01_n, bP_0, bP_n] at c5
    refine aw_aload_n G dX10_of_8 rfl ?_
    refine aw_iconst G dX10_of_9 ?_
    refine cv_X10_87 G dX10_of_10 (c_X10_refused (by decide)) (kk := fun r10 t10 h10 => ?_)
    obtain ⟨rfl, rfl⟩ := h10
    exact aw_iret G T dX10_of_13 (⟨by unfold an_of; (repeat' split) <;> first | rfl | (exfalso; omega) | omega, by unfold nx_of; (repeat' split) <;> first | rfl | (exfalso; omega) | omega⟩)

set_option maxHeartbeats 4000000 in
theorem c_X10_taken {V : Wd} {σ : St} {l k : Int} (h1 : inR l) (h2 : inR k) (hk : OK σ) : Ct V yX10_taken cX10_taken 4 (some .int) 2 43 [rv V 75, iv l, iv k] σ (PI (fun r τ => r = an_taken σ l k ∧ τ = nx_taken σ l k)) := by
  refine ct_of (by decide) (Nat.le_of_ble_eq_true rfl) (fun X G T => ?_)
  have G : Gd X V cX10_taken RX10 4 2 43 := G
  show AW X V σ 0 [] [some (rv V 75), some (iv l), some (iv k), none]
  obtain ⟨⟨n1, n2, n3, n4, n5, n6⟩, u1, l1, l2, i1, s1, w1⟩ := hk
  refine aw_aload_n G dX10_taken_0 rfl ?_
  refine aw_iload_n G dX10_taken_1 rfl ?_
  refine cv_X10_108 G dX10_taken_2 (c_X10_isLine (by first | assumption | omega) (by omega)) (kk := fun r2 t2 h2 => ?_)
  obtain ⟨rfl, rfl⟩ := h2
  refine aw_if_ne (tgt := 14) G dX10_taken_5 (by decide) (by first | omega | exact b01_R _ | exact bP_R _) (fun c5 => ?_) (fun c5 => ?_)
  · try simp only [b01_0, b01_n, bP_0, bP_n] at c5
    refine aw_iload_n G dX10_taken_14 rfl ?_
    refine aw_iconst G dX10_taken_15 ?_
    refine aw_iconst G dX10_taken_16 ?_
    refine cs_X10_78 G dX10_taken_17 (c_X10_in (by first | assumption | omega) (by first | assumption | omega) (by first | assumption | omega)) (kk := fun r17 t17 h17 => ?_)
    obtain ⟨rfl, rfl⟩ := h17
    refine aw_if_ne (tgt := 30) G dX10_taken_20 (by decide) (by first | omega | exact b01_R _ | exact bP_R _) (fun c20 => ?_) (fun c20 => ?_)
    · try simp only [b01_0, b01_n, bP_0, bP_n] at c20
      refine aw_aload_n G dX10_taken_30 rfl ?_
      refine gf_X10_13 G dX10_taken_31 (kk := ?_)
      refine aw_iload_n G dX10_taken_34 rfl ?_
      refine aw_iaload G dX10_taken_35 (by first | decide | assumption | omega) (by first | rfl | assumption) (by first | decide | assumption) (by omega) ?_
      have hr := n5 l (by omega) (by omega)
      simp only [Nat.reduceAdd] at hr
      refine aw_istore_3 G dX10_taken_36 (k := ?_)
      refine aw_iload_n G dX10_taken_37 rfl ?_
      refine aw_if_eq (tgt := 66) G dX10_taken_38 (by decide) (by first | omega | exact b01_R _ | exact bP_R _) (fun c38 => ?_) (fun c38 => ?_)
      · try simp only [b01_0, b01_n, bP_0, bP_n] at c38
        refine aw_iload_n G dX10_taken_66 rfl ?_
        refine aw_goto (tgt := 72) G dX10_taken_67 (by decide) ?_
        exact aw_iret G T dX10_taken_72 (⟨by unfold an_taken; (repeat' split) <;> first | rfl | (exfalso; omega) | omega, by unfold nx_taken; (repeat' split) <;> first | rfl | (exfalso; omega) | omega⟩)
      · try simp only [b01_0, b01_n, bP_0, bP_n] at c38
        refine aw_iload_n G dX10_taken_41 rfl ?_
        refine aw_iload_n G dX10_taken_42 rfl ?_
        refine aw_icmp_eq (tgt := 66) G dX10_taken_43 (by decide) (by first | omega | exact b01_R _ | exact bP_R _) (by first | omega | exact b01_R _ | exact bP_R _) (fun c43 => ?_) (fun c43 => ?_)
        · refine aw_iload_n G dX10_taken_66 rfl ?_
          refine aw_goto (tgt := 72) G dX10_taken_67 (by decide) ?_
          exact aw_iret G T dX10_taken_72 (⟨by unfold an_taken; (repeat' split) <;> first | rfl | (exfalso; omega) | omega, by unfold nx_taken; (repeat' split) <;> first | rfl | (exfalso; omega) | omega⟩)
        · refine aw_iload_n G dX10_taken_46 rfl ?_
          refine aw_iconst G dX10_taken_47 ?_
          refine aw_icmp_ne (tgt := 56) G dX10_taken_48 (by decide) (by first | omega | exact b01_R _ | exact bP_R _) (by first | omega | exact b01_R _ | exact bP_R _) (fun c48 => ?_) (fun c48 => ?_)
          · refine aw_iload_n G dX10_taken_56 rfl ?_
            refine aw_iconst G dX10_taken_57 ?_
            refine aw_icmp_ne (tgt := 70) G dX10_taken_58 (by decide) (by first | omega | exact b01_R _ | exact bP_R _) (by first | omega | exact b01_R _ | exact bP_R _) (fun c58 => ?_) (fun c58 => ?_)
            · refine aw_bipush G dX10_taken_70 (k := ?_)
              exact aw_iret G T dX10_taken_72 (⟨by unfold an_taken; (repeat' split) <;> first | rfl | (exfalso; omega) | omega, by unfold nx_taken; (repeat' split) <;> first | rfl | (exfalso; omega) | omega⟩)
            · refine aw_iload_n G dX10_taken_61 rfl ?_
              refine aw_iconst G dX10_taken_62 ?_
              refine aw_icmp_ne (tgt := 70) G dX10_taken_63 (by decide) (by first | omega | exact b01_R _ | exact bP_R _) (by first | omega | exact b01_R _ | exact bP_R _) (fun c63 => ?_) (fun c63 => ?_)
              · refine aw_bipush G dX10_taken_70 (k := ?_)
                exact aw_iret G T dX10_taken_72 (⟨by unfold an_taken; (repeat' split) <;> first | rfl | (exfalso; omega) | omega, by unfold nx_taken; (repeat' split) <;> first | rfl | (exfalso; omega) | omega⟩)
              · refine aw_iload_n G dX10_taken_66 rfl ?_
                refine aw_goto (tgt := 72) G dX10_taken_67 (by decide) ?_
                exact aw_iret G T dX10_taken_72 (⟨by unfold an_taken; (repeat' split) <;> first | rfl | (exfalso; omega) | omega, by unfold nx_taken; (repeat' split) <;> first | rfl | (exfalso; omega) | omega⟩)
          · refine aw_iload_n G dX10_taken_51 rfl ?_
            refine aw_iconst G dX10_taken_52 ?_
            refine aw_icmp_eq (tgt := 66) G dX10_taken_53 (by decide) (by first | omega | exact b01_R _ | exact bP_R _) (by first | omega | exact b01_R _ | exact bP_R _) (fun c53 => ?_) (fun c53 => ?_)
            · refine aw_iload_n G dX10_taken_66 rfl ?_
              refine aw_goto (tgt := 72) G dX10_taken_67 (by decide) ?_
              exact aw_iret G T dX10_taken_72 (⟨by unfold an_taken; (repeat' split) <;> first | rfl | (exfalso; omega) | omega, by unfold nx_taken; (repeat' split) <;> first | rfl | (exfalso; omega) | omega⟩)
            · refine aw_iload_n G dX10_taken_56 rfl ?_
              refine aw_iconst G dX10_taken_57 ?_
              refine aw_icmp_ne (tgt := 70) G dX10_taken_58 (by decide) (by first | omega | exact b01_R _ | exact bP_R _) (by first | omega | exact b01_R _ | exact bP_R _) (fun c58 => ?_) (fun c58 => ?_)
              · refine aw_bipush G dX10_taken_70 (k := ?_)
                exact aw_iret G T dX10_taken_72 (⟨by unfold an_taken; (repeat' split) <;> first | rfl | (exfalso; omega) | omega, by unfold nx_taken; (repeat' split) <;> first | rfl | (exfalso; omega) | omega⟩)
              · refine aw_iload_n G dX10_taken_61 rfl ?_
                refine aw_iconst G dX10_taken_62 ?_
                refine aw_icmp_ne (tgt := 70) G dX10_taken_63 (by decide) (by first | omega | exact b01_R _ | exact bP_R _) (by first | omega | exact b01_R _ | exact bP_R _) (fun c63 => ?_) (fun c63 => ?_)
                · refine aw_bipush G dX10_taken_70 (k := ?_)
                  exact aw_iret G T dX10_taken_72 (⟨by unfold an_taken; (repeat' split) <;> first | rfl | (exfalso; omega) | omega, by unfold nx_taken; (repeat' split) <;> first | rfl | (exfalso; omega) | omega⟩)
                · refine aw_iload_n G dX10_taken_66 rfl ?_
                  refine aw_goto (tgt := 72) G dX10_taken_67 (by decide) ?_
                  exact aw_iret G T dX10_taken_72 (⟨by unfold an_taken; (repeat' split) <;> first | rfl | (exfalso; omega) | omega, by unfold nx_taken; (repeat' split) <;> first | rfl | (exfalso; omega) | omega⟩)
    · try simp only [b01_0, b01_n, bP_0, bP_n] at c20
      refine aw_aload_n G dX10_taken_23 rfl ?_
      refine aw_bipush G dX10_taken_24 (k := ?_)
      refine cv_X10_87 G dX10_taken_26 (c_X10_refused (by decide)) (kk := fun r26 t26 h26 => ?_)
      obtain ⟨rfl, rfl⟩ := h26
      exact aw_iret G T dX10_taken_29 (⟨by unfold an_taken; (repeat' split) <;> first | rfl | (exfalso; omega) | omega, by unfold nx_taken; (repeat' split) <;> first | rfl | (exfalso; omega) | omega⟩)
  · try simp only [b01_0, b01_n, bP_0, bP_n] at c5
    refine aw_aload_n G dX10_taken_8 rfl ?_
    refine aw_iconst G dX10_taken_9 ?_
    refine cv_X10_87 G dX10_taken_10 (c_X10_refused (by decide)) (kk := fun r10 t10 h10 => ?_)
    obtain ⟨rfl, rfl⟩ := h10
    exact aw_iret G T dX10_taken_13 (⟨by unfold an_taken; (repeat' split) <;> first | rfl | (exfalso; omega) | omega, by unfold nx_taken; (repeat' split) <;> first | rfl | (exfalso; omega) | omega⟩)

set_option maxHeartbeats 4000000 in
theorem c_X10_table {V : Wd} {σ : St} {p l : Int} (h1 : inR p) (h2 : inR l) (hk : OK σ) : Ct V yX10_table cX10_table 3 (some .int) 2 43 [rv V 75, iv p, iv l] σ (PI (fun r τ => r = an_table σ p l ∧ τ = nx_table σ p l)) := by
  refine ct_of (by decide) (Nat.le_of_ble_eq_true rfl) (fun X G T => ?_)
  have G : Gd X V cX10_table RX10 3 2 43 := G
  show AW X V σ 0 [] [some (rv V 75), some (iv p), some (iv l)]
  obtain ⟨⟨n1, n2, n3, n4, n5, n6⟩, u1, l1, l2, i1, s1, w1⟩ := hk
  refine aw_aload_n G dX10_table_0 rfl ?_
  refine aw_iload_n G dX10_table_1 rfl ?_
  refine cv_X10_100 G dX10_table_2 (c_X10_isPoint (by first | assumption | omega) (by omega)) (kk := fun r2 t2 h2 => ?_)
  obtain ⟨rfl, rfl⟩ := h2
  refine aw_if_eq (tgt := 25) G dX10_table_5 (by decide) (by first | omega | exact b01_R _ | exact bP_R _) (fun c5 => ?_) (fun c5 => ?_)
  · try simp only [b01_0, b01_n, bP_0, bP_n] at c5
    refine aw_aload_n G dX10_table_25 rfl ?_
    refine aw_iconst G dX10_table_26 ?_
    refine cv_X10_87 G dX10_table_27 (c_X10_refused (by decide)) (kk := fun r27 t27 h27 => ?_)
    obtain ⟨rfl, rfl⟩ := h27
    exact aw_iret G T dX10_table_30 (⟨by unfold an_table; (repeat' split) <;> first | rfl | (exfalso; omega) | omega, by unfold nx_table; (repeat' split) <;> first | rfl | (exfalso; omega) | omega⟩)
  · try simp only [b01_0, b01_n, bP_0, bP_n] at c5
    refine aw_aload_n G dX10_table_8 rfl ?_
    refine aw_iload_n G dX10_table_9 rfl ?_
    refine cv_X10_108 G dX10_table_10 (c_X10_isLine (by first | assumption | omega) (by omega)) (kk := fun r10 t10 h10 => ?_)
    obtain ⟨rfl, rfl⟩ := h10
    refine aw_if_eq (tgt := 25) G dX10_table_13 (by decide) (by first | omega | exact b01_R _ | exact bP_R _) (fun c13 => ?_) (fun c13 => ?_)
    · try simp only [b01_0, b01_n, bP_0, bP_n] at c13
      refine aw_aload_n G dX10_table_25 rfl ?_
      refine aw_iconst G dX10_table_26 ?_
      refine cv_X10_87 G dX10_table_27 (c_X10_refused (by decide)) (kk := fun r27 t27 h27 => ?_)
      obtain ⟨rfl, rfl⟩ := h27
      exact aw_iret G T dX10_table_30 (⟨by unfold an_table; (repeat' split) <;> first | rfl | (exfalso; omega) | omega, by unfold nx_table; (repeat' split) <;> first | rfl | (exfalso; omega) | omega⟩)
    · try simp only [b01_0, b01_n, bP_0, bP_n] at c13
      refine aw_aload_n G dX10_table_16 rfl ?_
      refine aw_iload_n G dX10_table_17 rfl ?_
      refine aw_iload_n G dX10_table_18 rfl ?_
      refine cv_X10_137 G dX10_table_19 (c_X10_weight (by first | assumption | omega) (by omega) (by assumption)) (kk := fun r19 t19 h19 => ?_)
      obtain ⟨rfl, rfl⟩ := h19
      refine aw_goto (tgt := 30) G dX10_table_22 (by decide) ?_
      exact aw_iret G T dX10_table_30 (⟨by unfold an_table; (repeat' split) <;> first | rfl | (exfalso; omega) | omega, by unfold nx_table; (repeat' split) <;> first | rfl | (exfalso; omega) | omega⟩)

