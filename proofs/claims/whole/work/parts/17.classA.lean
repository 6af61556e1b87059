set_option maxHeartbeats 4000000 in
theorem c_X1_add {V : Wd} {σ : St} {c : Int} (hn : 0 ≤ σ 62 2 ∧ σ 62 2 < 72) : Ct V yX1_add cX1_add 2 none 0 0 [rv V 62, iv c] σ (PV (fun τ => τ = up (up σ 63 (σ 62 2) c) 62 2 (σ 62 2 + 1))) := by
  refine ct_of (by decide) (Nat.le_of_ble_eq_true rfl) (fun X G T => ?_)
  have G : Gd X V cX1_add RX1 2 0 0 := G
  show AW X V σ 0 [] [some (rv V 62), some (iv c)]
  refine aw_aload_n G dX1_add_0 rfl ?_
  refine gf_X1_9 G dX1_add_1 (kk := ?_)
  refine aw_aload_n G dX1_add_4 rfl ?_
  refine gf_X1_22 G dX1_add_5 (kk := ?_)
  refine aw_iload_n G dX1_add_8 rfl ?_
  refine aw_iastore G dX1_add_9 (by first | decide | assumption | omega) (by first | rfl | assumption) (by first | decide | assumption) (by omega) ?_
  refine aw_aload_n G dX1_add_10 rfl ?_
  refine aw_dup G dX1_add_11 (k := ?_)
  refine gf_X1_22 G dX1_add_12 (kk := ?_)
  rw [up_o (show (62:Nat) ≠ 63 by decide)]
  refine aw_iconst G dX1_add_15 ?_
  refine aw_iadd G dX1_add_16 ?_
  refine pf_X1_22 G dX1_add_17 (kk := ?_)
  exact aw_vret G T dX1_add_20 (rfl)

theorem RX.let {α σ : St} {c : Int} (q : RX α σ) (hl : 0 ≤ α 75 12) : RX (up (up α 84 (α 75 12) c) 75 12 (α 75 12 + 1)) (up (up σ 63 (σ 62 2) c) 62 2 (σ 62 2 + 1)) := by
  obtain ⟨q1, q2, q3, q4, q5, q6⟩ := q
  refine ⟨q1.k rfl rfl rfl rfl rfl rfl rfl rfl rfl (fun k a b => by rw [up_ne (by omega), up_ne (by omega)]), ⟨?_, fun i i0 i1 => ?_⟩, q3.k rfl rfl rfl rfl rfl rfl (fun k a b => by rw [up_ne (by omega), up_ne (by omega)]), q4.k rfl rfl rfl (fun k a b => by rw [up_ne (by omega), up_ne (by omega)]), q5.k rfl rfl, q6.k rfl rfl rfl (fun k a b => by rw [up_ne (by omega), up_ne (by omega)])⟩
  · rw [up_at, up_at, q2.1]
  · rw [up_at] at i1
    rw [up_o (show (63:Nat) ≠ 62 by decide), up_o (show (84:Nat) ≠ 75 by decide), q2.1]
    by_cases e : i = α 75 12
    · subst e
      rw [up_at, up_at]
    · rw [up_nj e, up_nj e]
      exact q2.2 i i0 (by omega)
theorem RX.nolet {α σ : St} (q : RX α σ) : RX (up α 75 12 0) (up σ 62 2 0) := by
  obtain ⟨q1, q2, q3, q4, q5, q6⟩ := q
  exact ⟨q1.k rfl rfl rfl rfl rfl rfl rfl rfl rfl (fun k a b => up_ne (by omega)), ⟨rfl, fun i i0 i1 => by rw [up_at] at i1; omega⟩, q3.k rfl rfl rfl rfl rfl rfl (fun k a b => up_ne (by omega)), q4.k rfl rfl rfl (fun k a b => up_ne (by omega)), q5.k rfl rfl, q6.k rfl rfl rfl (fun k a b => up_ne (by omega))⟩
set_option maxHeartbeats 4000000 in
theorem c_X9_letter {V : Wd} {σ : St} {α : St} {c : Int} (hc : inR c) (hk : OK α) (hX : RX α σ) : Ct V yX9_letter cX9_letter 2 (some .int) 1 21 [rv V 0, iv c] σ (PI (fun r τ => r = an_letter α c ∧ RX (nx_letter α c) τ ∧ MS σ τ)) := by
  refine ct_of (by decide) (Nat.le_of_ble_eq_true rfl) (fun X G T => ?_)
  have G : Gd X V cX9_letter RX9 2 1 21 := G
  show AW X V σ 0 [] [some (rv V 0), some (iv c)]
  have hN : NetOK σ 1 := hX.1.ok hk.1
  obtain ⟨⟨e0, e1, er⟩, ⟨x1, x2⟩, xp, xl, xr, xi⟩ := id hX
  obtain ⟨⟨n1, n2, n3, n4, n5, n6⟩, u1, l1, l2, i1, s1, w1⟩ := id hk
  obtain ⟨p1, p2, p3, p4, p5, p6⟩ := id hN
  refine aw_iload_n G dX9_letter_0 rfl ?_
  refine aw_if_ge (tgt := 11) G dX9_letter_1 (by decide) (by first | omega | exact b01_R _ | exact bP_R _) (fun c1 => ?_) (fun c1 => ?_)
  · refine aw_iload_n G dX9_letter_11 rfl ?_
    refine aw_sipush G dX9_letter_12 (k := ?_)
    refine aw_icmp_gt (tgt := 30) G dX9_letter_15 (by decide) (by first | omega | exact b01_R _ | exact bP_R _) (by first | omega | exact b01_R _ | exact bP_R _) (fun c15 => ?_) (fun c15 => ?_)
    · refine aw_aload_n G dX9_letter_30 rfl ?_
      refine aw_bipush G dX9_letter_31 (k := ?_)
      refine cv_X9_77 G dX9_letter_33 (c_X9_refused (by decide)) (kk := fun r33 t33 h33 => ?_)
      obtain ⟨rfl, ee33⟩ := h33
      obtain rfl := ee33.symm
      exact aw_iret G T dX9_letter_36 (⟨by unfold an_letter; (repeat' split) <;> first | rfl | (exfalso; omega) | omega, by unfold nx_letter; (repeat' split) <;> first | exact hX | exact RX_ref hX (by decide) | (exfalso; omega), by first | exact MS.rf _ | exact (MS.rf _).up (by decide)⟩)
    · refine aw_aload_n G dX9_letter_18 rfl ?_
      refine gf_X9_49 G dX9_letter_19 (kk := ?_)
      refine gf_X9_81 G dX9_letter_22 (kk := ?_)
      refine aw_bipush G dX9_letter_25 (k := ?_)
      refine aw_icmp_lt (tgt := 37) G dX9_letter_27 (by decide) (by first | omega | exact b01_R _ | exact bP_R _) (by first | omega | exact b01_R _ | exact bP_R _) (fun c27 => ?_) (fun c27 => ?_)
      · refine aw_aload_n G dX9_letter_37 rfl ?_
        refine gf_X9_49 G dX9_letter_38 (kk := ?_)
        refine aw_iload_n G dX9_letter_41 rfl ?_
        refine cv_X9_85 G dX9_letter_42 (c_X1_add (by omega)) (kk := fun t42 h42 => ?_)
        obtain rfl := h42.symm
        refine aw_aload_n G dX9_letter_45 rfl ?_
        refine gf_X9_49 G dX9_letter_46 (kk := ?_)
        refine gf_X9_81 G dX9_letter_49 (kk := ?_)
        exact aw_iret G T dX9_letter_52 (⟨by rw [up_at]; unfold an_letter; (repeat' split) <;> first | rfl | (exfalso; omega) | omega, by unfold nx_letter; (repeat' split) <;> first | exact hX.let l1.1 | (exfalso; omega), by first | exact ((MS.rf _).up (by decide)).up (by decide)⟩)
      · refine aw_aload_n G dX9_letter_30 rfl ?_
        refine aw_bipush G dX9_letter_31 (k := ?_)
        refine cv_X9_77 G dX9_letter_33 (c_X9_refused (by decide)) (kk := fun r33 t33 h33 => ?_)
        obtain ⟨rfl, ee33⟩ := h33
        obtain rfl := ee33.symm
        exact aw_iret G T dX9_letter_36 (⟨by unfold an_letter; (repeat' split) <;> first | rfl | (exfalso; omega) | omega, by unfold nx_letter; (repeat' split) <;> first | exact hX | exact RX_ref hX (by decide) | (exfalso; omega), by first | exact MS.rf _ | exact (MS.rf _).up (by decide)⟩)
  · refine aw_aload_n G dX9_letter_4 rfl ?_
    refine aw_bipush G dX9_letter_5 (k := ?_)
    refine cv_X9_77 G dX9_letter_7 (c_X9_refused (by decide)) (kk := fun r7 t7 h7 => ?_)
    obtain ⟨rfl, ee7⟩ := h7
    obtain rfl := ee7.symm
    exact aw_iret G T dX9_letter_10 (⟨by unfold an_letter; (repeat' split) <;> first | rfl | (exfalso; omega) | omega, by unfold nx_letter; (repeat' split) <;> first | exact hX | exact RX_ref hX (by decide) | (exfalso; omega), by first | exact MS.rf _ | exact (MS.rf _).up (by decide)⟩)
set_option maxHeartbeats 4000000 in
theorem c_X9_points {V : Wd} {σ : St} {α : St} {n : Int} (hc : inR n) (hk : OK α) (hX : RX α σ) : Ct V yX9_points cX9_points 3 (some .int) 1 21 [rv V 0, iv n] σ (PI (fun r τ => r = an_points α n ∧ RX (nx_points α n) τ ∧ MS σ τ)) := by
  refine ct_of (by decide) (Nat.le_of_ble_eq_true rfl) (fun X G T => ?_)
  have G : Gd X V cX9_points RX9 3 1 21 := G
  show AW X V σ 0 [] [some (rv V 0), some (iv n), none]
  have hN : NetOK σ 1 := hX.1.ok hk.1
  obtain ⟨⟨e0, e1, er⟩, ⟨x1, x2⟩, xp, xl, xr, xi⟩ := id hX
  obtain ⟨⟨n1, n2, n3, n4, n5, n6⟩, u1, l1, l2, i1, s1, w1⟩ := id hk
  obtain ⟨p1, p2, p3, p4, p5, p6⟩ := id hN
  refine aw_iload_n G dX9_points_0 rfl ?_
  refine aw_iconst G dX9_points_1 ?_
  refine aw_icmp_ge (tgt := 12) G dX9_points_2 (by decide) (by first | omega | exact b01_R _ | exact bP_R _) (by first | omega | exact b01_R _ | exact bP_R _) (fun c2 => ?_) (fun c2 => ?_)
  · refine aw_iload_n G dX9_points_12 rfl ?_
    refine aw_bipush G dX9_points_13 (k := ?_)
    refine aw_icmp_le (tgt := 25) G dX9_points_15 (by decide) (by first | omega | exact b01_R _ | exact bP_R _) (by first | omega | exact b01_R _ | exact bP_R _) (fun c15 => ?_) (fun c15 => ?_)
    · refine aw_aload_n G dX9_points_25 rfl ?_
      refine gf_X9_10 G dX9_points_26 (kk := ?_)
      refine gf_X9_96 G dX9_points_29 (kk := ?_)
      refine aw_istore_2 G dX9_points_32 (hc := by first | rfl | assumption) (k := ?_)
      refine aw_aload_n G dX9_points_33 rfl ?_
      refine gf_X9_10 G dX9_points_34 (kk := ?_)
      refine aw_iload_n G dX9_points_37 rfl ?_
      refine cv_X9_99 G dX9_points_38 (c_X3_restart (by first | exact isNet_1 | exact isNet_13)) (kk := fun t38 h38 => ?_)
      obtain rfl := h38.symm
      refine aw_aload_n G dX9_points_41 rfl ?_
      refine gf_X9_26 G dX9_points_42 (kk := ?_)
      refine cv_X9_93 G dX9_points_45 (c_X4_forget) (kk := fun t45 h45 => ?_)
      obtain rfl := h45.symm
      refine aw_iload_n G dX9_points_48 rfl ?_
      exact aw_iret G T dX9_points_49 (⟨by unfold an_points; (repeat' split) <;> first | rfl | (exfalso; omega) | omega, by unfold nx_points; (repeat' split) <;> first | exact ((hX.num (Or.inl rfl)).num (Or.inr rfl)).forget | (exfalso; omega), (((MS.rf _).up (by decide)).up (by decide)).up (by decide)⟩)
    · refine aw_aload_n G dX9_points_18 rfl ?_
      refine aw_bipush G dX9_points_19 (k := ?_)
      refine cv_X9_77 G dX9_points_21 (c_X9_refused (by decide)) (kk := fun r21 t21 h21 => ?_)
      obtain ⟨rfl, ee21⟩ := h21
      obtain rfl := ee21.symm
      exact aw_iret G T dX9_points_24 (⟨by unfold an_points; (repeat' split) <;> first | rfl | (exfalso; omega) | omega, by unfold nx_points; (repeat' split) <;> first | exact hX | exact RX_ref hX (by decide) | (exfalso; omega), by first | exact MS.rf _ | exact (MS.rf _).up (by decide)⟩)
  · refine aw_aload_n G dX9_points_5 rfl ?_
    refine aw_bipush G dX9_points_6 (k := ?_)
    refine cv_X9_77 G dX9_points_8 (c_X9_refused (by decide)) (kk := fun r8 t8 h8 => ?_)
    obtain ⟨rfl, ee8⟩ := h8
    obtain rfl := ee8.symm
    exact aw_iret G T dX9_points_11 (⟨by unfold an_points; (repeat' split) <;> first | rfl | (exfalso; omega) | omega, by unfold nx_points; (repeat' split) <;> first | exact hX | exact RX_ref hX (by decide) | (exfalso; omega), by first | exact MS.rf _ | exact (MS.rf _).up (by decide)⟩)
set_option maxHeartbeats 4000000 in
theorem c_X9_line {V : Wd} {σ : St} {α : St} {a p q : Int} (h1 : inR a) (h2 : inR p) (h3 : inR q) (hk : OK α) (hX : RX α σ) : Ct V yX9_line cX9_line 4 (some .int) 1 23 [rv V 0, iv a, iv p, iv q] σ (PI (fun r τ => r = an_line α a p q ∧ RX (nx_line α a p q) τ ∧ MS σ τ)) := by
  refine ct_of (by decide) (Nat.le_of_ble_eq_true rfl) (fun X G T => ?_)
  have G : Gd X V cX9_line RX9 4 1 23 := G
  show AW X V σ 0 [] [some (rv V 0), some (iv a), some (iv p), some (iv q)]
  have hN : NetOK σ 1 := hX.1.ok hk.1
  obtain ⟨⟨e0, e1, er⟩, ⟨x1, x2⟩, xp, xl, xr, xi⟩ := id hX
  obtain ⟨⟨n1, n2, n3, n4, n5, n6⟩, u1, l1, l2, i1, s1, w1⟩ := id hk
  obtain ⟨p1, p2, p3, p4, p5, p6⟩ := id hN
  refine aw_iload_n G dX9_line_0 rfl ?_
  refine cs_X9_102 G dX9_line_1 (c_X9_isKind (by first | assumption | omega)) (kk := fun r1 t1 h1 => ?_)
  obtain ⟨rfl, ee1⟩ := h1
  obtain rfl := ee1.symm
  refine aw_if_ne (tgt := 14) G dX9_line_4 (by decide) (by first | omega | exact b01_R _ | exact bP_R _) (fun c4 => ?_) (fun c4 => ?_)
  · try simp only [b01_0, b01_n, bP_0, bP_n, Classical.not_not] at c4
    refine aw_aload_n G dX9_line_14 rfl ?_
    refine gf_X9_10 G dX9_line_15 (kk := ?_)
    refine aw_iload_n G dX9_line_18 rfl ?_
    refine cv_X9_106 G dX9_line_19 (c_X3_hasPoint (by first | exact isNet_1 | exact isNet_13) (by first | assumption | omega) (by omega)) (kk := fun r19 t19 h19 => ?_)
    obtain ⟨rfl, ee19⟩ := h19
    obtain rfl := ee19.symm
    refine aw_if_eq (tgt := 36) G dX9_line_22 (by decide) (by first | omega | exact b01_R _ | exact bP_R _) (fun c22 => ?_) (fun c22 => ?_)
    · try simp only [b01_0, b01_n, bP_0, bP_n, Classical.not_not] at c22
      refine aw_aload_n G dX9_line_36 rfl ?_
      refine aw_iconst G dX9_line_37 ?_
      refine cv_X9_77 G dX9_line_38 (c_X9_refused (by decide)) (kk := fun r38 t38 h38 => ?_)
      obtain ⟨rfl, ee38⟩ := h38
      obtain rfl := ee38.symm
      exact aw_iret G T dX9_line_41 (⟨by unfold an_line; (repeat' split) <;> first | rfl | (exfalso; omega) | omega, by unfold nx_line; (repeat' split) <;> first | exact hX | exact RX_ref hX (by decide) | (exfalso; omega), by first | exact MS.rf _ | exact (MS.rf _).up (by decide)⟩)
    · try simp only [b01_0, b01_n, bP_0, bP_n, Classical.not_not] at c22
      refine aw_aload_n G dX9_line_25 rfl ?_
      refine gf_X9_10 G dX9_line_26 (kk := ?_)
      refine aw_iload_n G dX9_line_29 rfl ?_
      refine cv_X9_106 G dX9_line_30 (c_X3_hasPoint (by first | exact isNet_1 | exact isNet_13) (by first | assumption | omega) (by omega)) (kk := fun r30 t30 h30 => ?_)
      obtain ⟨rfl, ee30⟩ := h30
      obtain rfl := ee30.symm
      refine aw_if_ne (tgt := 42) G dX9_line_33 (by decide) (by first | omega | exact b01_R _ | exact bP_R _) (fun c33 => ?_) (fun c33 => ?_)
      · try simp only [b01_0, b01_n, bP_0, bP_n, Classical.not_not] at c33
        refine aw_aload_n G dX9_line_42 rfl ?_
        refine gf_X9_10 G dX9_line_43 (kk := ?_)
        refine gf_X9_109 G dX9_line_46 (kk := ?_)
        refine aw_bipush G dX9_line_49 (k := ?_)
        refine aw_icmp_lt (tgt := 61) G dX9_line_51 (by decide) (by first | omega | exact b01_R _ | exact bP_R _) (by first | omega | exact b01_R _ | exact bP_R _) (fun c51 => ?_) (fun c51 => ?_)
        · refine aw_aload_n G dX9_line_61 rfl ?_
          refine gf_X9_10 G dX9_line_62 (kk := ?_)
          refine aw_iload_n G dX9_line_65 rfl ?_
          refine aw_iload_n G dX9_line_66 rfl ?_
          refine aw_iload_n G dX9_line_67 rfl ?_
          refine cv_X9_112 G dX9_line_68 (c_X3_add (by first | exact isNet_1 | exact isNet_13) (by omega)) (kk := fun t68 h68 => ?_)
          obtain rfl := h68.symm
          refine aw_aload_n G dX9_line_71 rfl ?_
          refine gf_X9_26 G dX9_line_72 (kk := ?_)
          refine cv_X9_93 G dX9_line_75 (c_X4_forget) (kk := fun t75 h75 => ?_)
          obtain rfl := h75.symm
          refine aw_aload_n G dX9_line_78 rfl ?_
          refine gf_X9_10 G dX9_line_79 (kk := ?_)
          refine gf_X9_109 G dX9_line_82 (kk := ?_)
          refine aw_iconst G dX9_line_85 ?_
          refine aw_isub G dX9_line_86 ?_
          exact aw_iret G T dX9_line_87 (⟨by rw [up_o (by decide)]; unfold addLine; rw [up_at]; unfold an_line; (repeat' split) <;> first | rfl | (exfalso; omega) | omega, by unfold nx_line; (repeat' split) <;> first | exact hX.add.forget | (exfalso; omega), ((MS.rf _).add (by decide)).up (by decide)⟩)
        · refine aw_aload_n G dX9_line_54 rfl ?_
          refine aw_bipush G dX9_line_55 (k := ?_)
          refine cv_X9_77 G dX9_line_57 (c_X9_refused (by decide)) (kk := fun r57 t57 h57 => ?_)
          obtain ⟨rfl, ee57⟩ := h57
          obtain rfl := ee57.symm
          exact aw_iret G T dX9_line_60 (⟨by unfold an_line; (repeat' split) <;> first | rfl | (exfalso; omega) | omega, by unfold nx_line; (repeat' split) <;> first | exact hX | exact RX_ref hX (by decide) | (exfalso; omega), by first | exact MS.rf _ | exact (MS.rf _).up (by decide)⟩)
      · try simp only [b01_0, b01_n, bP_0, bP_n, Classical.not_not] at c33
        refine aw_aload_n G dX9_line_36 rfl ?_
        refine aw_iconst G dX9_line_37 ?_
        refine cv_X9_77 G dX9_line_38 (c_X9_refused (by decide)) (kk := fun r38 t38 h38 => ?_)
        obtain ⟨rfl, ee38⟩ := h38
        obtain rfl := ee38.symm
        exact aw_iret G T dX9_line_41 (⟨by unfold an_line; (repeat' split) <;> first | rfl | (exfalso; omega) | omega, by unfold nx_line; (repeat' split) <;> first | exact hX | exact RX_ref hX (by decide) | (exfalso; omega), by first | exact MS.rf _ | exact (MS.rf _).up (by decide)⟩)
  · try simp only [b01_0, b01_n, bP_0, bP_n, Classical.not_not] at c4
    refine aw_aload_n G dX9_line_7 rfl ?_
    refine aw_bipush G dX9_line_8 (k := ?_)
    refine cv_X9_77 G dX9_line_10 (c_X9_refused (by decide)) (kk := fun r10 t10 h10 => ?_)
    obtain ⟨rfl, ee10⟩ := h10
    obtain rfl := ee10.symm
    exact aw_iret G T dX9_line_13 (⟨by unfold an_line; (repeat' split) <;> first | rfl | (exfalso; omega) | omega, by unfold nx_line; (repeat' split) <;> first | exact hX | exact RX_ref hX (by decide) | (exfalso; omega), by first | exact MS.rf _ | exact (MS.rf _).up (by decide)⟩)
set_option maxHeartbeats 4000000 in
theorem c_X9_drop {V : Wd} {σ : St} {α : St}  (hk : OK α) (hX : RX α σ) : Ct V yX9_drop cX9_drop 1 (some .int) 1 21 [rv V 0] σ (PI (fun r τ => r = an_drop α ∧ RX (nx_drop α) τ ∧ MS σ τ)) := by
  refine ct_of (by decide) (Nat.le_of_ble_eq_true rfl) (fun X G T => ?_)
  have G : Gd X V cX9_drop RX9 1 1 21 := G
  show AW X V σ 0 [] [some (rv V 0)]
  have hN : NetOK σ 1 := hX.1.ok hk.1
  obtain ⟨⟨e0, e1, er⟩, ⟨x1, x2⟩, xp, xl, xr, xi⟩ := id hX
  obtain ⟨⟨n1, n2, n3, n4, n5, n6⟩, u1, l1, l2, i1, s1, w1⟩ := id hk
  obtain ⟨p1, p2, p3, p4, p5, p6⟩ := id hN
  refine aw_aload_n G dX9_drop_0 rfl ?_
  refine gf_X9_10 G dX9_drop_1 (kk := ?_)
  refine gf_X9_109 G dX9_drop_4 (kk := ?_)
  refine aw_iconst G dX9_drop_7 ?_
  refine aw_icmp_ge (tgt := 18) G dX9_drop_8 (by decide) (by first | omega | exact b01_R _ | exact bP_R _) (by first | omega | exact b01_R _ | exact bP_R _) (fun c8 => ?_) (fun c8 => ?_)
  · refine aw_aload_n G dX9_drop_18 rfl ?_
    refine gf_X9_10 G dX9_drop_19 (kk := ?_)
    refine aw_dup G dX9_drop_22 (k := ?_)
    refine gf_X9_109 G dX9_drop_23 (kk := ?_)
    refine aw_iconst G dX9_drop_26 ?_
    refine aw_isub G dX9_drop_27 ?_
    refine pf_X9_109 G dX9_drop_28 (kk := ?_)
    refine aw_aload_n G dX9_drop_31 rfl ?_
    refine gf_X9_26 G dX9_drop_32 (kk := ?_)
    refine cv_X9_93 G dX9_drop_35 (c_X4_forget) (kk := fun t35 h35 => ?_)
    obtain rfl := h35.symm
    refine aw_aload_n G dX9_drop_38 rfl ?_
    refine gf_X9_10 G dX9_drop_39 (kk := ?_)
    refine gf_X9_109 G dX9_drop_42 (kk := ?_)
    exact aw_iret G T dX9_drop_45 (⟨by rw [up_o (by decide), up_at]; unfold an_drop; (repeat' split) <;> first | rfl | (exfalso; omega) | omega, by unfold nx_drop; rw [e1]; (repeat' split) <;> first | exact (hX.num (Or.inr rfl)).forget | (exfalso; omega), ((MS.rf _).up (by decide)).up (by decide)⟩)
  · refine aw_aload_n G dX9_drop_11 rfl ?_
    refine aw_bipush G dX9_drop_12 (k := ?_)
    refine cv_X9_77 G dX9_drop_14 (c_X9_refused (by decide)) (kk := fun r14 t14 h14 => ?_)
    obtain ⟨rfl, ee14⟩ := h14
    obtain rfl := ee14.symm
    exact aw_iret G T dX9_drop_17 (⟨by unfold an_drop; (repeat' split) <;> first | rfl | (exfalso; omega) | omega, by unfold nx_drop; (repeat' split) <;> first | exact hX | exact RX_ref hX (by decide) | (exfalso; omega), by first | exact MS.rf _ | exact (MS.rf _).up (by decide)⟩)
set_option maxHeartbeats 4000000 in
theorem c_X9_label {V : Wd} {σ : St} {α : St} {l v : Int} (h1 : inR l) (h2 : inR v) (hk : OK α) (hX : RX α σ) : Ct V yX9_label cX9_label 4 (some .int) 2 61 [rv V 0, iv l, iv v] σ (PI (fun r τ => r = an_label α l v ∧ RX (nx_label α l v) τ ∧ MS σ τ)) := by
  refine ct_of (by decide) (Nat.le_of_ble_eq_true rfl) (fun X G T => ?_)
  have G : Gd X V cX9_label RX9 4 2 61 := G
  show AW X V σ 0 [] [some (rv V 0), some (iv l), some (iv v), none]
  have hN : NetOK σ 1 := hX.1.ok hk.1
  obtain ⟨⟨e0, e1, er⟩, ⟨x1, x2⟩, xp, xl, xr, xi⟩ := id hX
  obtain ⟨⟨n1, n2, n3, n4, n5, n6⟩, u1, l1, l2, i1, s1, w1⟩ := id hk
  obtain ⟨p1, p2, p3, p4, p5, p6⟩ := id hN
  refine aw_aload_n G dX9_label_0 rfl ?_
  refine gf_X9_10 G dX9_label_1 (kk := ?_)
  refine aw_iload_n G dX9_label_4 rfl ?_
  refine cv_X9_115 G dX9_label_5 (c_X3_hasLine (by first | exact isNet_1 | exact isNet_13) (by first | assumption | omega) (by omega)) (kk := fun r5 t5 h5 => ?_)
  obtain ⟨rfl, ee5⟩ := h5
  obtain rfl := ee5.symm
  refine aw_if_ne (tgt := 17) G dX9_label_8 (by decide) (by first | omega | exact b01_R _ | exact bP_R _) (fun c8 => ?_) (fun c8 => ?_)
  · try simp only [b01_0, b01_n, bP_0, bP_n, Classical.not_not] at c8
    refine aw_iload_n G dX9_label_17 rfl ?_
    refine aw_if_ge (tgt := 28) G dX9_label_18 (by decide) (by first | omega | exact b01_R _ | exact bP_R _) (fun c18 => ?_) (fun c18 => ?_)
    · refine aw_iload_n G dX9_label_28 rfl ?_
      refine aw_bipush G dX9_label_29 (k := ?_)
      refine aw_icmp_le (tgt := 41) G dX9_label_31 (by decide) (by first | omega | exact b01_R _ | exact bP_R _) (by first | omega | exact b01_R _ | exact bP_R _) (fun c31 => ?_) (fun c31 => ?_)
      · refine aw_aload_n G dX9_label_41 rfl ?_
        refine gf_X9_26 G dX9_label_42 (kk := ?_)
        refine aw_aload_n G dX9_label_45 rfl ?_
        refine gf_X9_10 G dX9_label_46 (kk := ?_)
        refine cv_X9_118 G dX9_label_49 (c_X4_keep ⟨xp.2.1, xp.2.2.1⟩ (by have := xp.1; omega)) (kk := fun t49 h49 => ?_)
        obtain rfl := h49.symm
        refine aw_aload_n G dX9_label_52 rfl ?_
        refine gf_X9_10 G dX9_label_53 (kk := ?_)
        refine gf_X9_121 G dX9_label_56 (kk := ?_)
        refine aw_iload_n G dX9_label_59 rfl ?_
        refine aw_iaload G dX9_label_60 (by first | decide | assumption | omega) (by first | rfl | assumption) (by first | decide | assumption) (by omega) ?_
        rw [keepS_r ⟨xp.2.1, xp.2.2.1⟩ (by decide)]
        have hz := (er l (by omega) (by omega)).2.2.2.2
        simp only [Nat.reduceAdd] at hz
        refine aw_istore_3 G dX9_label_61 (hc := by first | rfl | assumption) (k := ?_)
        refine aw_aload_n G dX9_label_62 rfl ?_
        refine gf_X9_10 G dX9_label_63 (kk := ?_)
        refine gf_X9_121 G dX9_label_66 (kk := ?_)
        refine aw_iload_n G dX9_label_69 rfl ?_
        refine aw_iload_n G dX9_label_70 rfl ?_
        refine aw_iastore G dX9_label_71 (by first | decide | assumption | omega) (by first | rfl | assumption) (by first | decide | assumption) (by omega) ?_
        refine aw_iload_n G dX9_label_72 rfl ?_
        exact aw_iret G T dX9_label_73 (⟨by unfold an_label; (repeat' split) <;> first | rfl | (exfalso; omega) | omega, by unfold nx_label; (repeat' split) <;> first | exact (hX.keep u1).row (c := 5) (by decide) | (exfalso; omega), ((MS.rf _).keep ⟨xp.2.1, xp.2.2.1⟩).up (by decide)⟩)
      · refine aw_aload_n G dX9_label_34 rfl ?_
        refine aw_bipush G dX9_label_35 (k := ?_)
        refine cv_X9_77 G dX9_label_37 (c_X9_refused (by decide)) (kk := fun r37 t37 h37 => ?_)
        obtain ⟨rfl, ee37⟩ := h37
        obtain rfl := ee37.symm
        exact aw_iret G T dX9_label_40 (⟨by unfold an_label; (repeat' split) <;> first | rfl | (exfalso; omega) | omega, by unfold nx_label; (repeat' split) <;> first | exact hX | exact RX_ref hX (by decide) | (exfalso; omega), by first | exact MS.rf _ | exact (MS.rf _).up (by decide)⟩)
    · refine aw_aload_n G dX9_label_21 rfl ?_
      refine aw_bipush G dX9_label_22 (k := ?_)
      refine cv_X9_77 G dX9_label_24 (c_X9_refused (by decide)) (kk := fun r24 t24 h24 => ?_)
      obtain ⟨rfl, ee24⟩ := h24
      obtain rfl := ee24.symm
      exact aw_iret G T dX9_label_27 (⟨by unfold an_label; (repeat' split) <;> first | rfl | (exfalso; omega) | omega, by unfold nx_label; (repeat' split) <;> first | exact hX | exact RX_ref hX (by decide) | (exfalso; omega), by first | exact MS.rf _ | exact (MS.rf _).up (by decide)⟩)
  · try simp only [b01_0, b01_n, bP_0, bP_n, Classical.not_not] at c8
    refine aw_aload_n G dX9_label_11 rfl ?_
    refine aw_iconst G dX9_label_12 ?_
    refine cv_X9_77 G dX9_label_13 (c_X9_refused (by decide)) (kk := fun r13 t13 h13 => ?_)
    obtain ⟨rfl, ee13⟩ := h13
    obtain rfl := ee13.symm
    exact aw_iret G T dX9_label_16 (⟨by unfold an_label; (repeat' split) <;> first | rfl | (exfalso; omega) | omega, by unfold nx_label; (repeat' split) <;> first | exact hX | exact RX_ref hX (by decide) | (exfalso; omega), by first | exact MS.rf _ | exact (MS.rf _).up (by decide)⟩)
set_option maxHeartbeats 4000000 in
theorem c_X9_turn {V : Wd} {σ : St} {α : St} {l a f : Int} (h1 : inR l) (h2 : inR a) (h3 : inR f) (hk : OK α) (hX : RX α σ) : Ct V yX9_turn cX9_turn 5 (some .int) 2 61 [rv V 0, iv l, iv a, iv f] σ (PI (fun r τ => r = an_turn α l a f ∧ RX (nx_turn α l a f) τ ∧ MS σ τ)) := by
  refine ct_of (by decide) (Nat.le_of_ble_eq_true rfl) (fun X G T => ?_)
  have G : Gd X V cX9_turn RX9 5 2 61 := G
  show AW X V σ 0 [] [some (rv V 0), some (iv l), some (iv a), some (iv f), none]
  have hN : NetOK σ 1 := hX.1.ok hk.1
  obtain ⟨⟨e0, e1, er⟩, ⟨x1, x2⟩, xp, xl, xr, xi⟩ := id hX
  obtain ⟨⟨n1, n2, n3, n4, n5, n6⟩, u1, l1, l2, i1, s1, w1⟩ := id hk
  obtain ⟨p1, p2, p3, p4, p5, p6⟩ := id hN
  refine aw_aload_n G dX9_turn_0 rfl ?_
  refine gf_X9_10 G dX9_turn_1 (kk := ?_)
  refine aw_iload_n G dX9_turn_4 rfl ?_
  refine cv_X9_115 G dX9_turn_5 (c_X3_hasLine (by first | exact isNet_1 | exact isNet_13) (by first | assumption | omega) (by omega)) (kk := fun r5 t5 h5 => ?_)
  obtain ⟨rfl, ee5⟩ := h5
  obtain rfl := ee5.symm
  refine aw_if_ne (tgt := 17) G dX9_turn_8 (by decide) (by first | omega | exact b01_R _ | exact bP_R _) (fun c8 => ?_) (fun c8 => ?_)
  · try simp only [b01_0, b01_n, bP_0, bP_n, Classical.not_not] at c8
    refine aw_iload_n G dX9_turn_17 rfl ?_
    refine cs_X9_102 G dX9_turn_18 (c_X9_isKind (by first | assumption | omega)) (kk := fun r18 t18 h18 => ?_)
    obtain ⟨rfl, ee18⟩ := h18
    obtain rfl := ee18.symm
    refine aw_if_ne (tgt := 31) G dX9_turn_21 (by decide) (by first | omega | exact b01_R _ | exact bP_R _) (fun c21 => ?_) (fun c21 => ?_)
    · try simp only [b01_0, b01_n, bP_0, bP_n, Classical.not_not] at c21
      refine aw_iload_n G dX9_turn_31 rfl ?_
      refine aw_if_ge (tgt := 42) G dX9_turn_32 (by decide) (by first | omega | exact b01_R _ | exact bP_R _) (fun c32 => ?_) (fun c32 => ?_)
      · refine aw_iload_n G dX9_turn_42 rfl ?_
        refine aw_bipush G dX9_turn_43 (k := ?_)
        refine aw_icmp_le (tgt := 55) G dX9_turn_45 (by decide) (by first | omega | exact b01_R _ | exact bP_R _) (by first | omega | exact b01_R _ | exact bP_R _) (fun c45 => ?_) (fun c45 => ?_)
        · refine aw_aload_n G dX9_turn_55 rfl ?_
          refine gf_X9_26 G dX9_turn_56 (kk := ?_)
          refine aw_aload_n G dX9_turn_59 rfl ?_
          refine gf_X9_10 G dX9_turn_60 (kk := ?_)
          refine cv_X9_118 G dX9_turn_63 (c_X4_keep ⟨xp.2.1, xp.2.2.1⟩ (by have := xp.1; omega)) (kk := fun t63 h63 => ?_)
          obtain rfl := h63.symm
          refine aw_bipush G dX9_turn_66 (k := ?_)
          refine aw_aload_n G dX9_turn_68 rfl ?_
          refine gf_X9_10 G dX9_turn_69 (kk := ?_)
          refine gf_X9_124 G dX9_turn_72 (kk := ?_)
          refine aw_iload_n G dX9_turn_75 rfl ?_
          refine aw_iaload G dX9_turn_76 (by first | decide | assumption | omega) (by first | rfl | assumption) (by first | decide | assumption) (by omega) ?_
          rw [keepS_r ⟨xp.2.1, xp.2.2.1⟩ (by decide)]
          have hz := er l (by omega) (by omega)
          simp only [Nat.reduceAdd] at hz
          refine aw_imul G dX9_turn_77 ?_
          refine aw_aload_n G dX9_turn_78 rfl ?_
          refine gf_X9_10 G dX9_turn_79 (kk := ?_)
          refine gf_X9_127 G dX9_turn_82 (kk := ?_)
          refine aw_iload_n G dX9_turn_85 rfl ?_
          refine aw_iaload G dX9_turn_86 (by first | decide | assumption | omega) (by first | rfl | assumption) (by first | decide | assumption) (by omega) ?_
          rw [keepS_r ⟨xp.2.1, xp.2.2.1⟩ (by decide)]
          refine aw_iadd G dX9_turn_87 ?_
          refine aw_istore_4 G dX9_turn_88 (hc := by first | rfl | assumption) (k := ?_)
          refine aw_aload_n G dX9_turn_90 rfl ?_
          refine gf_X9_10 G dX9_turn_91 (kk := ?_)
          refine gf_X9_124 G dX9_turn_94 (kk := ?_)
          refine aw_iload_n G dX9_turn_97 rfl ?_
          refine aw_iload_n G dX9_turn_98 rfl ?_
          refine aw_iastore G dX9_turn_99 (by first | decide | assumption | omega) (by first | rfl | assumption) (by first | decide | assumption) (by omega) ?_
          refine aw_aload_n G dX9_turn_100 rfl ?_
          refine gf_X9_10 G dX9_turn_101 (kk := ?_)
          refine gf_X9_127 G dX9_turn_104 (kk := ?_)
          refine aw_iload_n G dX9_turn_107 rfl ?_
          refine aw_iload_n G dX9_turn_108 rfl ?_
          refine aw_iastore G dX9_turn_109 (by first | decide | assumption | omega) (by first | rfl | assumption) (by first | decide | assumption) (by omega) ?_
          refine aw_iload G dX9_turn_110 rfl ?_
          exact aw_iret G T dX9_turn_112 (⟨by unfold an_turn; (repeat' split) <;> first | rfl | (exfalso; omega) | omega, by unfold nx_turn; (repeat' split) <;> first | exact ((hX.keep u1).row (c := 1) (by decide)).row (c := 2) (by decide) | (exfalso; omega), (((MS.rf _).keep ⟨xp.2.1, xp.2.2.1⟩).up (by decide)).up (by decide)⟩)
        · refine aw_aload_n G dX9_turn_48 rfl ?_
          refine aw_bipush G dX9_turn_49 (k := ?_)
          refine cv_X9_77 G dX9_turn_51 (c_X9_refused (by decide)) (kk := fun r51 t51 h51 => ?_)
          obtain ⟨rfl, ee51⟩ := h51
          obtain rfl := ee51.symm
          exact aw_iret G T dX9_turn_54 (⟨by unfold an_turn; (repeat' split) <;> first | rfl | (exfalso; omega) | omega, by unfold nx_turn; (repeat' split) <;> first | exact hX | exact RX_ref hX (by decide) | (exfalso; omega), by first | exact MS.rf _ | exact (MS.rf _).up (by decide)⟩)
      · refine aw_aload_n G dX9_turn_35 rfl ?_
        refine aw_bipush G dX9_turn_36 (k := ?_)
        refine cv_X9_77 G dX9_turn_38 (c_X9_refused (by decide)) (kk := fun r38 t38 h38 => ?_)
        obtain ⟨rfl, ee38⟩ := h38
        obtain rfl := ee38.symm
        exact aw_iret G T dX9_turn_41 (⟨by unfold an_turn; (repeat' split) <;> first | rfl | (exfalso; omega) | omega, by unfold nx_turn; (repeat' split) <;> first | exact hX | exact RX_ref hX (by decide) | (exfalso; omega), by first | exact MS.rf _ | exact (MS.rf _).up (by decide)⟩)
    · try simp only [b01_0, b01_n, bP_0, bP_n, Classical.not_not] at c21
      refine aw_aload_n G dX9_turn_24 rfl ?_
      refine aw_bipush G dX9_turn_25 (k := ?_)
      refine cv_X9_77 G dX9_turn_27 (c_X9_refused (by decide)) (kk := fun r27 t27 h27 => ?_)
      obtain ⟨rfl, ee27⟩ := h27
      obtain rfl := ee27.symm
      exact aw_iret G T dX9_turn_30 (⟨by unfold an_turn; (repeat' split) <;> first | rfl | (exfalso; omega) | omega, by unfold nx_turn; (repeat' split) <;> first | exact hX | exact RX_ref hX (by decide) | (exfalso; omega), by first | exact MS.rf _ | exact (MS.rf _).up (by decide)⟩)
  · try simp only [b01_0, b01_n, bP_0, bP_n, Classical.not_not] at c8
    refine aw_aload_n G dX9_turn_11 rfl ?_
    refine aw_iconst G dX9_turn_12 ?_
    refine cv_X9_77 G dX9_turn_13 (c_X9_refused (by decide)) (kk := fun r13 t13 h13 => ?_)
    obtain ⟨rfl, ee13⟩ := h13
    obtain rfl := ee13.symm
    exact aw_iret G T dX9_turn_16 (⟨by unfold an_turn; (repeat' split) <;> first | rfl | (exfalso; omega) | omega, by unfold nx_turn; (repeat' split) <;> first | exact hX | exact RX_ref hX (by decide) | (exfalso; omega), by first | exact MS.rf _ | exact (MS.rf _).up (by decide)⟩)
set_option maxHeartbeats 4000000 in
theorem c_X9_of {V : Wd} {σ : St} {α : St} {l v : Int} (h1 : inR l) (h2 : inR v) (hk : OK α) (hX : RX α σ) : Ct V yX9_of cX9_of 3 (some .int) 2 42 [rv V 0, iv l, iv v] σ (PI (fun r τ => r = an_of α l v ∧ RX (nx_of α l v) τ ∧ MS σ τ)) := by
  refine ct_of (by decide) (Nat.le_of_ble_eq_true rfl) (fun X G T => ?_)
  have G : Gd X V cX9_of RX9 3 2 42 := G
  show AW X V σ 0 [] [some (rv V 0), some (iv l), some (iv v)]
  have hN : NetOK σ 1 := hX.1.ok hk.1
  obtain ⟨⟨e0, e1, er⟩, ⟨x1, x2⟩, xp, xl, xr, xi⟩ := id hX
  obtain ⟨⟨n1, n2, n3, n4, n5, n6⟩, u1, l1, l2, i1, s1, w1⟩ := id hk
  obtain ⟨p1, p2, p3, p4, p5, p6⟩ := id hN
  refine aw_aload_n G dX9_of_0 rfl ?_
  refine gf_X9_10 G dX9_of_1 (kk := ?_)
  refine aw_iload_n G dX9_of_4 rfl ?_
  refine cv_X9_115 G dX9_of_5 (c_X3_hasLine (by first | exact isNet_1 | exact isNet_13) (by first | assumption | omega) (by omega)) (kk := fun r5 t5 h5 => ?_)
  obtain ⟨rfl, ee5⟩ := h5
  obtain rfl := ee5.symm
  refine aw_if_ne (tgt := 17) G dX9_of_8 (by decide) (by first | omega | exact b01_R _ | exact bP_R _) (fun c8 => ?_) (fun c8 => ?_)
  · try simp only [b01_0, b01_n, bP_0, bP_n, Classical.not_not] at c8
    have hz := er l (by omega) (by omega)
    simp only [Nat.reduceAdd] at hz
    refine aw_iload_n G dX9_of_17 rfl ?_
    by_cases s18_0 : v = 0
    · refine aw_tswIn (off := 42) (tgt := 60) G dX9_of_18 (by first | omega | exact b01_R _ | exact bP_R _) (by omega) (by omega) (by rw [s18_0]; rfl) (by decide) ?_
      refine aw_aload_n G dX9_of_60 rfl ?_
      refine gf_X9_10 G dX9_of_61 (kk := ?_)
      refine gf_X9_124 G dX9_of_64 (kk := ?_)
      refine aw_iload_n G dX9_of_67 rfl ?_
      refine aw_iaload G dX9_of_68 (by first | decide | assumption | omega) (by first | rfl | assumption) (by first | decide | assumption) (by omega) ?_
      exact aw_iret G T dX9_of_69 (⟨by unfold an_of; (repeat' split) <;> first | rfl | (exfalso; omega) | omega, by unfold nx_of; (repeat' split) <;> first | exact hX | exact RX_ref hX (by decide) | (exfalso; omega), by first | exact MS.rf _ | exact (MS.rf _).up (by decide)⟩)
    by_cases s18_1 : v = 1
    · refine aw_tswIn (off := 52) (tgt := 70) G dX9_of_18 (by first | omega | exact b01_R _ | exact bP_R _) (by omega) (by omega) (by rw [s18_1]; rfl) (by decide) ?_
      refine aw_aload_n G dX9_of_70 rfl ?_
      refine gf_X9_10 G dX9_of_71 (kk := ?_)
      refine gf_X9_127 G dX9_of_74 (kk := ?_)
      refine aw_iload_n G dX9_of_77 rfl ?_
      refine aw_iaload G dX9_of_78 (by first | decide | assumption | omega) (by first | rfl | assumption) (by first | decide | assumption) (by omega) ?_
      exact aw_iret G T dX9_of_79 (⟨by unfold an_of; (repeat' split) <;> first | rfl | (exfalso; omega) | omega, by unfold nx_of; (repeat' split) <;> first | exact hX | exact RX_ref hX (by decide) | (exfalso; omega), by first | exact MS.rf _ | exact (MS.rf _).up (by decide)⟩)
    by_cases s18_2 : v = 2
    · refine aw_tswIn (off := 62) (tgt := 80) G dX9_of_18 (by first | omega | exact b01_R _ | exact bP_R _) (by omega) (by omega) (by rw [s18_2]; rfl) (by decide) ?_
      refine aw_aload_n G dX9_of_80 rfl ?_
      refine gf_X9_10 G dX9_of_81 (kk := ?_)
      refine gf_X9_130 G dX9_of_84 (kk := ?_)
      refine aw_iload_n G dX9_of_87 rfl ?_
      refine aw_iaload G dX9_of_88 (by first | decide | assumption | omega) (by first | rfl | assumption) (by first | decide | assumption) (by omega) ?_
      exact aw_iret G T dX9_of_89 (⟨by unfold an_of; (repeat' split) <;> first | rfl | (exfalso; omega) | omega, by unfold nx_of; (repeat' split) <;> first | exact hX | exact RX_ref hX (by decide) | (exfalso; omega), by first | exact MS.rf _ | exact (MS.rf _).up (by decide)⟩)
    by_cases s18_3 : v = 3
    · refine aw_tswIn (off := 72) (tgt := 90) G dX9_of_18 (by first | omega | exact b01_R _ | exact bP_R _) (by omega) (by omega) (by rw [s18_3]; rfl) (by decide) ?_
      refine aw_aload_n G dX9_of_90 rfl ?_
      refine gf_X9_10 G dX9_of_91 (kk := ?_)
      refine gf_X9_133 G dX9_of_94 (kk := ?_)
      refine aw_iload_n G dX9_of_97 rfl ?_
      refine aw_iaload G dX9_of_98 (by first | decide | assumption | omega) (by first | rfl | assumption) (by first | decide | assumption) (by omega) ?_
      exact aw_iret G T dX9_of_99 (⟨by unfold an_of; (repeat' split) <;> first | rfl | (exfalso; omega) | omega, by unfold nx_of; (repeat' split) <;> first | exact hX | exact RX_ref hX (by decide) | (exfalso; omega), by first | exact MS.rf _ | exact (MS.rf _).up (by decide)⟩)
    by_cases s18_4 : v = 4
    · refine aw_tswIn (off := 82) (tgt := 100) G dX9_of_18 (by first | omega | exact b01_R _ | exact bP_R _) (by omega) (by omega) (by rw [s18_4]; rfl) (by decide) ?_
      refine aw_aload_n G dX9_of_100 rfl ?_
      refine gf_X9_10 G dX9_of_101 (kk := ?_)
      refine gf_X9_121 G dX9_of_104 (kk := ?_)
      refine aw_iload_n G dX9_of_107 rfl ?_
      refine aw_iaload G dX9_of_108 (by first | decide | assumption | omega) (by first | rfl | assumption) (by first | decide | assumption) (by omega) ?_
      exact aw_iret G T dX9_of_109 (⟨by unfold an_of; (repeat' split) <;> first | rfl | (exfalso; omega) | omega, by unfold nx_of; (repeat' split) <;> first | exact hX | exact RX_ref hX (by decide) | (exfalso; omega), by first | exact MS.rf _ | exact (MS.rf _).up (by decide)⟩)
    by_cases s18_5 : v = 5
    · refine aw_tswIn (off := 92) (tgt := 110) G dX9_of_18 (by first | omega | exact b01_R _ | exact bP_R _) (by omega) (by omega) (by rw [s18_5]; rfl) (by decide) ?_
      refine aw_aload_n G dX9_of_110 rfl ?_
      refine gf_X9_10 G dX9_of_111 (kk := ?_)
      refine aw_iload_n G dX9_of_114 rfl ?_
      refine cv_X9_136 G dX9_of_115 (c_X3_forth (by omega) (by assumption)) (kk := fun r115 t115 h115 => ?_)
      obtain ⟨rfl, ee115⟩ := h115
      obtain rfl := ee115.symm
      exact aw_iret G T dX9_of_118 (⟨by rw [hz.1, hz.2.1]; unfold an_of; (repeat' split) <;> first | rfl | (exfalso; omega) | omega, by unfold nx_of; (repeat' split) <;> first | exact hX | (exfalso; omega), MS.rf _⟩)
    by_cases s18_6 : v = 6
    · refine aw_tswIn (off := 101) (tgt := 119) G dX9_of_18 (by first | omega | exact b01_R _ | exact bP_R _) (by omega) (by omega) (by rw [s18_6]; rfl) (by decide) ?_
      refine aw_aload_n G dX9_of_119 rfl ?_
      refine gf_X9_10 G dX9_of_120 (kk := ?_)
      refine aw_iload_n G dX9_of_123 rfl ?_
      refine cv_X9_139 G dX9_of_124 (c_X3_back (by omega) (by assumption)) (kk := fun r124 t124 h124 => ?_)
      obtain ⟨rfl, ee124⟩ := h124
      obtain rfl := ee124.symm
      exact aw_iret G T dX9_of_127 (⟨by rw [hz.1, hz.2.1]; unfold an_of; (repeat' split) <;> first | rfl | (exfalso; omega) | omega, by unfold nx_of; (repeat' split) <;> first | exact hX | (exfalso; omega), MS.rf _⟩)
    refine aw_tswOut (tgt := 128) G dX9_of_18 (by first | omega | exact b01_R _ | exact bP_R _) (by omega) (by decide) ?_
    refine aw_aload_n G dX9_of_128 rfl ?_
    refine aw_bipush G dX9_of_129 (k := ?_)
    refine cv_X9_77 G dX9_of_131 (c_X9_refused (by decide)) (kk := fun r131 t131 h131 => ?_)
    obtain ⟨rfl, ee131⟩ := h131
    obtain rfl := ee131.symm
    exact aw_iret G T dX9_of_134 (⟨by unfold an_of; (repeat' split) <;> first | rfl | (exfalso; omega) | omega, by unfold nx_of; (repeat' split) <;> first | exact hX | exact RX_ref hX (by decide) | (exfalso; omega), by first | exact MS.rf _ | exact (MS.rf _).up (by decide)⟩)
  · try simp only [b01_0, b01_n, bP_0, bP_n, Classical.not_not] at c8
    refine aw_aload_n G dX9_of_11 rfl ?_
    refine aw_iconst G dX9_of_12 ?_
    refine cv_X9_77 G dX9_of_13 (c_X9_refused (by decide)) (kk := fun r13 t13 h13 => ?_)
    obtain ⟨rfl, ee13⟩ := h13
    obtain rfl := ee13.symm
    exact aw_iret G T dX9_of_16 (⟨by unfold an_of; (repeat' split) <;> first | rfl | (exfalso; omega) | omega, by unfold nx_of; (repeat' split) <;> first | exact hX | exact RX_ref hX (by decide) | (exfalso; omega), by first | exact MS.rf _ | exact (MS.rf _).up (by decide)⟩)
theorem upF_is {k u : Int} (hk : 0 ≤ k ∧ k ≤ 5) (hu : 0 ≤ u ∧ u ≤ 5) : upF 6 k u ↔ u = 0 ∨ k = u ∨ u = 1 ∧ k = 3 ∨ u = 2 ∧ k = 4 := by
  rcases (show k = 0 ∨ k = 1 ∨ k = 2 ∨ k = 3 ∨ k = 4 ∨ k = 5 by omega) with rfl | rfl | rfl | rfl | rfl | rfl <;> simp [upF, aboveK] <;> omega
set_option maxHeartbeats 4000000 in
theorem c_X9_taken {V : Wd} {σ : St} {α : St} {l v : Int} (h1 : inR l) (h2 : inR v) (hk : OK α) (hX : RX α σ) : Ct V yX9_taken cX9_taken 4 (some .int) 2 43 [rv V 0, iv l, iv v] σ (PI (fun r τ => r = an_taken α l v ∧ RX (nx_taken α l v) τ ∧ MS σ τ)) := by
  refine ct_of (by decide) (Nat.le_of_ble_eq_true rfl) (fun X G T => ?_)
  have G : Gd X V cX9_taken RX9 4 2 43 := G
  show AW X V σ 0 [] [some (rv V 0), some (iv l), some (iv v), none]
  have hN : NetOK σ 1 := hX.1.ok hk.1
  obtain ⟨⟨e0, e1, er⟩, ⟨x1, x2⟩, xp, xl, xr, xi⟩ := id hX
  obtain ⟨⟨n1, n2, n3, n4, n5, n6⟩, u1, l1, l2, i1, s1, w1⟩ := id hk
  obtain ⟨p1, p2, p3, p4, p5, p6⟩ := id hN
  refine aw_aload_n G dX9_taken_0 rfl ?_
  refine gf_X9_10 G dX9_taken_1 (kk := ?_)
  refine aw_iload_n G dX9_taken_4 rfl ?_
  refine cv_X9_115 G dX9_taken_5 (c_X3_hasLine (by first | exact isNet_1 | exact isNet_13) (by first | assumption | omega) (by omega)) (kk := fun r5 t5 h5 => ?_)
  obtain ⟨rfl, ee5⟩ := h5
  obtain rfl := ee5.symm
  refine aw_if_ne (tgt := 17) G dX9_taken_8 (by decide) (by first | omega | exact b01_R _ | exact bP_R _) (fun c8 => ?_) (fun c8 => ?_)
  · try simp only [b01_0, b01_n, bP_0, bP_n, Classical.not_not] at c8
    refine aw_iload_n G dX9_taken_17 rfl ?_
    refine cs_X9_102 G dX9_taken_18 (c_X9_isKind (by first | assumption | omega)) (kk := fun r18 t18 h18 => ?_)
    obtain ⟨rfl, ee18⟩ := h18
    obtain rfl := ee18.symm
    refine aw_if_ne (tgt := 31) G dX9_taken_21 (by decide) (by first | omega | exact b01_R _ | exact bP_R _) (fun c21 => ?_) (fun c21 => ?_)
    · try simp only [b01_0, b01_n, bP_0, bP_n, Classical.not_not] at c21
      have hz := er l (by omega) (by omega)
      simp only [Nat.reduceAdd] at hz
      have hy := n5 l (by omega) (by omega)
      simp only [Nat.reduceAdd] at hy
      refine aw_aload_n G dX9_taken_31 rfl ?_
      refine gf_X9_10 G dX9_taken_32 (kk := ?_)
      refine gf_X9_124 G dX9_taken_35 (kk := ?_)
      refine aw_iload_n G dX9_taken_38 rfl ?_
      refine aw_iaload G dX9_taken_39 (by first | decide | assumption | omega) (by first | rfl | assumption) (by first | decide | assumption) (by omega) ?_
      refine aw_istore_3 G dX9_taken_40 (hc := by first | rfl | assumption) (k := ?_)
      refine aw_iload_n G dX9_taken_41 rfl ?_
      refine aw_iload_n G dX9_taken_42 rfl ?_
      refine cs_X9_142 G dX9_taken_43 (c_X0_isUnder (by omega) (by omega)) (kk := fun r43 t43 h43 => ?_)
      obtain ⟨rfl, ee43⟩ := h43
      obtain rfl := ee43.symm
      refine aw_if_eq (tgt := 53) G dX9_taken_46 (by decide) (bP_R _) (fun c46 => ?_) (fun c46 => ?_)
      · try simp only [b01_0, b01_n, bP_0, bP_n, Classical.not_not] at c46
        refine aw_bipush G dX9_taken_53 (k := ?_)
        exact aw_iret G T dX9_taken_55 (⟨by rw [upF_is (by omega) (by omega), hz.1] at c46; unfold an_taken; (repeat' split) <;> first | rfl | (exfalso; omega) | omega, by unfold nx_taken; (repeat' split) <;> first | exact hX | (exfalso; omega), MS.rf _⟩)
      · try simp only [b01_0, b01_n, bP_0, bP_n, Classical.not_not] at c46
        refine aw_iload_n G dX9_taken_49 rfl ?_
        refine aw_goto (tgt := 55) G dX9_taken_50 (by decide) ?_
        exact aw_iret G T dX9_taken_55 (⟨by rw [upF_is (by omega) (by omega), hz.1] at c46; unfold an_taken; (repeat' split) <;> first | rfl | (exfalso; omega) | omega, by unfold nx_taken; (repeat' split) <;> first | exact hX | (exfalso; omega), MS.rf _⟩)
    · try simp only [b01_0, b01_n, bP_0, bP_n, Classical.not_not] at c21
      refine aw_aload_n G dX9_taken_24 rfl ?_
      refine aw_bipush G dX9_taken_25 (k := ?_)
      refine cv_X9_77 G dX9_taken_27 (c_X9_refused (by decide)) (kk := fun r27 t27 h27 => ?_)
      obtain ⟨rfl, ee27⟩ := h27
      obtain rfl := ee27.symm
      exact aw_iret G T dX9_taken_30 (⟨by unfold an_taken; (repeat' split) <;> first | rfl | (exfalso; omega) | omega, by unfold nx_taken; (repeat' split) <;> first | exact hX | exact RX_ref hX (by decide) | (exfalso; omega), by first | exact MS.rf _ | exact (MS.rf _).up (by decide)⟩)
  · try simp only [b01_0, b01_n, bP_0, bP_n, Classical.not_not] at c8
    refine aw_aload_n G dX9_taken_11 rfl ?_
    refine aw_iconst G dX9_taken_12 ?_
    refine cv_X9_77 G dX9_taken_13 (c_X9_refused (by decide)) (kk := fun r13 t13 h13 => ?_)
    obtain ⟨rfl, ee13⟩ := h13
    obtain rfl := ee13.symm
    exact aw_iret G T dX9_taken_16 (⟨by unfold an_taken; (repeat' split) <;> first | rfl | (exfalso; omega) | omega, by unfold nx_taken; (repeat' split) <;> first | exact hX | exact RX_ref hX (by decide) | (exfalso; omega), by first | exact MS.rf _ | exact (MS.rf _).up (by decide)⟩)
set_option maxHeartbeats 4000000 in
theorem c_X9_table {V : Wd} {σ : St} {α : St} {p l : Int} (h1 : inR p) (h2 : inR l) (hk : OK α) (hX : RX α σ) : Ct V yX9_table cX9_table 3 (some .int) 3 66 [rv V 0, iv p, iv l] σ (PI (fun r τ => r = an_table α p l ∧ RX (nx_table α p l) τ ∧ MS σ τ)) := by
  refine ct_of (by decide) (Nat.le_of_ble_eq_true rfl) (fun X G T => ?_)
  have G : Gd X V cX9_table RX9 3 3 66 := G
  show AW X V σ 0 [] [some (rv V 0), some (iv p), some (iv l)]
  have hN : NetOK σ 1 := hX.1.ok hk.1
  obtain ⟨⟨e0, e1, er⟩, ⟨x1, x2⟩, xp, xl, xr, xi⟩ := id hX
  obtain ⟨⟨n1, n2, n3, n4, n5, n6⟩, u1, l1, l2, i1, s1, w1⟩ := id hk
  obtain ⟨p1, p2, p3, p4, p5, p6⟩ := id hN
  refine aw_aload_n G dX9_table_0 rfl ?_
  refine gf_X9_10 G dX9_table_1 (kk := ?_)
  refine aw_iload_n G dX9_table_4 rfl ?_
  refine cv_X9_106 G dX9_table_5 (c_X3_hasPoint (by first | exact isNet_1 | exact isNet_13) (by first | assumption | omega) (by omega)) (kk := fun r5 t5 h5 => ?_)
  obtain ⟨rfl, ee5⟩ := h5
  obtain rfl := ee5.symm
  refine aw_if_eq (tgt := 22) G dX9_table_8 (by decide) (by first | omega | exact b01_R _ | exact bP_R _) (fun c8 => ?_) (fun c8 => ?_)
  · try simp only [b01_0, b01_n, bP_0, bP_n, Classical.not_not] at c8
    refine aw_aload_n G dX9_table_22 rfl ?_
    refine aw_iconst G dX9_table_23 ?_
    refine cv_X9_77 G dX9_table_24 (c_X9_refused (by decide)) (kk := fun r24 t24 h24 => ?_)
    obtain ⟨rfl, ee24⟩ := h24
    obtain rfl := ee24.symm
    exact aw_iret G T dX9_table_27 (⟨by unfold an_table; (repeat' split) <;> first | rfl | (exfalso; omega) | omega, by unfold nx_table; (repeat' split) <;> first | exact hX | exact RX_ref hX (by decide) | (exfalso; omega), by first | exact MS.rf _ | exact (MS.rf _).up (by decide)⟩)
  · try simp only [b01_0, b01_n, bP_0, bP_n, Classical.not_not] at c8
    refine aw_aload_n G dX9_table_11 rfl ?_
    refine gf_X9_10 G dX9_table_12 (kk := ?_)
    refine aw_iload_n G dX9_table_15 rfl ?_
    refine cv_X9_115 G dX9_table_16 (c_X3_hasLine (by first | exact isNet_1 | exact isNet_13) (by first | assumption | omega) (by omega)) (kk := fun r16 t16 h16 => ?_)
    obtain ⟨rfl, ee16⟩ := h16
    obtain rfl := ee16.symm
    refine aw_if_ne (tgt := 28) G dX9_table_19 (by decide) (by first | omega | exact b01_R _ | exact bP_R _) (fun c19 => ?_) (fun c19 => ?_)
    · try simp only [b01_0, b01_n, bP_0, bP_n, Classical.not_not] at c19
      refine aw_aload_n G dX9_table_28 rfl ?_
      refine gf_X9_10 G dX9_table_29 (kk := ?_)
      refine aw_iload_n G dX9_table_32 rfl ?_
      refine aw_iload_n G dX9_table_33 rfl ?_
      refine cv_X9_148 G dX9_table_34 (c_X3_weight (by first | assumption | omega) (by omega) (by assumption)) (kk := fun r34 t34 h34 => ?_)
      obtain ⟨rfl, ee34⟩ := h34
      obtain rfl := ee34.symm
      exact aw_iret G T dX9_table_37 (⟨by rw [NetEq.w ⟨e0, e1, er⟩ (by omega)]; unfold an_table; (repeat' split) <;> first | rfl | (exfalso; omega) | omega, by unfold nx_table; (repeat' split) <;> first | exact hX | (exfalso; omega), MS.rf _⟩)
    · try simp only [b01_0, b01_n, bP_0, bP_n, Classical.not_not] at c19
      refine aw_aload_n G dX9_table_22 rfl ?_
      refine aw_iconst G dX9_table_23 ?_
      refine cv_X9_77 G dX9_table_24 (c_X9_refused (by decide)) (kk := fun r24 t24 h24 => ?_)
      obtain ⟨rfl, ee24⟩ := h24
      obtain rfl := ee24.symm
      exact aw_iret G T dX9_table_27 (⟨by unfold an_table; (repeat' split) <;> first | rfl | (exfalso; omega) | omega, by unfold nx_table; (repeat' split) <;> first | exact hX | exact RX_ref hX (by decide) | (exfalso; omega), by first | exact MS.rf _ | exact (MS.rf _).up (by decide)⟩)
set_option maxHeartbeats 4000000 in
theorem c_X9_sum {V : Wd} {σ : St} {α : St} {p : Int} (h1 : inR p) (hk : OK α) (hX : RX α σ) : Ct V yX9_sum cX9_sum 2 (some .int) 4 89 [rv V 0, iv p] σ (PI (fun r τ => r = an_sum α p ∧ RX (nx_sum α p) τ ∧ MS σ τ)) := by
  refine ct_of (by decide) (Nat.le_of_ble_eq_true rfl) (fun X G T => ?_)
  have G : Gd X V cX9_sum RX9 2 4 89 := G
  show AW X V σ 0 [] [some (rv V 0), some (iv p)]
  have hN : NetOK σ 1 := hX.1.ok hk.1
  obtain ⟨⟨e0, e1, er⟩, ⟨x1, x2⟩, xp, xl, xr, xi⟩ := id hX
  obtain ⟨⟨n1, n2, n3, n4, n5, n6⟩, u1, l1, l2, i1, s1, w1⟩ := id hk
  obtain ⟨p1, p2, p3, p4, p5, p6⟩ := id hN
  refine aw_aload_n G dX9_sum_0 rfl ?_
  refine gf_X9_10 G dX9_sum_1 (kk := ?_)
  refine aw_iload_n G dX9_sum_4 rfl ?_
  refine cv_X9_106 G dX9_sum_5 (c_X3_hasPoint (by first | exact isNet_1 | exact isNet_13) (by first | assumption | omega) (by omega)) (kk := fun r5 t5 h5 => ?_)
  obtain ⟨rfl, ee5⟩ := h5
  obtain rfl := ee5.symm
  refine aw_if_ne (tgt := 17) G dX9_sum_8 (by decide) (by first | omega | exact b01_R _ | exact bP_R _) (fun c8 => ?_) (fun c8 => ?_)
  · try simp only [b01_0, b01_n, bP_0, bP_n, Classical.not_not] at c8
    refine aw_aload_n G dX9_sum_17 rfl ?_
    refine gf_X9_10 G dX9_sum_18 (kk := ?_)
    refine aw_iload_n G dX9_sum_21 rfl ?_
    refine cv_X9_152 G dX9_sum_22 (c_X3_sumAt (by first | assumption | omega) (by omega) (by assumption)) (kk := fun r22 t22 h22 => ?_)
    obtain ⟨rfl, ee22⟩ := h22
    obtain rfl := ee22.symm
    exact aw_iret G T dX9_sum_25 (⟨by rw [NetEq.s ⟨e0, e1, er⟩ (by omega)]; unfold an_sum; (repeat' split) <;> first | rfl | (exfalso; omega) | omega, by unfold nx_sum; (repeat' split) <;> first | exact hX | (exfalso; omega), MS.rf _⟩)
  · try simp only [b01_0, b01_n, bP_0, bP_n, Classical.not_not] at c8
    refine aw_aload_n G dX9_sum_11 rfl ?_
    refine aw_iconst G dX9_sum_12 ?_
    refine cv_X9_77 G dX9_sum_13 (c_X9_refused (by decide)) (kk := fun r13 t13 h13 => ?_)
    obtain ⟨rfl, ee13⟩ := h13
    obtain rfl := ee13.symm
    exact aw_iret G T dX9_sum_16 (⟨by unfold an_sum; (repeat' split) <;> first | rfl | (exfalso; omega) | omega, by unfold nx_sum; (repeat' split) <;> first | exact hX | exact RX_ref hX (by decide) | (exfalso; omega), by first | exact MS.rf _ | exact (MS.rf _).up (by decide)⟩)
set_option maxHeartbeats 4000000 in
theorem c_X9_total {V : Wd} {σ : St} {α : St} (hk : OK α) (hX : RX α σ) : Ct V yX9_total cX9_total 1 (some .int) 5 111 [rv V 0] σ (PI (fun r τ => r = an_total α ∧ RX α τ ∧ MS σ τ)) := by
  refine ct_of (by decide) (Nat.le_of_ble_eq_true rfl) (fun X G T => ?_)
  have G : Gd X V cX9_total RX9 1 5 111 := G
  show AW X V σ 0 [] [some (rv V 0)]
  have hN : NetOK σ 1 := hX.1.ok hk.1
  obtain ⟨⟨e0, e1, er⟩, ⟨x1, x2⟩, xp, xl, xr, xi⟩ := id hX
  obtain ⟨⟨n1, n2, n3, n4, n5, n6⟩, u1, l1, l2, i1, s1, w1⟩ := id hk
  obtain ⟨p1, p2, p3, p4, p5, p6⟩ := id hN
  refine aw_aload_n G dX9_total_0 rfl ?_
  refine gf_X9_10 G dX9_total_1 (kk := ?_)
  refine aw_aload_n G dX9_total_4 rfl ?_
  refine gf_X9_71 G dX9_total_5 (kk := ?_)
  refine cv_X9_155 G dX9_total_8 (c_X3_fillSums hN) (kk := fun t8 h8 => ?_)
  obtain rfl := h8.symm
  refine aw_aload_n G dX9_total_11 rfl ?_
  refine gf_X9_71 G dX9_total_12 (kk := ?_)
  refine aw_aload_n G dX9_total_15 rfl ?_
  refine gf_X9_10 G dX9_total_16 (kk := ?_)
  refine gf_X9_96 G dX9_total_19 (kk := ?_)
  rw [fill_o (show (1:Nat) ≠ 73 by decide)]
  refine cs_X9_159 G dX9_total_22 (c_X5_together (k := 73) (N := 7) (by decide) rfl (by decide) (by omega)) (kk := fun r22 t22 h22 => ?_)
  obtain ⟨rfl, ee22⟩ := h22
  obtain rfl := ee22.symm
  exact aw_iret G T dX9_total_25 (⟨by unfold an_total; rw [← e0]; exact sumTo_c (fun i a b => by rw [fill_i ⟨a, by omega⟩, NetEq.s ⟨e0, e1, er⟩ (by omega)]), hX.fill (by decide), (MS.rf _).fill (by decide)⟩)
set_option maxHeartbeats 4000000 in
theorem c_X9_rule {V : Wd} {σ : St} {α : St} {ru : Int} (h1 : inR ru) (hk : OK α) (hX : RX α σ) : Ct V yX9_rule cX9_rule 2 (some .int) 5 111 [rv V 0, iv ru] σ (PI (fun r τ => r = an_rule α ru ∧ RX (nx_rule α ru) τ ∧ MS σ τ)) := by
  refine ct_of (by decide) (Nat.le_of_ble_eq_true rfl) (fun X G T => ?_)
  have G : Gd X V cX9_rule RX9 2 5 111 := G
  show AW X V σ 0 [] [some (rv V 0), some (iv ru)]
  have hN : NetOK σ 1 := hX.1.ok hk.1
  obtain ⟨⟨e0, e1, er⟩, ⟨x1, x2⟩, xp, xl, xr, xi⟩ := id hX
  obtain ⟨⟨n1, n2, n3, n4, n5, n6⟩, u1, l1, l2, i1, s1, w1⟩ := id hk
  obtain ⟨p1, p2, p3, p4, p5, p6⟩ := id hN
  refine aw_iload_n G dX9_rule_0 rfl ?_
  refine cs_X9_165 G dX9_rule_1 (c_X9_isRule (by first | assumption | omega)) (kk := fun r1 t1 h1 => ?_)
  obtain ⟨rfl, ee1⟩ := h1
  obtain rfl := ee1.symm
  refine aw_if_ne (tgt := 14) G dX9_rule_4 (by decide) (by first | omega | exact b01_R _ | exact bP_R _) (fun c4 => ?_) (fun c4 => ?_)
  · try simp only [b01_0, b01_n, bP_0, bP_n, Classical.not_not] at c4
    refine aw_aload_n G dX9_rule_14 rfl ?_
    refine gf_X9_10 G dX9_rule_15 (kk := ?_)
    refine aw_aload_n G dX9_rule_18 rfl ?_
    refine gf_X9_71 G dX9_rule_19 (kk := ?_)
    refine cv_X9_155 G dX9_rule_22 (c_X3_fillSums hN) (kk := fun t22 h22 => ?_)
    obtain rfl := h22.symm
    refine aw_iload_n G dX9_rule_25 rfl ?_
    refine aw_aload_n G dX9_rule_26 rfl ?_
    refine gf_X9_71 G dX9_rule_27 (kk := ?_)
    refine aw_aload_n G dX9_rule_30 rfl ?_
    refine gf_X9_10 G dX9_rule_31 (kk := ?_)
    refine gf_X9_96 G dX9_rule_34 (kk := ?_)
    rw [fill_o (show (1:Nat) ≠ 73 by decide)]
    have hC : ∀ i, 0 ≤ i → i < σ 1 0 → fill σ 73 (σ 1 0) (nsum σ 1) 73 i = nsum α 75 i := fun i a b => by rw [fill_i ⟨a, b⟩, NetEq.s ⟨e0, e1, er⟩ (by omega)]
    have hRs : ∀ i, 0 ≤ i → i < σ 1 0 → inR (fill σ 73 (σ 1 0) (nsum σ 1) 73 i) := fun i a b => by
      rw [hC i a b]
      have := nsum_R n5 ⟨n3, n4⟩ i
      omega
    refine cs_X9_168 G dX9_rule_37 (c_X5_holds (N := 7) (by decide) rfl (by decide) (by omega) hRs h1 (by omega)) (kk := fun r37 t37 h37 => ?_)
    obtain ⟨rfl, ee37⟩ := h37
    obtain rfl := ee37.symm
    refine aw_if_eq (tgt := 47) G dX9_rule_40 (by decide) (bP_R _) (fun c40 => ?_) (fun c40 => ?_)
    · try simp only [b01_0, b01_n, bP_0, bP_n, Classical.not_not] at c40
      refine aw_iconst G dX9_rule_47 ?_
      exact aw_iret G T dX9_rule_48 (⟨by rw [ruleP_c hC, e0] at c40; unfold an_rule; rw [if_pos (by omega)]; first | exact (bP_t c40).symm | exact (bP_f c40).symm, by unfold nx_rule; rw [if_pos (by omega)]; exact hX.fill (by decide), (MS.rf _).fill (by decide)⟩)
    · try simp only [b01_0, b01_n, bP_0, bP_n, Classical.not_not] at c40
      refine aw_iconst G dX9_rule_43 ?_
      refine aw_goto (tgt := 48) G dX9_rule_44 (by decide) ?_
      exact aw_iret G T dX9_rule_48 (⟨by rw [ruleP_c hC, e0] at c40; unfold an_rule; rw [if_pos (by omega)]; first | exact (bP_t c40).symm | exact (bP_f c40).symm, by unfold nx_rule; rw [if_pos (by omega)]; exact hX.fill (by decide), (MS.rf _).fill (by decide)⟩)
  · try simp only [b01_0, b01_n, bP_0, bP_n, Classical.not_not] at c4
    refine aw_aload_n G dX9_rule_7 rfl ?_
    refine aw_bipush G dX9_rule_8 (k := ?_)
    refine cv_X9_77 G dX9_rule_10 (c_X9_refused (by decide)) (kk := fun r10 t10 h10 => ?_)
    obtain ⟨rfl, ee10⟩ := h10
    obtain rfl := ee10.symm
    exact aw_iret G T dX9_rule_13 (⟨by unfold an_rule; (repeat' split) <;> first | rfl | (exfalso; omega) | omega, by unfold nx_rule; (repeat' split) <;> first | exact hX | exact RX_ref hX (by decide) | (exfalso; omega), by first | exact MS.rf _ | exact (MS.rf _).up (by decide)⟩)
set_option maxHeartbeats 4000000 in
theorem c_X9_ranked {V : Wd} {σ : St} {α : St} {a : Int} (h1 : inR a) (hk : OK α) (hX : RX α σ) : Ct V yX9_ranked cX9_ranked 3 (some .int) 5 111 [rv V 0, iv a] σ (PI (fun r τ => r = an_ranked α a ∧ RX (nx_ranked α a) τ ∧ MS σ τ)) := by
  refine ct_of (by decide) (Nat.le_of_ble_eq_true rfl) (fun X G T => ?_)
  have G : Gd X V cX9_ranked RX9 3 5 111 := G
  show AW X V σ 0 [] [some (rv V 0), some (iv a), none]
  have hN : NetOK σ 1 := hX.1.ok hk.1
  obtain ⟨⟨e0, e1, er⟩, ⟨x1, x2⟩, xp, xl, xr, xi⟩ := id hX
  obtain ⟨⟨n1, n2, n3, n4, n5, n6⟩, u1, l1, l2, i1, s1, w1⟩ := id hk
  obtain ⟨p1, p2, p3, p4, p5, p6⟩ := id hN
  have hC : ∀ i, 0 ≤ i → i < σ 1 0 → fill σ 73 (σ 1 0) (nsum σ 1) 73 i = nsum α 75 i := fun i a b => by rw [fill_i ⟨a, b⟩, NetEq.s ⟨e0, e1, er⟩ (by omega)]
  have hRs : ∀ i, 0 ≤ i → i < σ 1 0 → inR (fill σ 73 (σ 1 0) (nsum σ 1) 73 i) := fun i a b => by
    rw [hC i a b]
    have := nsum_R n5 ⟨n3, n4⟩ i
    omega
  have loop : ∀ (n0 : Nat) (i : Int), (0 ≤ a) → (0 ≤ i ∧ i ≤ σ 1 0) → (σ 1 0 < i + (n0 : Int)) → (fstP (fun p => sumTo (ahd (nsum α 75) p) (α 75 0).toNat = a) (α 75 0 - i).toNat i = fstP (fun p => sumTo (ahd (nsum α 75) p) (α 75 0).toNat = a) (α 75 0).toNat 0) → AW X V (fill σ 73 (σ 1 0) (nsum σ 1)) 24 [] [some (rv V 0), some (iv a), some (iv i)] := by
    intro n0
    induction n0 with
    | zero =>
      intro i ha h0 h3 hq
      exfalso
      omega
    | succ n0 ih =>
      intro i ha h0 h3 hq
      refine aw_iload_n G dX9_ranked_24 rfl ?_
      refine aw_aload_n G dX9_ranked_25 rfl ?_
      refine gf_X9_10 G dX9_ranked_26 (kk := ?_)
      refine gf_X9_96 G dX9_ranked_29 (kk := ?_)
      rw [fill_o (show (1:Nat) ≠ 73 by decide)]
      refine aw_icmp_ge (tgt := 62) G dX9_ranked_32 (by decide) (by first | omega | exact b01_R _ | exact bP_R _) (by first | omega | exact b01_R _ | exact bP_R _) (fun c32 => ?_) (fun c32 => ?_)
      · refine aw_bipush G dX9_ranked_62 (k := ?_)
        exact aw_iret G T dX9_ranked_64 (⟨by unfold an_ranked; rw [if_neg (by omega), ← hq, show (α 75 0 - i).toNat = 0 by omega]; rfl, by unfold nx_ranked; rw [if_neg (by omega)]; exact hX.fill (by decide), (MS.rf _).fill (by decide)⟩)
      · refine aw_iload_n G dX9_ranked_35 rfl ?_
        refine aw_aload_n G dX9_ranked_36 rfl ?_
        refine gf_X9_71 G dX9_ranked_37 (kk := ?_)
        refine aw_aload_n G dX9_ranked_40 rfl ?_
        refine gf_X9_10 G dX9_ranked_41 (kk := ?_)
        refine gf_X9_96 G dX9_ranked_44 (kk := ?_)
        rw [fill_o (show (1:Nat) ≠ 73 by decide)]
        refine cs_X9_172 G dX9_ranked_47 (c_X5_aheadOf (k := 73) (N := 7) (by decide) rfl (by decide) (by omega) hRs (by omega)) (kk := fun r47 t47 h47 => ?_)
        obtain ⟨rfl, ee47⟩ := h47
        obtain rfl := ee47.symm
        refine aw_iload_n G dX9_ranked_50 rfl ?_
        refine aw_icmp_ne (tgt := 56) G dX9_ranked_51 (by decide) (by have := ahd_b (fill σ 73 (σ 1 0) (nsum σ 1) 73) i (σ 1 0).toNat; omega) (by first | omega | exact b01_R _ | exact bP_R _) (fun c51 => ?_) (fun c51 => ?_)
        · refine aw_iinc_2 G dX9_ranked_56 rfl (hc := by first | rfl | assumption) (k := ?_)
          refine aw_goto (tgt := 24) G dX9_ranked_59 (by decide) ?_
          refine ih (i + 1) ha (by omega) (by omega) ?_
          rw [← hq, show (α 75 0 - i).toNat = (α 75 0 - (i + 1)).toNat + 1 by omega, fstP_f]
          rw [← e0]
          intro e
          exact c51 (by rw [← e]; exact ahd_c ⟨by omega, by omega⟩ hC)
        · refine aw_iload_n G dX9_ranked_54 rfl ?_
          exact aw_iret G T dX9_ranked_55 (⟨by unfold an_ranked; rw [if_neg (by omega), ← hq, show (α 75 0 - i).toNat = (α 75 0 - (i + 1)).toNat + 1 by omega, fstP_t]; rw [← c51, ← e0]; exact (ahd_c ⟨by omega, by omega⟩ hC).symm, by unfold nx_ranked; rw [if_neg (by omega)]; exact hX.fill (by decide), (MS.rf _).fill (by decide)⟩)
  refine aw_iload_n G dX9_ranked_0 rfl ?_
  refine aw_if_ge (tgt := 11) G dX9_ranked_1 (by decide) (by first | omega | exact b01_R _ | exact bP_R _) (fun c1 => ?_) (fun c1 => ?_)
  · refine aw_aload_n G dX9_ranked_11 rfl ?_
    refine gf_X9_10 G dX9_ranked_12 (kk := ?_)
    refine aw_aload_n G dX9_ranked_15 rfl ?_
    refine gf_X9_71 G dX9_ranked_16 (kk := ?_)
    refine cv_X9_155 G dX9_ranked_19 (c_X3_fillSums hN) (kk := fun t19 h19 => ?_)
    obtain rfl := h19.symm
    refine aw_iconst G dX9_ranked_22 ?_
    refine aw_istore_2 G dX9_ranked_23 (hc := by first | rfl | assumption) (k := ?_)
    exact loop ((σ 1 0).toNat + 1) 0 (by omega) (by omega) (by omega) (by rw [show α 75 0 - 0 = α 75 0 by omega])
  · refine aw_aload_n G dX9_ranked_4 rfl ?_
    refine aw_bipush G dX9_ranked_5 (k := ?_)
    refine cv_X9_77 G dX9_ranked_7 (c_X9_refused (by decide)) (kk := fun r7 t7 h7 => ?_)
    obtain ⟨rfl, ee7⟩ := h7
    obtain rfl := ee7.symm
    exact aw_iret G T dX9_ranked_10 (⟨by unfold an_ranked; (repeat' split) <;> first | rfl | (exfalso; omega) | omega, by unfold nx_ranked; (repeat' split) <;> first | exact hX | exact RX_ref hX (by decide) | (exfalso; omega), by first | exact MS.rf _ | exact (MS.rf _).up (by decide)⟩)
