abbrev mTD : List Nat := [91, 88, 89, 90]
theorem ga_o {σ τ : St} (h : Only mTD σ τ) (r : Int) : gaN τ r = gaN σ r := by
  unfold gaN
  rw [nwt_only h (by decide), h 75 (by decide)]
theorem ME_D {σ τ : St} (h : Only mTD σ τ) : ME τ σ := ME.only (h.mono (by decide))
set_option maxHeartbeats 4000000 in
theorem c_X10_layMagic {V : Wd} {σ : St}  (hn : NetOK σ 75) : Ct V yX10_layMagic cX10_layMagic 2 none 5 110 [rv V 75] σ (PV (fun τ => Only mTD σ τ ∧ ∀ x : Int, 0 ≤ x → x ≤ 6 → τ 91 x = gaN σ x)) := by
  refine ct_of (by decide) (Nat.le_of_ble_eq_true rfl) (fun X G T => ?_)
  have G : Gd X V cX10_layMagic RX10 2 5 110 := G
  show AW X V σ 0 [] [some (rv V 75), none]
  have loop : ∀ (n0 : Nat) (i : Int) (τ : St), (0 ≤ i ∧ i ≤ 7) → (7 < i + (n0 : Int)) → (Only mTD σ τ) → (∀ x : Int, 0 ≤ x → x < i → τ 91 x = gaN σ x) → AW X V (τ) 2 [] [some (rv V 75), some (iv i)] := by
    intro n0
    induction n0 with
    | zero =>
      intro i τ h0 h1 ho hq
      exfalso
      omega
    | succ n0 ih =>
      intro i τ h0 h1 ho hq
      refine aw_iload_n G dX10_layMagic_2 rfl ?_
      refine aw_bipush G dX10_layMagic_3 (k := ?_)
      refine aw_icmp_gt (tgt := 26) G dX10_layMagic_5 (by decide) (by first | omega | exact b01_R _ | exact bP_R _) (by first | omega | exact b01_R _ | exact bP_R _) (fun c5 => ?_) (fun c5 => ?_)
      · exact aw_vret G T dX10_layMagic_26 (⟨ho, fun x a1 a2 => hq x a1 (by omega)⟩)
      · refine aw_aload_n G dX10_layMagic_8 rfl ?_
        refine gf_X10_59 G dX10_layMagic_9 (kk := ?_)
        refine aw_iload_n G dX10_layMagic_12 rfl ?_
        refine aw_aload_n G dX10_layMagic_13 rfl ?_
        refine aw_iload_n G dX10_layMagic_14 rfl ?_
        refine aw_iconst G dX10_layMagic_15 ?_
        refine cv_X10_191 G dX10_layMagic_16 (c_X10_magicTo (NetOK.only ho (by decide) hn) (by omega) (by omega)) (kk := fun r16 t16 h16 => ?_)
        obtain ⟨ho16, hc16, hr16⟩ := h16
        refine aw_iastore G dX10_layMagic_19 (by first | decide | assumption | omega) (by first | rfl | assumption) (by first | decide | assumption) (by omega) ?_
        refine aw_iinc_1 G dX10_layMagic_20 rfl (hc := by first | rfl | assumption) (k := ?_)
        refine aw_goto (tgt := 2) G dX10_layMagic_23 (by decide) ?_
        refine ih (i + 1) _ (by omega) (by omega) ((ho.tr (ho16.mono (by decide))).up (by decide)) (fun x a1 a2 => ?_)
        by_cases e : x = i
        · rw [e, up_at]
          rcases hc16 with ⟨q1, q2⟩ | ⟨q1, q2⟩
          · rw [q1, ga_o ho]
          · omega
        · rw [up_nj e, ho16 91 (by decide)]
          exact hq x a1 (by omega)
  refine aw_iconst G dX10_layMagic_0 ?_
  refine aw_istore_1 G dX10_layMagic_1 (hc := by first | rfl | assumption) (k := ?_)
  exact loop 8 0 σ (by omega) (by omega) (fun _ _ => rfl) (fun x a1 a2 => by omega)
set_option maxHeartbeats 4000000 in
theorem c_X10_differ {V : Wd} {σ : St} {j : Int} (hj : 0 ≤ j ∧ j ≤ 6) : Ct V yX10_differ cX10_differ 3 none 0 0 [rv V 75, iv j] σ (PV (fun τ => Only [91] σ τ ∧ ∀ x : Int, 0 ≤ x → x < 6 - j → τ 91 x = σ 91 (x + 1) - σ 91 x)) := by
  refine ct_of (by decide) (Nat.le_of_ble_eq_true rfl) (fun X G T => ?_)
  have G : Gd X V cX10_differ RX10 3 0 0 := G
  show AW X V σ 0 [] [some (rv V 75), some (iv j), none]
  have loop : ∀ (n0 : Nat) (i : Int) (τ : St), (0 ≤ i ∧ i ≤ 6 - j) → (6 - j < i + (n0 : Int)) → (Only [91] σ τ) → (∀ x : Int, τ 91 x = if 0 ≤ x ∧ x < i then σ 91 (x + 1) - σ 91 x else σ 91 x) → AW X V (τ) 2 [] [some (rv V 75), some (iv j), some (iv i)] := by
    intro n0
    induction n0 with
    | zero =>
      intro i τ h0 h1 ho hq
      exfalso
      omega
    | succ n0 ih =>
      intro i τ h0 h1 ho hq
      refine aw_iload_n G dX10_differ_2 rfl ?_
      refine aw_bipush G dX10_differ_3 (k := ?_)
      refine aw_iload_n G dX10_differ_5 rfl ?_
      refine aw_isub G dX10_differ_6 ?_
      refine aw_icmp_ge (tgt := 37) G dX10_differ_7 (by decide) (by first | omega | exact b01_R _ | exact bP_R _) (by first | omega | exact b01_R _ | exact bP_R _) (fun c7 => ?_) (fun c7 => ?_)
      · exact aw_vret G T dX10_differ_37 (⟨ho, fun x a1 a2 => by rw [hq, if_pos (by omega)]⟩)
      · refine aw_aload_n G dX10_differ_10 rfl ?_
        refine gf_X10_59 G dX10_differ_11 (kk := ?_)
        refine aw_iload_n G dX10_differ_14 rfl ?_
        refine aw_aload_n G dX10_differ_15 rfl ?_
        refine gf_X10_59 G dX10_differ_16 (kk := ?_)
        refine aw_iload_n G dX10_differ_19 rfl ?_
        refine aw_iconst G dX10_differ_20 ?_
        refine aw_iadd G dX10_differ_21 ?_
        refine aw_iaload G dX10_differ_22 (by first | decide | assumption | omega) (by first | rfl | assumption) (by first | decide | assumption) (by omega) ?_
        refine aw_aload_n G dX10_differ_23 rfl ?_
        refine gf_X10_59 G dX10_differ_24 (kk := ?_)
        refine aw_iload_n G dX10_differ_27 rfl ?_
        refine aw_iaload G dX10_differ_28 (by first | decide | assumption | omega) (by first | rfl | assumption) (by first | decide | assumption) (by omega) ?_
        refine aw_isub G dX10_differ_29 ?_
        refine aw_iastore G dX10_differ_30 (by first | decide | assumption | omega) (by first | rfl | assumption) (by first | decide | assumption) (by omega) ?_
        refine aw_iinc_2 G dX10_differ_31 rfl (hc := by first | rfl | assumption) (k := ?_)
        refine aw_goto (tgt := 2) G dX10_differ_34 (by decide) ?_
        refine ih (i + 1) _ (by omega) (by omega) (ho.up (by decide)) (fun x => ?_)
        by_cases e : x = i
        · rw [e, up_at, if_pos (by omega), hq, hq, if_neg (by omega), if_neg (by omega)]
        · rw [up_nj e, hq]
          by_cases z : 0 ≤ x ∧ x < i
          · rw [if_pos z, if_pos (by omega)]
          · rw [if_neg z, if_neg (by omega)]
  refine aw_iconst G dX10_differ_0 ?_
  refine aw_istore_2 G dX10_differ_1 (hc := by first | rfl | assumption) (k := ?_)
  exact loop 8 0 σ (by omega) (by omega) (fun _ _ => rfl) (fun x => by rw [if_neg (by omega)])
set_option maxHeartbeats 4000000 in
theorem c_X10_difference {V : Wd} {σ : St} {j z : Int} (h1 : inR j) (h2 : inR z) (hk : OK σ) : Ct V yX10_difference cX10_difference 4 (some .int) 6 131 [rv V 75, iv j, iv z] σ (PI (fun q τ => q = an_difference σ j z ∧ ME τ (nx_difference σ j z))) := by
  refine ct_of (by decide) (Nat.le_of_ble_eq_true rfl) (fun X G T => ?_)
  have G : Gd X V cX10_difference RX10 4 6 131 := G
  show AW X V σ 0 [] [some (rv V 75), some (iv j), some (iv z), none]
  obtain ⟨⟨n1, n2, n3, n4, n5, n6⟩, u1, l1, l2, i1, s1, w1⟩ := id hk
  have loop : ∀ (n0 : Nat) (k : Int) (τ : St), (0 ≤ j ∧ j ≤ 6 ∧ 0 ≤ z ∧ z ≤ 6 - j) → (0 ≤ k ∧ k ≤ j) → (j < k + (n0 : Int)) → (Only mTD σ τ) → (∀ x : Int, 0 ≤ x → x ≤ 6 - k → τ 91 x = dif (gaN σ) k.toNat x) → AW X V (τ) 48 [] [some (rv V 75), some (iv j), some (iv z), some (iv k)] := by
    intro n0
    induction n0 with
    | zero =>
      intro k τ hj h0 hc ho hq
      exfalso
      omega
    | succ n0 ih =>
      intro k τ hj h0 hc ho hq
      refine aw_iload_n G dX10_difference_48 rfl ?_
      refine aw_iload_n G dX10_difference_49 rfl ?_
      refine aw_icmp_ge (tgt := 64) G dX10_difference_50 (by decide) (by first | omega | exact b01_R _ | exact bP_R _) (by first | omega | exact b01_R _ | exact bP_R _) (fun c50 => ?_) (fun c50 => ?_)
      · refine aw_aload_n G dX10_difference_64 rfl ?_
        refine gf_X10_59 G dX10_difference_65 (kk := ?_)
        refine aw_iload_n G dX10_difference_68 rfl ?_
        refine aw_iaload G dX10_difference_69 (by first | decide | assumption | omega) (by first | rfl | assumption) (by first | decide | assumption) (by omega) ?_
        exact aw_iret G T dX10_difference_70 (by
        refine ⟨?_, by unfold nx_difference; (repeat' split) <;> first | exact ME_D ho | (exfalso; omega)⟩
        unfold an_difference
        rw [if_neg (by omega), if_neg (by omega), hq z (by omega) (by omega), show k = j by omega])
      · refine aw_aload_n G dX10_difference_53 rfl ?_
        refine aw_iload_n G dX10_difference_54 rfl ?_
        refine cv_X10_198 G dX10_difference_55 (c_X10_differ (by omega)) (kk := fun t55 h55 => ?_)
        obtain ⟨o55, q55⟩ := h55
        refine aw_iinc_3 G dX10_difference_58 rfl (hc := by first | rfl | assumption) (k := ?_)
        refine aw_goto (tgt := 48) G dX10_difference_61 (by decide) ?_
        refine ih (k + 1) t55 hj (by omega) (by omega) (ho.tr (o55.mono (by decide))) (fun x a1 a2 => ?_)
        rw [q55 x a1 (by omega), hq (x + 1) (by omega) (by omega), hq x (by omega) (by omega), show (k + 1).toNat = k.toNat + 1 by omega, dif_s]
  refine aw_iload_n G dX10_difference_0 rfl ?_
  refine aw_if_lt (tgt := 8) G dX10_difference_1 (by decide) (by first | omega | exact b01_R _ | exact bP_R _) (fun c1 => ?_) (fun c1 => ?_)
  · refine lc_X10_194 G dX10_difference_8 ?_
    refine aw_aload_n G dX10_difference_10 rfl ?_
    refine aw_bipush G dX10_difference_11 (k := ?_)
    refine cv_X10_87 G dX10_difference_13 (c_X10_refused (by decide)) (kk := fun r13 t13 h13 => ?_)
    obtain ⟨rfl, ee13⟩ := h13
    obtain rfl := ee13.symm
    refine aw_isub G dX10_difference_16 ?_
    exact aw_iret G T dX10_difference_17 (⟨by unfold an_difference; (repeat' split) <;> first | rfl | (exfalso; omega) | omega, by unfold nx_difference; (repeat' split) <;> first | exact ME.rf _ | (exfalso; omega)⟩)
  · refine aw_iload_n G dX10_difference_4 rfl ?_
    refine aw_if_ge (tgt := 18) G dX10_difference_5 (by decide) (by first | omega | exact b01_R _ | exact bP_R _) (fun c5 => ?_) (fun c5 => ?_)
    · refine aw_iload_n G dX10_difference_18 rfl ?_
      refine aw_bipush G dX10_difference_19 (k := ?_)
      refine aw_icmp_gt (tgt := 32) G dX10_difference_21 (by decide) (by first | omega | exact b01_R _ | exact bP_R _) (by first | omega | exact b01_R _ | exact bP_R _) (fun c21 => ?_) (fun c21 => ?_)
      · refine lc_X10_194 G dX10_difference_32 ?_
        refine aw_aload_n G dX10_difference_34 rfl ?_
        refine aw_bipush G dX10_difference_35 (k := ?_)
        refine cv_X10_87 G dX10_difference_37 (c_X10_refused (by decide)) (kk := fun r37 t37 h37 => ?_)
        obtain ⟨rfl, ee37⟩ := h37
        obtain rfl := ee37.symm
        refine aw_isub G dX10_difference_40 ?_
        exact aw_iret G T dX10_difference_41 (⟨by unfold an_difference; (repeat' split) <;> first | rfl | (exfalso; omega) | omega, by unfold nx_difference; (repeat' split) <;> first | exact ME.rf _ | (exfalso; omega)⟩)
      · refine aw_iload_n G dX10_difference_24 rfl ?_
        refine aw_bipush G dX10_difference_25 (k := ?_)
        refine aw_iload_n G dX10_difference_27 rfl ?_
        refine aw_isub G dX10_difference_28 ?_
        refine aw_icmp_le (tgt := 42) G dX10_difference_29 (by decide) (by first | omega | exact b01_R _ | exact bP_R _) (by first | omega | exact b01_R _ | exact bP_R _) (fun c29 => ?_) (fun c29 => ?_)
        · refine aw_aload_n G dX10_difference_42 rfl ?_
          refine cv_X10_195 G dX10_difference_43 (c_X10_layMagic hk.1) (kk := fun t43 h43 => ?_)
          obtain ⟨o43, q43⟩ := h43
          refine aw_iconst G dX10_difference_46 ?_
          refine aw_istore_3 G dX10_difference_47 (hc := by first | rfl | assumption) (k := ?_)
          exact loop (j.toNat + 1) 0 t43 (by omega) (by omega) (by omega) o43 (fun x a1 a2 => by rw [q43 x a1 (by omega)]; rfl)
        · refine lc_X10_194 G dX10_difference_32 ?_
          refine aw_aload_n G dX10_difference_34 rfl ?_
          refine aw_bipush G dX10_difference_35 (k := ?_)
          refine cv_X10_87 G dX10_difference_37 (c_X10_refused (by decide)) (kk := fun r37 t37 h37 => ?_)
          obtain ⟨rfl, ee37⟩ := h37
          obtain rfl := ee37.symm
          refine aw_isub G dX10_difference_40 ?_
          exact aw_iret G T dX10_difference_41 (⟨by unfold an_difference; (repeat' split) <;> first | rfl | (exfalso; omega) | omega, by unfold nx_difference; (repeat' split) <;> first | exact ME.rf _ | (exfalso; omega)⟩)
    · refine lc_X10_194 G dX10_difference_8 ?_
      refine aw_aload_n G dX10_difference_10 rfl ?_
      refine aw_bipush G dX10_difference_11 (k := ?_)
      refine cv_X10_87 G dX10_difference_13 (c_X10_refused (by decide)) (kk := fun r13 t13 h13 => ?_)
      obtain ⟨rfl, ee13⟩ := h13
      obtain rfl := ee13.symm
      refine aw_isub G dX10_difference_16 ?_
      exact aw_iret G T dX10_difference_17 (⟨by unfold an_difference; (repeat' split) <;> first | rfl | (exfalso; omega) | omega, by unfold nx_difference; (repeat' split) <;> first | exact ME.rf _ | (exfalso; omega)⟩)
set_option maxHeartbeats 4000000 in
theorem c_X10_settled {V : Wd} {σ : St}  (hk : OK σ) : Ct V yX10_settled cX10_settled 2 (some .int) 6 131 [rv V 75] σ (PI (fun q τ => q = an_settled σ ∧ ME τ (nx_settled σ))) := by
  refine ct_of (by decide) (Nat.le_of_ble_eq_true rfl) (fun X G T => ?_)
  have G : Gd X V cX10_settled RX10 2 6 131 := G
  show AW X V σ 0 [] [some (rv V 75), none]
  obtain ⟨⟨n1, n2, n3, n4, n5, n6⟩, u1, l1, l2, i1, s1, w1⟩ := id hk
  have loop : ∀ (n0 : Nat) (j : Int) (τ : St), (0 ≤ j ∧ j ≤ 6) → (6 < j + (n0 : Int)) → (Only mTD σ τ) → (∀ x : Int, 0 ≤ x → x ≤ 6 - j → τ 91 x = dif (gaN σ) j.toNat x) → (an_settled σ = stl (gaN σ) (6 - j).toNat j.toNat) → AW X V (τ) 6 [] [some (rv V 75), some (iv j)] := by
    intro n0
    induction n0 with
    | zero =>
      intro j τ h0 hc ho hq hs
      exfalso
      omega
    | succ n0 ih =>
      intro j τ h0 hc ho hq hs
      have ei : ((j.toNat : Nat) : Int) = j := by omega
      have hRs : ∀ x : Int, 0 ≤ x → x < 7 - j → inR (τ 91 x) := fun x a1 a2 => by
        rw [hq x a1 (by omega)]
        exact dif_I (fun y b1 b2 => gN_R (W := nwt σ 75) (n := σ 75 0) (show 0 ≤ y ∧ y ≤ 6 from ⟨b1, b2⟩) (show 0 ≤ σ 75 1 ∧ σ 75 1 ≤ 8 by omega)) j.toNat x a1 (by omega)
      have hoR := oft_R (τ 91) (τ 91 0) (7 - j).toNat
      have hlk : oft (τ 91) (τ 91 0) (7 - j).toNat = 7 - j ↔ likeP (dif (gaN σ) j.toNat) (7 - j) := by
        have h9 := oft_all (τ 91) (τ 91 0) (7 - j).toNat
        rw [show (((7 - j).toNat : Nat) : Int) = 7 - j by omega] at h9
        rw [h9]
        exact likeP_c fun x a1 a2 => hq x a1 (by omega)
      refine aw_aload_n G dX10_settled_6 rfl ?_
      refine gf_X10_59 G dX10_settled_7 (kk := ?_)
      refine aw_bipush G dX10_settled_10 (k := ?_)
      refine aw_iload_n G dX10_settled_12 rfl ?_
      refine aw_isub G dX10_settled_13 ?_
      refine aw_aload_n G dX10_settled_14 rfl ?_
      refine gf_X10_59 G dX10_settled_15 (kk := ?_)
      refine aw_iconst G dX10_settled_18 ?_
      refine aw_iaload G dX10_settled_19 (by first | decide | assumption | omega) (by first | rfl | assumption) (by first | decide | assumption) (by omega) ?_
      refine cs_X10_147 G dX10_settled_20 (c_X10_often (k := 91) (N := 7) (by decide) rfl (by decide) (by omega) hRs (hRs 0 (by omega) (by omega))) (kk := fun r20 t20 h20 => ?_)
      obtain ⟨rfl, ee20⟩ := h20
      obtain rfl := ee20.symm
      refine aw_bipush G dX10_settled_23 (k := ?_)
      refine aw_iload_n G dX10_settled_25 rfl ?_
      refine aw_isub G dX10_settled_26 ?_
      refine aw_icmp_ge (tgt := 41) G dX10_settled_27 (by decide) (by first | omega | exact b01_R _ | exact bP_R _) (by first | omega | exact b01_R _ | exact bP_R _) (fun c27 => ?_) (fun c27 => ?_)
      · refine aw_iload_n G dX10_settled_41 rfl ?_
        exact aw_iret G T dX10_settled_42 (by
          refine ⟨?_, ME_D ho⟩
          have hl := hlk.mp (by omega)
          by_cases e : j = 6
          · rw [hs, e]
            rfl
          · rw [hs, show (6 - j).toNat = (6 - (j + 1)).toNat + 1 by omega, stl_s, ei, bP_t hl, if_pos rfl])
      · refine aw_aload_n G dX10_settled_30 rfl ?_
        refine aw_iload_n G dX10_settled_31 rfl ?_
        refine cv_X10_198 G dX10_settled_32 (c_X10_differ (by omega)) (kk := fun t32 h32 => ?_)
        obtain ⟨o32, q32⟩ := h32
        refine aw_iinc_1 G dX10_settled_35 rfl (hc := by first | rfl | assumption) (k := ?_)
        refine aw_goto (tgt := 6) G dX10_settled_38 (by decide) ?_
        have hnl : ¬ likeP (dif (gaN σ) j.toNat) (7 - j) := fun q => c27 (by rw [hlk.mpr q]; omega)
        have hj6 : j < 6 := by
          by_cases e : j = 6
          · exact absurd (fun x a1 a2 => by rw [show x = 0 by omega]) hnl
          · omega
        rw [show (6 - j).toNat = (6 - (j + 1)).toNat + 1 by omega, stl_s, ei, bP_f hnl, if_neg (by decide)] at hs
        refine ih (j + 1) t32 (by omega) (by omega) (ho.tr (o32.mono (by decide))) (fun x a1 a2 => ?_) (by rw [show (j + 1).toNat = j.toNat + 1 by omega]; exact hs)
        rw [q32 x a1 (by omega), hq (x + 1) (by omega) (by omega), hq x (by omega) (by omega), show (j + 1).toNat = j.toNat + 1 by omega, dif_s]
  refine aw_aload_n G dX10_settled_0 rfl ?_
  refine cv_X10_195 G dX10_settled_1 (c_X10_layMagic hk.1) (kk := fun t1 h1 => ?_)
  obtain ⟨o1, q1⟩ := h1
  refine aw_iconst G dX10_settled_4 ?_
  refine aw_istore_1 G dX10_settled_5 (hc := by first | rfl | assumption) (k := ?_)
  exact loop 7 0 t1 (by omega) (by omega) o1 (fun x a1 a2 => by rw [q1 x a1 (by omega)]; rfl) rfl
