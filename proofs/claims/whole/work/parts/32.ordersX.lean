theorem unl {W : Int → Int → Int} {L n : Int} {f g : Int → Int} (h : ∀ p : Int, 0 ≤ p → p < n → g p = tsum W f L p) : ruleP 1 g n ↔ wQ W L n 1 f := ruleP_c h
set_option maxHeartbeats 4000000 in
theorem c_X7_findOrders {V : Wd} {σ : St} {wi : Int} (hN : NetOK σ 1) (hw : -1 ≤ wi ∧ wi ≤ 2147483647) : Ct V yX7_findOrders cX7_findOrders 5 (some .int) 4 84 [rv V 47, iv wi] σ (PI (fun r τ => Only thS σ τ ∧ ((r = oN (nwt σ 1) (σ 1 1) (σ 1 0) ∧ (wi < 0 ∨ oN (nwt σ 1) (σ 1 1) (σ 1 0) ≤ wi)) ∨ (0 ≤ wi ∧ r = wi + 1 ∧ ∃ f, oI (nwt σ 1) (σ 1 1) (σ 1 0) wi = some f ∧ ∀ j : Int, 0 ≤ j → j < σ 1 1 → τ 48 j = f j)) ∧ 0 ≤ r ∧ r ≤ 65536)) := by
  refine ct_of (by decide) (Nat.le_of_ble_eq_true rfl) (fun X G T => ?_)
  have G : Gd X V cX7_findOrders RX7 5 4 84 := G
  show AW X V σ 0 [] [some (rv V 47), some (iv wi), none, none, none]
  obtain ⟨n1, n2, n3, n4, n5, n6⟩ := id hN
  have hA := fac_8 (show (σ 1 1).toNat ≤ 8 by omega)
  have loop : ∀ (n0 : Nat) (x : Int) (n : Int) (τ : St) (f : Int → Int), (0 ≤ x ∧ x ≤ fac (σ 1 1).toNat) → (fac (σ 1 1).toNat < x + (n0 : Int)) → (0 ≤ n ∧ n ≤ x) → (TH σ τ f) → (PO (σ 1 1) f) → (oN (nwt σ 1) (σ 1 1) (σ 1 0) = n + wayN (wQ (nwt σ 1) (σ 1 1) (σ 1 0) 1) (nxP (σ 1 1)) (fac (σ 1 1).toNat - x).toNat f) → (0 ≤ wi → n ≤ wi ∧ wayI (wQ (nwt σ 1) (σ 1 1) (σ 1 0) 1) (nxP (σ 1 1)) (fac (σ 1 1).toNat - x).toNat f (wi - n) = oI (nwt σ 1) (σ 1 1) (σ 1 0) wi) → AW X V (τ) 20 [] [some (rv V 47), some (iv wi), some (iv (fac (σ 1 1).toNat)), some (iv n), some (iv x)] := by
    intro n0
    induction n0 with
    | zero =>
      intro x n τ f h0 h1 hn hT hP hqN hqI
      exfalso
      omega
    | succ n0 ih =>
      intro x n τ f h0 h1 hn hT hP hqN hqI
      refine aw_iload G dX7_findOrders_20 rfl ?_
      refine aw_iload_n G dX7_findOrders_22 rfl ?_
      refine aw_icmp_ge (tgt := 66) G dX7_findOrders_23 (by decide) (by first | omega | exact b01_R _ | exact bP_R _) (by first | omega | exact b01_R _ | exact bP_R _) (fun c23 => ?_) (fun c23 => ?_)
      · refine aw_iload_n G dX7_findOrders_66 rfl ?_
        exact aw_iret G T dX7_findOrders_67 (by
          rw [show (fac (σ 1 1).toNat - x).toNat = 0 by omega] at hqN hqI
          have hN0 : oN (nwt σ 1) (σ 1 1) (σ 1 0) = n := by rw [hqN]; unfold wayN; omega
          exact ⟨hT.1, Or.inl ⟨hN0.symm, by have := fun q => (hqI q).1; omega⟩, by omega, by omega⟩)
      · have ew : (fac (σ 1 1).toNat - x).toNat = (fac (σ 1 1).toNat - (x + 1)).toNat + 1 := by omega
        have hRs := TH_R hT hN (fun j a b => by have := hP.2 j a b; omega)
        have e1 : τ 1 = σ 1 := hT.1 1 (by decide)
        have hQ : ruleP 1 (τ 49) (σ 1 0) ↔ (wQ (nwt σ 1) (σ 1 1) (σ 1 0) 1) f := unl (fun p a b => hT.2.2 p a (by omega))
        refine aw_iconst G dX7_findOrders_26 ?_
        refine aw_aload_n G dX7_findOrders_27 rfl ?_
        refine gf_X7_15 G dX7_findOrders_28 (kk := ?_)
        refine aw_aload_n G dX7_findOrders_31 rfl ?_
        refine gf_X7_34 G dX7_findOrders_32 (kk := ?_)
        refine gf_X7_63 G dX7_findOrders_35 (kk := ?_)
        rw [e1]
        refine cs_X7_66 G dX7_findOrders_38 (c_X5_holds (k := 49) (N := 7) (by decide) rfl (by decide) (by omega) (fun i a b => hRs i a (by omega)) (by omega) (by omega)) (kk := fun r38 t38 h38 => ?_)
        obtain ⟨rfl, ee38⟩ := h38
        obtain rfl := ee38.symm
        refine aw_if_eq (tgt := 56) G dX7_findOrders_41 (by decide) (bP_R _) (fun c41 => ?_) (fun c41 => ?_)
        · try simp only [b01_0, b01_n, bP_0, bP_n, Classical.not_not] at c41
          refine aw_aload_n G dX7_findOrders_56 rfl ?_
          refine cv_X7_101 G dX7_findOrders_57 (c_X7_nextOrder hN hT hP) (kk := fun t57 h57 => ?_)
          obtain ⟨hT57, ho57⟩ := h57
          refine aw_iinc_4 G dX7_findOrders_60 rfl (hc := by first | rfl | assumption) (k := ?_)
          refine aw_goto (tgt := 20) G dX7_findOrders_63 (by decide) ?_
          rw [ew, wayN_s] at hqN
          first
            | (rw [bP_f (show ¬ (wQ (nwt σ 1) (σ 1 1) (σ 1 0) 1) f from fun q => c41 (hQ.mpr q))] at hqN
               refine ih (x + 1) n t57 _ (by omega) (by omega) (by omega) hT57 (PO_nx n3 hP) (by omega) (fun q => ?_)
               have hz := hqI q
               rw [ew, wayI_s, bP_f (show ¬ (wQ (nwt σ 1) (σ 1 1) (σ 1 0) 1) f from fun q => c41 (hQ.mpr q)), if_neg (by decide)] at hz
               exact hz)
            | (rw [bP_t (hQ.mp c41)] at hqN
               refine ih (x + 1) (n + 1) t57 _ (by omega) (by omega) (by omega) hT57 (PO_nx n3 hP) (by omega) (fun q => ?_)
               have hz := hqI q
               rw [ew, wayI_s, bP_t (hQ.mp c41), if_pos rfl, if_neg (by omega), show wi - n - 1 = wi - (n + 1) by omega] at hz
               exact ⟨by omega, hz.2⟩)
        · try simp only [b01_0, b01_n, bP_0, bP_n, Classical.not_not] at c41
          refine aw_iinc_3 G dX7_findOrders_44 rfl (hc := by first | rfl | assumption) (k := ?_)
          refine aw_iload_n G dX7_findOrders_47 rfl ?_
          refine aw_iconst G dX7_findOrders_48 ?_
          refine aw_isub G dX7_findOrders_49 ?_
          refine aw_iload_n G dX7_findOrders_50 rfl ?_
          refine aw_icmp_ne (tgt := 56) G dX7_findOrders_51 (by decide) (by first | omega | exact b01_R _ | exact bP_R _) (by first | omega | exact b01_R _ | exact bP_R _) (fun c51 => ?_) (fun c51 => ?_)
          · refine aw_aload_n G dX7_findOrders_56 rfl ?_
            refine cv_X7_101 G dX7_findOrders_57 (c_X7_nextOrder hN hT hP) (kk := fun t57 h57 => ?_)
            obtain ⟨hT57, ho57⟩ := h57
            refine aw_iinc_4 G dX7_findOrders_60 rfl (hc := by first | rfl | assumption) (k := ?_)
            refine aw_goto (tgt := 20) G dX7_findOrders_63 (by decide) ?_
            rw [ew, wayN_s] at hqN
            first
              | (rw [bP_f (show ¬ (wQ (nwt σ 1) (σ 1 1) (σ 1 0) 1) f from fun q => c41 (hQ.mpr q))] at hqN
                 refine ih (x + 1) n t57 _ (by omega) (by omega) (by omega) hT57 (PO_nx n3 hP) (by omega) (fun q => ?_)
                 have hz := hqI q
                 rw [ew, wayI_s, bP_f (show ¬ (wQ (nwt σ 1) (σ 1 1) (σ 1 0) 1) f from fun q => c41 (hQ.mpr q)), if_neg (by decide)] at hz
                 exact hz)
              | (rw [bP_t (hQ.mp c41)] at hqN
                 refine ih (x + 1) (n + 1) t57 _ (by omega) (by omega) (by omega) hT57 (PO_nx n3 hP) (by omega) (fun q => ?_)
                 have hz := hqI q
                 rw [ew, wayI_s, bP_t (hQ.mp c41), if_pos rfl, if_neg (by omega), show wi - n - 1 = wi - (n + 1) by omega] at hz
                 exact ⟨by omega, hz.2⟩)
          · refine aw_iload_n G dX7_findOrders_54 rfl ?_
            exact aw_iret G T dX7_findOrders_55 (by
          refine ⟨hT.1, Or.inr ⟨by omega, by omega, f, ?_, fun j a b => (hT.2.1 j a b).1⟩, by omega, by omega⟩
          have hz := (hqI (by omega)).2
          rw [ew, wayI_s, bP_t (hQ.mp c41), if_pos rfl, if_pos (by omega)] at hz
          exact hz.symm)
  refine aw_aload_n G dX7_findOrders_0 rfl ?_
  refine cv_X7_95 G dX7_findOrders_1 (c_X7_beginOrders hN) (kk := fun t1 h1 => ?_)
  refine aw_aload_n G dX7_findOrders_4 rfl ?_
  refine gf_X7_34 G dX7_findOrders_5 (kk := ?_)
  refine gf_X7_38 G dX7_findOrders_8 (kk := ?_)
  rw [h1.1 1 (by decide)]
  refine cs_X7_98 G dX7_findOrders_11 (c_X7_ordersOf (by omega)) (kk := fun r11 t11 h11 => ?_)
  obtain ⟨rfl, ee11⟩ := h11
  obtain rfl := ee11.symm
  refine aw_istore_2 G dX7_findOrders_14 (hc := by first | rfl | assumption) (k := ?_)
  refine aw_iconst G dX7_findOrders_15 ?_
  refine aw_istore_3 G dX7_findOrders_16 (hc := by first | rfl | assumption) (k := ?_)
  refine aw_iconst G dX7_findOrders_17 ?_
  refine aw_istore_4 G dX7_findOrders_18 (hc := by first | rfl | assumption) (k := ?_)
  exact loop ((fac (σ 1 1).toNat).toNat + 1) 0 0 t1 (fun j => j + 1) (by omega) (by omega) (by omega) h1 (PO_0 n4) (by rw [show fac (σ 1 1).toNat - 0 = fac (σ 1 1).toNat by omega]; unfold oN; omega) (fun q => ⟨by omega, by rw [show fac (σ 1 1).toNat - 0 = fac (σ 1 1).toNat by omega, show wi - 0 = wi by omega]; rfl⟩)
theorem acc_R {W : Int → Int → Int} {L n : Int} {f : Int → Int} {a : Int} (h : a = -9 ∨ 0 ≤ a) : accS W L n f a = -9 ∨ 0 ≤ accS W L n f a := by
  have h1 := mxmn (tsum W f L) (n - 1).toNat
  unfold accS spv
  (repeat' split) <;> omega
theorem spv_c {W : Int → Int → Int} {L n : Int} {f g : Int → Int} (hn : 1 ≤ n) (h : ∀ p : Int, 0 ≤ p → p < n → g p = tsum W f L p) : mxTo g (n - 1).toNat - mnTo g (n - 1).toNat = spv W L n f := by
  have key : ∀ m : Nat, (m : Int) < n → mxTo g m = mxTo (tsum W f L) m ∧ mnTo g m = mnTo (tsum W f L) m := by
    intro m
    induction m with
    | zero => intro hm; exact ⟨h 0 (by omega) (by omega), h 0 (by omega) (by omega)⟩
    | succ m ih =>
      intro hm
      obtain ⟨i1, i2⟩ := ih (by omega)
      unfold mxTo mnTo
      rw [i1, i2, h ((m : Int) + 1) (by omega) (by omega)]
      exact ⟨rfl, rfl⟩
  obtain ⟨k1, k2⟩ := key (n - 1).toNat (by omega)
  unfold spv
  rw [k1, k2]
set_option maxHeartbeats 4000000 in
theorem c_X7_leastSpread {V : Wd} {σ : St}  (hN : NetOK σ 1) : Ct V yX7_leastSpread cX7_leastSpread 5 (some .int) 4 84 [rv V 47] σ (PI (fun r τ => Only thS σ τ ∧ r = spr (nwt σ 1) (σ 1 1) (σ 1 0) (fac (σ 1 1).toNat).toNat (fun j => j + 1) (-9))) := by
  refine ct_of (by decide) (Nat.le_of_ble_eq_true rfl) (fun X G T => ?_)
  have G : Gd X V cX7_leastSpread RX7 5 4 84 := G
  show AW X V σ 0 [] [some (rv V 47), none, none, none, none]
  obtain ⟨n1, n2, n3, n4, n5, n6⟩ := id hN
  have hA := fac_8 (show (σ 1 1).toNat ≤ 8 by omega)
  have loop : ∀ (n0 : Nat) (x : Int) (a : Int) (τ : St) (f : Int → Int) (u : Option Value), (0 ≤ x ∧ x ≤ fac (σ 1 1).toNat) → (fac (σ 1 1).toNat < x + (n0 : Int)) → (lcat u = 1) → (TH σ τ f) → (PO (σ 1 1) f) → ((a = -9 ∨ 0 ≤ a) ∧ a ≤ 1000000) → (spr (nwt σ 1) (σ 1 1) (σ 1 0) (fac (σ 1 1).toNat - x).toNat f a = spr (nwt σ 1) (σ 1 1) (σ 1 0) (fac (σ 1 1).toNat).toNat (fun j => j + 1) (-9)) → AW X V (τ) 20 [] [some (rv V 47), some (iv (fac (σ 1 1).toNat)), some (iv a), some (iv x), u] := by
    intro n0
    induction n0 with
    | zero =>
      intro x a τ f u h0 h1 hu hT hP ha hq
      exfalso
      omega
    | succ n0 ih =>
      intro x a τ f u h0 h1 hu hT hP ha hq
      refine aw_iload_n G dX7_leastSpread_20 rfl ?_
      refine aw_iload_n G dX7_leastSpread_21 rfl ?_
      refine aw_icmp_ge (tgt := 87) G dX7_leastSpread_22 (by decide) (by first | omega | exact b01_R _ | exact bP_R _) (by first | omega | exact b01_R _ | exact bP_R _) (fun c22 => ?_) (fun c22 => ?_)
      · refine aw_iload_n G dX7_leastSpread_87 rfl ?_
        exact aw_iret G T dX7_leastSpread_88 (by
          rw [show (fac (σ 1 1).toNat - x).toNat = 0 by omega] at hq
          exact ⟨hT.1, hq⟩)
      · have ew : (fac (σ 1 1).toNat - x).toNat = (fac (σ 1 1).toNat - (x + 1)).toNat + 1 := by omega
        have hRs := TH_R hT hN (fun j a b => by have := hP.2 j a b; omega)
        have e1 : τ 1 = σ 1 := hT.1 1 (by decide)
        have hQ : ruleP 1 (τ 49) (σ 1 0) ↔ (wQ (nwt σ 1) (σ 1 1) (σ 1 0) 1) f := unl (fun p a b => hT.2.2 p a (by omega))
        have hRb : ∀ p : Int, 0 ≤ p → p < 7 → 0 ≤ τ 49 p ∧ τ 49 p ≤ 104000 := fun p p0 p1 => by
          rw [hT.2.2 p p0 p1]
          exact tsum_R n4 (fun l c d => ⟨nwt_R (by have := n5 l c (by omega); omega), by have := hP.2 l c d; omega⟩)
        refine aw_iconst G dX7_leastSpread_25 ?_
        refine aw_aload_n G dX7_leastSpread_26 rfl ?_
        refine gf_X7_15 G dX7_leastSpread_27 (kk := ?_)
        refine aw_aload_n G dX7_leastSpread_30 rfl ?_
        refine gf_X7_34 G dX7_leastSpread_31 (kk := ?_)
        refine gf_X7_63 G dX7_leastSpread_34 (kk := ?_)
        rw [e1]
        refine cs_X7_66 G dX7_leastSpread_37 (c_X5_holds (k := 49) (N := 7) (by decide) rfl (by decide) (by omega) (fun i a b => hRs i a (by omega)) (by omega) (by omega)) (kk := fun r37 t37 h37 => ?_)
        obtain ⟨rfl, ee37⟩ := h37
        obtain rfl := ee37.symm
        refine aw_if_eq (tgt := 77) G dX7_leastSpread_40 (by decide) (bP_R _) (fun c40 => ?_) (fun c40 => ?_)
        · try simp only [b01_0, b01_n, bP_0, bP_n, Classical.not_not] at c40
          refine aw_aload_n G dX7_leastSpread_77 rfl ?_
          refine cv_X7_101 G dX7_leastSpread_78 (c_X7_nextOrder hN hT hP) (kk := fun t78 h78 => ?_)
          obtain ⟨hT78, ho78⟩ := h78
          refine aw_iinc_3 G dX7_leastSpread_81 rfl (hc := by first | rfl | assumption) (k := ?_)
          refine aw_goto (tgt := 20) G dX7_leastSpread_84 (by decide) ?_
          rw [ew, spr_s] at hq
          have hS := spv_c n1 (fun p p0 p1 => hT.2.2 p p0 (by omega))
          have hm := mxmn (τ 49) (σ 1 0 - 1).toNat
          first
            | (exfalso; omega)
            | (rw [show accS (nwt σ 1) (σ 1 1) (σ 1 0) f a = a by unfold accS; rw [bP_f (show ¬ (wQ (nwt σ 1) (σ 1 1) (σ 1 0) 1) f from fun q => c40 (hQ.mpr q)), if_neg (by decide)]] at hq
               exact ih (x + 1) a t78 _ _ (by omega) (by omega) hu hT78 (PO_nx n3 hP) ha hq)
            | (rw [show accS (nwt σ 1) (σ 1 1) (σ 1 0) f a = mxTo (τ 49) (σ 1 0 - 1).toNat - mnTo (τ 49) (σ 1 0 - 1).toNat by unfold accS; rw [bP_t (hQ.mp c40), if_pos rfl, if_pos (by omega), hS]] at hq
               exact ih (x + 1) _ t78 _ _ (by omega) (by omega) rfl hT78 (PO_nx n3 hP) (by omega) hq)
            | (rw [show accS (nwt σ 1) (σ 1 1) (σ 1 0) f a = min a (mxTo (τ 49) (σ 1 0 - 1).toNat - mnTo (τ 49) (σ 1 0 - 1).toNat) by unfold accS; rw [bP_t (hQ.mp c40), if_pos rfl, if_neg (by omega), hS]] at hq
               exact ih (x + 1) _ t78 _ _ (by omega) (by omega) rfl hT78 (PO_nx n3 hP) (by omega) hq)
        · try simp only [b01_0, b01_n, bP_0, bP_n, Classical.not_not] at c40
          refine aw_aload_n G dX7_leastSpread_43 rfl ?_
          refine gf_X7_15 G dX7_leastSpread_44 (kk := ?_)
          refine aw_aload_n G dX7_leastSpread_47 rfl ?_
          refine gf_X7_34 G dX7_leastSpread_48 (kk := ?_)
          refine gf_X7_63 G dX7_leastSpread_51 (kk := ?_)
          rw [e1]
          have hsm : ∀ m : Nat, (m : Int) < σ 1 0 → 0 ≤ mnTo (τ 49) m ∧ mxTo (τ 49) m ≤ 104000 := by
            intro m
            induction m with
            | zero => intro hm; have := hRb 0 (by omega) (by omega); exact this
            | succ m ihm =>
              intro hm
              have i1 := ihm (by omega)
              have i2 := hRb ((m : Int) + 1) (by omega) (by omega)
              unfold mnTo mxTo
              omega
          have hsz := hsm (σ 1 0 - 1).toNat (by omega)
          refine cs_X7_104 G dX7_leastSpread_54 (c_X5_spreadOf (k := 49) (N := 7) (by decide) rfl (by decide) (by omega) (fun i a b => hRs i a (by omega))) (kk := fun r54 t54 h54 => ?_)
          obtain ⟨rfl, ee54⟩ := h54
          obtain rfl := ee54.symm
          have hmz := mxmn (τ 49) (σ 1 0 - 1).toNat
          refine aw_istore_4 G dX7_leastSpread_57 (hc := by first | rfl | assumption) (k := ?_)
          refine aw_iload_n G dX7_leastSpread_59 rfl ?_
          refine aw_bipush G dX7_leastSpread_60 (k := ?_)
          refine aw_icmp_ne (tgt := 70) G dX7_leastSpread_62 (by decide) (by first | omega | exact b01_R _ | exact bP_R _) (by first | omega | exact b01_R _ | exact bP_R _) (fun c62 => ?_) (fun c62 => ?_)
          · refine aw_iload_n G dX7_leastSpread_70 rfl ?_
            refine aw_iload G dX7_leastSpread_71 rfl ?_
            refine cm_X7_108 G dX7_leastSpread_73 (by first | omega | exact b01_R _ | exact bP_R _) (by first | omega | exact b01_R _ | exact bP_R _) (k := ?_)
            refine aw_istore_2 G dX7_leastSpread_76 (hc := by first | rfl | assumption) (k := ?_)
            refine aw_aload_n G dX7_leastSpread_77 rfl ?_
            refine cv_X7_101 G dX7_leastSpread_78 (c_X7_nextOrder hN hT hP) (kk := fun t78 h78 => ?_)
            obtain ⟨hT78, ho78⟩ := h78
            refine aw_iinc_3 G dX7_leastSpread_81 rfl (hc := by first | rfl | assumption) (k := ?_)
            refine aw_goto (tgt := 20) G dX7_leastSpread_84 (by decide) ?_
            rw [ew, spr_s] at hq
            have hS := spv_c n1 (fun p p0 p1 => hT.2.2 p p0 (by omega))
            have hm := mxmn (τ 49) (σ 1 0 - 1).toNat
            first
              | (exfalso; omega)
              | (rw [show accS (nwt σ 1) (σ 1 1) (σ 1 0) f a = a by unfold accS; rw [bP_f (show ¬ (wQ (nwt σ 1) (σ 1 1) (σ 1 0) 1) f from fun q => c40 (hQ.mpr q)), if_neg (by decide)]] at hq
                 exact ih (x + 1) a t78 _ _ (by omega) (by omega) hu hT78 (PO_nx n3 hP) ha hq)
              | (rw [show accS (nwt σ 1) (σ 1 1) (σ 1 0) f a = mxTo (τ 49) (σ 1 0 - 1).toNat - mnTo (τ 49) (σ 1 0 - 1).toNat by unfold accS; rw [bP_t (hQ.mp c40), if_pos rfl, if_pos (by omega), hS]] at hq
                 exact ih (x + 1) _ t78 _ _ (by omega) (by omega) rfl hT78 (PO_nx n3 hP) (by omega) hq)
              | (rw [show accS (nwt σ 1) (σ 1 1) (σ 1 0) f a = min a (mxTo (τ 49) (σ 1 0 - 1).toNat - mnTo (τ 49) (σ 1 0 - 1).toNat) by unfold accS; rw [bP_t (hQ.mp c40), if_pos rfl, if_neg (by omega), hS]] at hq
                 exact ih (x + 1) _ t78 _ _ (by omega) (by omega) rfl hT78 (PO_nx n3 hP) (by omega) hq)
          · refine aw_iload G dX7_leastSpread_65 rfl ?_
            refine aw_goto (tgt := 76) G dX7_leastSpread_67 (by decide) ?_
            refine aw_istore_2 G dX7_leastSpread_76 (hc := by first | rfl | assumption) (k := ?_)
            refine aw_aload_n G dX7_leastSpread_77 rfl ?_
            refine cv_X7_101 G dX7_leastSpread_78 (c_X7_nextOrder hN hT hP) (kk := fun t78 h78 => ?_)
            obtain ⟨hT78, ho78⟩ := h78
            refine aw_iinc_3 G dX7_leastSpread_81 rfl (hc := by first | rfl | assumption) (k := ?_)
            refine aw_goto (tgt := 20) G dX7_leastSpread_84 (by decide) ?_
            rw [ew, spr_s] at hq
            have hS := spv_c n1 (fun p p0 p1 => hT.2.2 p p0 (by omega))
            have hm := mxmn (τ 49) (σ 1 0 - 1).toNat
            first
              | (exfalso; omega)
              | (rw [show accS (nwt σ 1) (σ 1 1) (σ 1 0) f a = a by unfold accS; rw [bP_f (show ¬ (wQ (nwt σ 1) (σ 1 1) (σ 1 0) 1) f from fun q => c40 (hQ.mpr q)), if_neg (by decide)]] at hq
                 exact ih (x + 1) a t78 _ _ (by omega) (by omega) hu hT78 (PO_nx n3 hP) ha hq)
              | (rw [show accS (nwt σ 1) (σ 1 1) (σ 1 0) f a = mxTo (τ 49) (σ 1 0 - 1).toNat - mnTo (τ 49) (σ 1 0 - 1).toNat by unfold accS; rw [bP_t (hQ.mp c40), if_pos rfl, if_pos (by omega), hS]] at hq
                 exact ih (x + 1) _ t78 _ _ (by omega) (by omega) rfl hT78 (PO_nx n3 hP) (by omega) hq)
              | (rw [show accS (nwt σ 1) (σ 1 1) (σ 1 0) f a = min a (mxTo (τ 49) (σ 1 0 - 1).toNat - mnTo (τ 49) (σ 1 0 - 1).toNat) by unfold accS; rw [bP_t (hQ.mp c40), if_pos rfl, if_neg (by omega), hS]] at hq
                 exact ih (x + 1) _ t78 _ _ (by omega) (by omega) rfl hT78 (PO_nx n3 hP) (by omega) hq)
  refine aw_aload_n G dX7_leastSpread_0 rfl ?_
  refine cv_X7_95 G dX7_leastSpread_1 (c_X7_beginOrders hN) (kk := fun t1 h1 => ?_)
  refine aw_aload_n G dX7_leastSpread_4 rfl ?_
  refine gf_X7_34 G dX7_leastSpread_5 (kk := ?_)
  refine gf_X7_38 G dX7_leastSpread_8 (kk := ?_)
  rw [h1.1 1 (by decide)]
  refine cs_X7_98 G dX7_leastSpread_11 (c_X7_ordersOf (by omega)) (kk := fun r11 t11 h11 => ?_)
  obtain ⟨rfl, ee11⟩ := h11
  obtain rfl := ee11.symm
  refine aw_istore_1 G dX7_leastSpread_14 (hc := by first | rfl | assumption) (k := ?_)
  refine aw_bipush G dX7_leastSpread_15 (k := ?_)
  refine aw_istore_2 G dX7_leastSpread_17 (hc := by first | rfl | assumption) (k := ?_)
  refine aw_iconst G dX7_leastSpread_18 ?_
  refine aw_istore_3 G dX7_leastSpread_19 (hc := by first | rfl | assumption) (k := ?_)
  exact loop ((fac (σ 1 1).toNat).toNat + 1) 0 (-9) t1 (fun j => j + 1) _ (by omega) (by omega) rfl h1 (PO_0 n4) (by omega) (by rw [show fac (σ 1 1).toNat - 0 = fac (σ 1 1).toNat by omega])
noncomputable def oaN (α : St) : Int := oN (nwt α 75) (α 75 1) (α 75 0)
noncomputable def oaI (α : St) (i : Int) : Option (Int → Int) := oI (nwt α 75) (α 75 1) (α 75 0) i
noncomputable def an_orders (α : St) (i l : Int) : Int := if i < -1 then -4 else if 0 ≤ i ∧ ¬ (0 ≤ l ∧ l < α 75 1) then -1 else if i < 0 then oaN α else (match oaI α i with | none => -9 | some f => f l)
def nx_orders (α : St) (i l : Int) : St := if i < -1 then rf α (-4) else if 0 ≤ i ∧ ¬ (0 ≤ l ∧ l < α 75 1) then rf α (-1) else α
noncomputable def an_spread (α : St) : Int := spr (nwt α 75) (α 75 1) (α 75 0) (fac (α 75 1).toNat).toNat (fun j => j + 1) (-9)
theorem oN_e {α σ : St} (h : NetEq σ 1 α 75) (hL : σ 1 1 ≤ 8) : oN (nwt σ 1) (σ 1 1) (σ 1 0) = oaN α := by
  unfold oaN oN
  rw [wQ_e h hL, h.2.1]
theorem oI_e {α σ : St} (h : NetEq σ 1 α 75) (hL : σ 1 1 ≤ 8) (i : Int) : oI (nwt σ 1) (σ 1 1) (σ 1 0) i = oaI α i := by
  unfold oaI oI
  rw [wQ_e h hL, h.2.1]
theorem oaI_n {α : St} {i : Int} (h : 0 ≤ i) : oaI α i = none ↔ oaN α ≤ i := wayI_n _ _ _ _ _ h
theorem spr_e {α σ : St} (h : NetEq σ 1 α 75) (hL : σ 1 1 ≤ 8) : ∀ (w : Nat) (f : Int → Int) (a : Int), spr (nwt σ 1) (σ 1 1) (σ 1 0) w f a = spr (nwt α 75) (α 75 1) (α 75 0) w f a
  | 0, _, _ => rfl
  | w + 1, f, a => by
    rw [spr_s, spr_s, spr_e h hL w, h.2.1]
    congr 1
    unfold accS spv
    rw [← wQ_e h hL 1, ← tsum_e h hL f, h.1, h.2.1]
set_option maxHeartbeats 4000000 in
theorem c_X9_orders {V : Wd} {σ : St} {α : St} {i l : Int} (h1 : inR i) (h2 : inR l) (hk : OK α) (hX : RX α σ) : Ct V yX9_orders cX9_orders 3 (some .int) 5 108 [rv V 0, iv i, iv l] σ (PI (fun r τ => r = an_orders α i l ∧ RX (nx_orders α i l) τ ∧ MS σ τ)) := by
  refine ct_of (by decide) (Nat.le_of_ble_eq_true rfl) (fun X G T => ?_)
  have G : Gd X V cX9_orders RX9 3 5 108 := G
  show AW X V σ 0 [] [some (rv V 0), some (iv i), some (iv l)]
  have hN : NetOK σ 1 := hX.1.ok hk.1
  obtain ⟨⟨e0, e1, er⟩, ⟨x1, x2⟩, xp, xl, xr, xi⟩ := id hX
  obtain ⟨⟨n1, n2, n3, n4, n5, n6⟩, u1, l1, l2, i1, s1, w1⟩ := id hk
  obtain ⟨p1, p2, p3, p4, p5, p6⟩ := id hN
  refine aw_iload_n G dX9_orders_0 rfl ?_
  refine aw_iconst G dX9_orders_1 ?_
  refine aw_icmp_ge (tgt := 12) G dX9_orders_2 (by decide) (by first | omega | exact b01_R _ | exact bP_R _) (by first | omega | exact b01_R _ | exact bP_R _) (fun c2 => ?_) (fun c2 => ?_)
  · refine aw_iload_n G dX9_orders_12 rfl ?_
    refine aw_iconst G dX9_orders_13 ?_
    refine aw_icmp_eq (tgt := 34) G dX9_orders_14 (by decide) (by first | omega | exact b01_R _ | exact bP_R _) (by first | omega | exact b01_R _ | exact bP_R _) (fun c14 => ?_) (fun c14 => ?_)
    · refine aw_aload_n G dX9_orders_34 rfl ?_
      refine aw_aload_n G dX9_orders_35 rfl ?_
      refine gf_X9_35 G dX9_orders_36 (kk := ?_)
      refine aw_iload_n G dX9_orders_39 rfl ?_
      refine cv_X9_194 G dX9_orders_40 (c_X7_findOrders hN (by omega)) (kk := fun r40 t40 h40 => ?_)
      obtain ⟨ho40, hc40, hr40⟩ := h40
      refine aw_iload_n G dX9_orders_43 rfl ?_
      refine aw_iload_n G dX9_orders_44 rfl ?_
      refine cv_X9_180 G dX9_orders_45 (c_X9_found (by omega) (by omega) (by intros; omega)) (kk := fun r45 t45 h45 => ?_)
      obtain ⟨rfl, ee45⟩ := h45
      obtain rfl := ee45.symm
      exact aw_iret G T dX9_orders_48 (by
    have hne : NetEq σ 1 α 75 := ⟨e0, e1, er⟩
    refine ⟨?_, by unfold nx_orders; (repeat' split) <;> first | exact RX_th ho40 hX | (exfalso; omega), MS_th ho40⟩
    rcases hc40 with ⟨q1, q2⟩ | ⟨q1, q2, f, q3, q4⟩
    · by_cases z : i = -1
      · rw [if_pos z, q1]
        unfold an_orders
        rw [if_neg (by omega), if_neg (by omega), if_pos (by omega)]
        exact oN_e hne p4
      · rw [if_neg z, if_neg (by omega)]
        unfold an_orders
        rw [if_neg (by omega), if_neg (by omega), if_neg (by omega), (oaI_n (by omega)).mpr (by rw [← oN_e hne p4]; omega)]
    · rw [if_neg (by omega), if_pos (by omega)]
      unfold an_orders
      rw [if_neg (by omega), if_neg (by omega), if_neg (by omega), ← oI_e hne p4 i, q3]
      exact q4 l (by omega) (by omega))
    · refine aw_aload_n G dX9_orders_17 rfl ?_
      refine gf_X9_10 G dX9_orders_18 (kk := ?_)
      refine aw_iload_n G dX9_orders_21 rfl ?_
      refine cv_X9_115 G dX9_orders_22 (c_X3_hasLine (by first | exact isNet_1 | exact isNet_13) (by first | assumption | omega) (by omega)) (kk := fun r22 t22 h22 => ?_)
      obtain ⟨rfl, ee22⟩ := h22
      obtain rfl := ee22.symm
      refine aw_if_ne (tgt := 34) G dX9_orders_25 (by decide) (by first | omega | exact b01_R _ | exact bP_R _) (fun c25 => ?_) (fun c25 => ?_)
      · try simp only [b01_0, b01_n, bP_0, bP_n, Classical.not_not] at c25
        refine aw_aload_n G dX9_orders_34 rfl ?_
        refine aw_aload_n G dX9_orders_35 rfl ?_
        refine gf_X9_35 G dX9_orders_36 (kk := ?_)
        refine aw_iload_n G dX9_orders_39 rfl ?_
        refine cv_X9_194 G dX9_orders_40 (c_X7_findOrders hN (by omega)) (kk := fun r40 t40 h40 => ?_)
        obtain ⟨ho40, hc40, hr40⟩ := h40
        refine aw_iload_n G dX9_orders_43 rfl ?_
        refine aw_iload_n G dX9_orders_44 rfl ?_
        refine cv_X9_180 G dX9_orders_45 (c_X9_found (by omega) (by omega) (by intros; omega)) (kk := fun r45 t45 h45 => ?_)
        obtain ⟨rfl, ee45⟩ := h45
        obtain rfl := ee45.symm
        exact aw_iret G T dX9_orders_48 (by
    have hne : NetEq σ 1 α 75 := ⟨e0, e1, er⟩
    refine ⟨?_, by unfold nx_orders; (repeat' split) <;> first | exact RX_th ho40 hX | (exfalso; omega), MS_th ho40⟩
    rcases hc40 with ⟨q1, q2⟩ | ⟨q1, q2, f, q3, q4⟩
    · by_cases z : i = -1
      · rw [if_pos z, q1]
        unfold an_orders
        rw [if_neg (by omega), if_neg (by omega), if_pos (by omega)]
        exact oN_e hne p4
      · rw [if_neg z, if_neg (by omega)]
        unfold an_orders
        rw [if_neg (by omega), if_neg (by omega), if_neg (by omega), (oaI_n (by omega)).mpr (by rw [← oN_e hne p4]; omega)]
    · rw [if_neg (by omega), if_pos (by omega)]
      unfold an_orders
      rw [if_neg (by omega), if_neg (by omega), if_neg (by omega), ← oI_e hne p4 i, q3]
      exact q4 l (by omega) (by omega))
      · try simp only [b01_0, b01_n, bP_0, bP_n, Classical.not_not] at c25
        refine aw_aload_n G dX9_orders_28 rfl ?_
        refine aw_iconst G dX9_orders_29 ?_
        refine cv_X9_77 G dX9_orders_30 (c_X9_refused (by decide)) (kk := fun r30 t30 h30 => ?_)
        obtain ⟨rfl, ee30⟩ := h30
        obtain rfl := ee30.symm
        exact aw_iret G T dX9_orders_33 (⟨by unfold an_orders; (repeat' split) <;> first | rfl | (exfalso; omega) | omega, by unfold nx_orders; (repeat' split) <;> first | exact hX | exact RX_ref hX (by decide) | (exfalso; omega), by first | exact MS.rf _ | exact (MS.rf _).up (by decide)⟩)
  · refine aw_aload_n G dX9_orders_5 rfl ?_
    refine aw_bipush G dX9_orders_6 (k := ?_)
    refine cv_X9_77 G dX9_orders_8 (c_X9_refused (by decide)) (kk := fun r8 t8 h8 => ?_)
    obtain ⟨rfl, ee8⟩ := h8
    obtain rfl := ee8.symm
    exact aw_iret G T dX9_orders_11 (⟨by unfold an_orders; (repeat' split) <;> first | rfl | (exfalso; omega) | omega, by unfold nx_orders; (repeat' split) <;> first | exact hX | exact RX_ref hX (by decide) | (exfalso; omega), by first | exact MS.rf _ | exact (MS.rf _).up (by decide)⟩)
set_option maxHeartbeats 4000000 in
theorem c_X9_spread {V : Wd} {σ : St} {α : St} (hk : OK α) (hX : RX α σ) : Ct V yX9_spread cX9_spread 1 (some .int) 5 108 [rv V 0] σ (PI (fun r τ => r = an_spread α ∧ RX α τ ∧ MS σ τ)) := by
  refine ct_of (by decide) (Nat.le_of_ble_eq_true rfl) (fun X G T => ?_)
  have G : Gd X V cX9_spread RX9 1 5 108 := G
  show AW X V σ 0 [] [some (rv V 0)]
  have hN : NetOK σ 1 := hX.1.ok hk.1
  obtain ⟨⟨e0, e1, er⟩, ⟨x1, x2⟩, xp, xl, xr, xi⟩ := id hX
  obtain ⟨⟨n1, n2, n3, n4, n5, n6⟩, u1, l1, l2, i1, s1, w1⟩ := id hk
  obtain ⟨p1, p2, p3, p4, p5, p6⟩ := id hN
  refine aw_aload_n G dX9_spread_0 rfl ?_
  refine gf_X9_35 G dX9_spread_1 (kk := ?_)
  refine cv_X9_197 G dX9_spread_4 (c_X7_leastSpread hN) (kk := fun r4 t4 h4 => ?_)
  obtain ⟨ho4, hc4⟩ := h4
  exact aw_iret G T dX9_spread_7 (⟨by rw [hc4]; unfold an_spread; rw [spr_e ⟨e0, e1, er⟩ p4, e1], RX_th ho4 hX, MS_th ho4⟩)
