theorem fac_8 {n : Nat} (hn : n ≤ 8) : 1 ≤ fac n ∧ fac n ≤ 40320 := by
  rcases (show n = 0 ∨ n = 1 ∨ n = 2 ∨ n = 3 ∨ n = 4 ∨ n = 5 ∨ n = 6 ∨ n = 7 ∨ n = 8 by omega) with e | e | e | e | e | e | e | e | e <;> rw [e] <;> decide
noncomputable def oN (W : Int → Int → Int) (L n : Int) : Int := wayN (wQ W L n 1) (nxP L) (fac L.toNat).toNat (fun j => j + 1)
noncomputable def oI (W : Int → Int → Int) (L n i : Int) : Option (Int → Int) := wayI (wQ W L n 1) (nxP L) (fac L.toNat).toNat (fun j => j + 1) i
def spv (W : Int → Int → Int) (L n : Int) (f : Int → Int) : Int := mxTo (tsum W f L) (n - 1).toNat - mnTo (tsum W f L) (n - 1).toNat
noncomputable def accS (W : Int → Int → Int) (L n : Int) (f : Int → Int) (a : Int) : Int := if bP (wQ W L n 1 f) = 1 then (if a < 0 then spv W L n f else min a (spv W L n f)) else a
noncomputable def spr (W : Int → Int → Int) (L n : Int) : Nat → (Int → Int) → Int → Int
  | 0, _, a => a
  | w + 1, f, a => spr W L n w (nxP L f) (accS W L n f a)
theorem spr_s (W : Int → Int → Int) (L n : Int) (w : Nat) (f : Int → Int) (a : Int) : spr W L n (w + 1) f a = spr W L n w (nxP L f) (accS W L n f a) := rfl
theorem mxmn (f : Int → Int) : ∀ n : Nat, mnTo f n ≤ f 0 ∧ f 0 ≤ mxTo f n
  | 0 => ⟨Int.le_refl _, Int.le_refl _⟩
  | n + 1 => by
    have h := mxmn f n
    unfold mnTo mxTo
    omega
set_option maxHeartbeats 4000000 in
theorem c_X7_exchange {V : Wd} {σ : St} {ρ : St} {f : Int → Int} {a b : Int} (hN : NetOK ρ 1) (hT : TH ρ σ f) (ha : 0 ≤ a ∧ a < ρ 1 1) (hb : 0 ≤ b ∧ b < ρ 1 1) : Ct V yX7_exchange cX7_exchange 4 none 1 23 [rv V 47, iv a, iv b] σ (PV (fun τ => TH ρ τ (swp f a b) ∧ Only [48, 49] σ τ)) := by
  refine ct_of (by decide) (Nat.le_of_ble_eq_true rfl) (fun X G T => ?_)
  have G : Gd X V cX7_exchange RX7 4 1 23 := G
  show AW X V σ 0 [] [some (rv V 47), some (iv a), some (iv b), none]
  have n4 := hN.2.2.2.1
  refine aw_aload_n G dX7_exchange_0 rfl ?_
  refine gf_X7_9 G dX7_exchange_1 (kk := ?_)
  refine aw_iload_n G dX7_exchange_4 rfl ?_
  refine aw_iaload G dX7_exchange_5 (by first | decide | assumption | omega) (by first | rfl | assumption) (by first | decide | assumption) (by omega) ?_
  rw [(hT.2.1 a ha.1 ha.2).1]
  refine aw_istore_3 G dX7_exchange_6 (hc := by first | rfl | assumption) (k := ?_)
  refine aw_aload_n G dX7_exchange_7 rfl ?_
  refine aw_iload_n G dX7_exchange_8 rfl ?_
  refine aw_aload_n G dX7_exchange_9 rfl ?_
  refine gf_X7_9 G dX7_exchange_10 (kk := ?_)
  refine aw_iload_n G dX7_exchange_13 rfl ?_
  refine aw_iaload G dX7_exchange_14 (by first | decide | assumption | omega) (by first | rfl | assumption) (by first | decide | assumption) (by omega) ?_
  rw [(hT.2.1 b hb.1 hb.2).1]
  refine cv_X7_76 G dX7_exchange_15 (c_X7_relabel hN hT (by omega)) (kk := fun t15 h15 => ?_)
  obtain ⟨hT15, ho15⟩ := h15
  refine aw_aload_n G dX7_exchange_18 rfl ?_
  refine aw_iload_n G dX7_exchange_19 rfl ?_
  refine aw_iload_n G dX7_exchange_20 rfl ?_
  refine cv_X7_76 G dX7_exchange_21 (c_X7_relabel hN hT15 (by omega)) (kk := fun t21 h21 => ?_)
  obtain ⟨hT21, ho21⟩ := h21
  exact aw_vret G T dX7_exchange_24 (⟨hT21, ho15.tr ho21⟩)

set_option maxHeartbeats 4000000 in
theorem c_X7_ordersOf {V : Wd} {σ : St} {n : Int} (hn : 0 ≤ n ∧ n ≤ 8) : Ct V yX7_ordersOf cX7_ordersOf 3 (some .int) 0 0 [iv n] σ (PI (fun r τ => r = fac n.toNat ∧ τ = σ)) := by
  refine ct_of (by decide) (Nat.le_of_ble_eq_true rfl) (fun X G T => ?_)
  have G : Gd X V cX7_ordersOf RX7 3 0 0 := G
  show AW X V σ 0 [] [some (iv n), none, none]
  have loop : ∀ (n0 : Nat) (i : Int), (2 ≤ i ∧ (i ≤ n + 1 ∨ i = 2)) → (n + 2 < i + (n0 : Int)) → AW X V (σ) 4 [] [some (iv n), some (iv (fac (i - 1).toNat)), some (iv i)] := by
    intro n0
    induction n0 with
    | zero =>
      intro i h0 h1
      exfalso
      omega
    | succ n0 ih =>
      intro i h0 h1
      refine aw_iload_n G dX7_ordersOf_4 rfl ?_
      refine aw_iload_n G dX7_ordersOf_5 rfl ?_
      refine aw_icmp_gt (tgt := 19) G dX7_ordersOf_6 (by decide) (by first | omega | exact b01_R _ | exact bP_R _) (by first | omega | exact b01_R _ | exact bP_R _) (fun c6 => ?_) (fun c6 => ?_)
      · refine aw_iload_n G dX7_ordersOf_19 rfl ?_
        exact aw_iret G T dX7_ordersOf_20 (by
          refine ⟨?_, rfl⟩
          by_cases c : n = 0
          · rw [c, show i = 2 by omega]
            decide
          · rw [show i - 1 = n by omega])
      · refine aw_iload_n G dX7_ordersOf_9 rfl ?_
        refine aw_iload_n G dX7_ordersOf_10 rfl ?_
        refine aw_imul G dX7_ordersOf_11 ?_
        refine aw_istore_1 G dX7_ordersOf_12 (hc := by first | rfl | assumption) (k := ?_)
        refine aw_iinc_2 G dX7_ordersOf_13 rfl (hc := by first | rfl | assumption) (k := ?_)
        refine aw_goto (tgt := 4) G dX7_ordersOf_16 (by decide) ?_
        have hz := ih (i + 1) (by omega) (by omega)
        rw [show (i + 1 - 1).toNat = (i - 1).toNat + 1 by omega, fac_s, show (((i - 1).toNat : Nat) : Int) + 1 = i by omega] at hz
        exact hz
  refine aw_iconst G dX7_ordersOf_0 ?_
  refine aw_istore_1 G dX7_ordersOf_1 (hc := by first | rfl | assumption) (k := ?_)
  refine aw_iconst G dX7_ordersOf_2 ?_
  refine aw_istore_2 G dX7_ordersOf_3 (hc := by first | rfl | assumption) (k := ?_)
  exact loop (n.toNat + 1) 2 (by omega) (by omega)
set_option maxHeartbeats 4000000 in
theorem c_X7_beginOrders {V : Wd} {σ : St}  (hN : NetOK σ 1) : Ct V yX7_beginOrders cX7_beginOrders 2 none 3 63 [rv V 47] σ (PV (fun τ => TH σ τ (fun j => j + 1))) := by
  refine ct_of (by decide) (Nat.le_of_ble_eq_true rfl) (fun X G T => ?_)
  have G : Gd X V cX7_beginOrders RX7 2 3 63 := G
  show AW X V σ 0 [] [some (rv V 47), none]
  obtain ⟨n1, n2, n3, n4, n5, n6⟩ := id hN
  have loop : ∀ (n0 : Nat) (i : Int) (τ : St), (0 ≤ i ∧ i ≤ σ 1 1) → (σ 1 1 < i + (n0 : Int)) → (TH σ τ (fun j => if j < i then j + 1 else 0)) → AW X V (τ) 6 [] [some (rv V 47), some (iv i)] := by
    intro n0
    induction n0 with
    | zero =>
      intro i τ h0 h1 hT1
      exfalso
      omega
    | succ n0 ih =>
      intro i τ h0 h1 hT1
      refine aw_iload_n G dX7_beginOrders_6 rfl ?_
      refine aw_aload_n G dX7_beginOrders_7 rfl ?_
      refine gf_X7_34 G dX7_beginOrders_8 (kk := ?_)
      refine gf_X7_38 G dX7_beginOrders_11 (kk := ?_)
      rw [hT1.1 1 (by decide)]
      refine aw_icmp_ge (tgt := 31) G dX7_beginOrders_14 (by decide) (by first | omega | exact b01_R _ | exact bP_R _) (by first | omega | exact b01_R _ | exact bP_R _) (fun c14 => ?_) (fun c14 => ?_)
      · exact aw_vret G T dX7_beginOrders_31 (TH_c (fun j a b => if_pos (by omega)) hT1)
      · refine aw_aload_n G dX7_beginOrders_17 rfl ?_
        refine aw_iload_n G dX7_beginOrders_18 rfl ?_
        refine aw_iload_n G dX7_beginOrders_19 rfl ?_
        refine aw_iconst G dX7_beginOrders_20 ?_
        refine aw_iadd G dX7_beginOrders_21 ?_
        refine cv_X7_76 G dX7_beginOrders_22 (c_X7_relabel hN hT1 (by omega)) (kk := fun t22 h22 => ?_)
        obtain ⟨hT22, ho22⟩ := h22
        refine aw_iinc_1 G dX7_beginOrders_25 rfl (hc := by first | rfl | assumption) (k := ?_)
        refine aw_goto (tgt := 6) G dX7_beginOrders_28 (by decide) ?_
        refine ih (i + 1) _ (by omega) (by omega) (TH_c (fun j a b => ?_) hT22)
        by_cases e : j = i
        · rw [e, upf_at, if_pos (by omega)]
        · rw [upf_o e]
          by_cases z : j < i
          · rw [if_pos z, if_pos (by omega)]
          · rw [if_neg z, if_neg (by omega)]
  refine aw_aload_n G dX7_beginOrders_0 rfl ?_
  refine cv_X7_56 G dX7_beginOrders_1 (c_X7_begin (by assumption)) (kk := fun t1 h1 => ?_)
  refine aw_iconst G dX7_beginOrders_4 ?_
  refine aw_istore_1 G dX7_beginOrders_5 (hc := by first | rfl | assumption) (k := ?_)
  exact loop ((σ 1 1).toNat + 1) 0 t1 (by omega) (by omega) (TH_c (fun j a b => by rw [if_neg (by omega)]) h1.1)
set_option maxHeartbeats 4000000 in
theorem c_X7_nextOrder {V : Wd} {σ : St} {ρ : St} {f : Int → Int} (hN : NetOK ρ 1) (hT0 : TH ρ σ f) (hP : PO (ρ 1 1) f) : Ct V yX7_nextOrder cX7_nextOrder 6 none 2 46 [rv V 47] σ (PV (fun τ => TH ρ τ (nxP (ρ 1 1) f) ∧ Only [48, 49] σ τ)) := by
  refine ct_of (by decide) (Nat.le_of_ble_eq_true rfl) (fun X G T => ?_)
  have G : Gd X V cX7_nextOrder RX7 6 2 46 := G
  show AW X V σ 0 [] [some (rv V 47), none, none, none, none, none]
  obtain ⟨n1, n2, n3, n4, n5, n6⟩ := id hN
  have three : ∀ (n0 : Nat) (lo : Int) (hi : Int) (τ : St) (g : Int → Int) (k : Nat) (a : Int) (b : Int), (0 ≤ lo ∧ hi < ρ 1 1 ∧ lo ≤ hi + 1) → (hi - lo + 1 < (n0 : Int)) → (TH ρ τ g) → (Only [48, 49] σ τ) → (hi - lo ≤ 2 * k) → (rvs k g lo hi = nxP (ρ 1 1) f) → AW X V (τ) 90 [] [some (rv V 47), some (iv (ρ 1 1 - 1)), some (iv a), some (iv b), some (iv lo), some (iv hi)] := by
    intro n0
    induction n0 with
    | zero =>
      intro lo hi τ g k a b h0 h1 hT hO hk hq
      exfalso
      omega
    | succ n0 ih =>
      intro lo hi τ g k a b h0 h1 hT hO hk hq
      refine aw_iload G dX7_nextOrder_90 rfl ?_
      refine aw_iload G dX7_nextOrder_92 rfl ?_
      refine aw_icmp_le (tgt := 114) G dX7_nextOrder_94 (by decide) (by first | omega | exact b01_R _ | exact bP_R _) (by first | omega | exact b01_R _ | exact bP_R _) (fun c94 => ?_) (fun c94 => ?_)
      · exact aw_vret G T dX7_nextOrder_114 (by
          have hz : rvs k g lo hi = g := by
            cases k with
            | zero => rfl
            | succ k => rw [rvs_s, if_neg (by omega)]
          rw [← hq, hz]
          exact ⟨hT, hO⟩)
      · refine aw_aload_n G dX7_nextOrder_97 rfl ?_
        refine aw_iload G dX7_nextOrder_98 rfl ?_
        refine aw_iload G dX7_nextOrder_100 rfl ?_
        refine cv_X7_113 G dX7_nextOrder_102 (c_X7_exchange hN hT (by omega) (by omega)) (kk := fun t102 h102 => ?_)
        obtain ⟨hT102, ho102⟩ := h102
        refine aw_iinc_4 G dX7_nextOrder_105 rfl (hc := by first | rfl | assumption) (k := ?_)
        refine aw_iinc_5 G dX7_nextOrder_108 rfl (hc := by first | rfl | assumption) (k := ?_)
        refine aw_goto (tgt := 90) G dX7_nextOrder_111 (by decide) ?_
        obtain ⟨k', rfl⟩ : ∃ q, k = q + 1 := ⟨k - 1, by omega⟩
        rw [rvs_s, if_pos (by omega)] at hq
        exact ih (lo + 1) (hi + -1) _ _ k' a b (by omega) (by omega) hT102 (hO.tr ho102) (by omega) hq
  have two : ∀ (n0 : Nat) (gr : Int) (a : Int), (0 ≤ a ∧ a + 1 < ρ 1 1) → (pkL (ρ 1 1) f = a) → (a + 1 ≤ gr ∧ gr < ρ 1 1) → (gr - a - 1 < (n0 : Int)) → (pm f (f a) a (gr - a - 1).toNat = pmL (ρ 1 1) f) → (f a ≤ 100000 ∧ -100000 ≤ f a) → (∀ j : Int, 0 ≤ j → j < ρ 1 1 → -100000 ≤ f j ∧ f j ≤ 100000) → AW X V (σ) 48 [] [some (rv V 47), some (iv (ρ 1 1 - 1)), some (iv a), some (iv gr), none, none] := by
    intro n0
    induction n0 with
    | zero =>
      intro gr a ha hpk h0 h1 hq hfa hR
      exfalso
      omega
    | succ n0 ih =>
      intro gr a ha hpk h0 h1 hq hfa hR
      refine aw_iload_n G dX7_nextOrder_48 rfl ?_
      refine aw_iload_n G dX7_nextOrder_49 rfl ?_
      refine aw_iconst G dX7_nextOrder_50 ?_
      refine aw_iadd G dX7_nextOrder_51 ?_
      refine aw_icmp_le (tgt := 76) G dX7_nextOrder_52 (by decide) (by first | omega | exact b01_R _ | exact bP_R _) (by first | omega | exact b01_R _ | exact bP_R _) (fun c52 => ?_) (fun c52 => ?_)
      · have hpm : pmL (ρ 1 1) f = gr := by
          rw [← hq]
          by_cases e : gr = a + 1
          · rw [show (gr - a - 1).toNat = 0 by omega, e]
            rfl
          · obtain ⟨m, hm⟩ : ∃ m : Nat, gr - a - 1 = (m : Int) + 1 := ⟨(gr - a - 2).toNat, by omega⟩
            rw [show (gr - a - 1).toNat = m + 1 by omega, pm_s, show a + 1 + ((m : Int) + 1) = gr by omega]
            first | rw [if_neg (by omega)] | (exfalso; omega)
        refine aw_aload_n G dX7_nextOrder_76 rfl ?_
        refine aw_iload_n G dX7_nextOrder_77 rfl ?_
        refine aw_iload_n G dX7_nextOrder_78 rfl ?_
        refine cv_X7_113 G dX7_nextOrder_79 (c_X7_exchange hN hT0 (by omega) (by omega)) (kk := fun t79 h79 => ?_)
        obtain ⟨hT79, ho79⟩ := h79
        refine aw_iload_n G dX7_nextOrder_82 rfl ?_
        refine aw_iconst G dX7_nextOrder_83 ?_
        refine aw_iadd G dX7_nextOrder_84 ?_
        refine aw_istore_4 G dX7_nextOrder_85 (hc := by first | rfl | assumption) (k := ?_)
        refine aw_iload_n G dX7_nextOrder_87 rfl ?_
        refine aw_istore_5 G dX7_nextOrder_88 (hc := by first | rfl | assumption) (k := ?_)
        exact three ((ρ 1 1).toNat + 1) (a + 1) (ρ 1 1 - 1) t79 _ (ρ 1 1).toNat a gr (by omega) (by omega) hT79 ho79 (by omega) (by unfold nxP; rw [hpk, hpm, if_neg (by omega)])
      · have hRg := hR gr (by omega) (by omega)
        refine aw_aload_n G dX7_nextOrder_55 rfl ?_
        refine gf_X7_9 G dX7_nextOrder_56 (kk := ?_)
        refine aw_iload_n G dX7_nextOrder_59 rfl ?_
        refine aw_iaload G dX7_nextOrder_60 (by first | decide | assumption | omega) (by first | rfl | assumption) (by first | decide | assumption) (by omega) ?_
        rw [(hT0.2.1 (gr) (by omega) (by omega)).1]
        refine aw_aload_n G dX7_nextOrder_61 rfl ?_
        refine gf_X7_9 G dX7_nextOrder_62 (kk := ?_)
        refine aw_iload_n G dX7_nextOrder_65 rfl ?_
        refine aw_iaload G dX7_nextOrder_66 (by first | decide | assumption | omega) (by first | rfl | assumption) (by first | decide | assumption) (by omega) ?_
        rw [(hT0.2.1 (a) (by omega) (by omega)).1]
        refine aw_icmp_ge (tgt := 76) G dX7_nextOrder_67 (by decide) (by first | omega | exact b01_R _ | exact bP_R _) (by first | omega | exact b01_R _ | exact bP_R _) (fun c67 => ?_) (fun c67 => ?_)
        · have hpm : pmL (ρ 1 1) f = gr := by
            rw [← hq]
            by_cases e : gr = a + 1
            · rw [show (gr - a - 1).toNat = 0 by omega, e]
              rfl
            · obtain ⟨m, hm⟩ : ∃ m : Nat, gr - a - 1 = (m : Int) + 1 := ⟨(gr - a - 2).toNat, by omega⟩
              rw [show (gr - a - 1).toNat = m + 1 by omega, pm_s, show a + 1 + ((m : Int) + 1) = gr by omega]
              first | rw [if_neg (by omega)] | (exfalso; omega)
          refine aw_aload_n G dX7_nextOrder_76 rfl ?_
          refine aw_iload_n G dX7_nextOrder_77 rfl ?_
          refine aw_iload_n G dX7_nextOrder_78 rfl ?_
          refine cv_X7_113 G dX7_nextOrder_79 (c_X7_exchange hN hT0 (by omega) (by omega)) (kk := fun t79 h79 => ?_)
          obtain ⟨hT79, ho79⟩ := h79
          refine aw_iload_n G dX7_nextOrder_82 rfl ?_
          refine aw_iconst G dX7_nextOrder_83 ?_
          refine aw_iadd G dX7_nextOrder_84 ?_
          refine aw_istore_4 G dX7_nextOrder_85 (hc := by first | rfl | assumption) (k := ?_)
          refine aw_iload_n G dX7_nextOrder_87 rfl ?_
          refine aw_istore_5 G dX7_nextOrder_88 (hc := by first | rfl | assumption) (k := ?_)
          exact three ((ρ 1 1).toNat + 1) (a + 1) (ρ 1 1 - 1) t79 _ (ρ 1 1).toNat a gr (by omega) (by omega) hT79 ho79 (by omega) (by unfold nxP; rw [hpk, hpm, if_neg (by omega)])
        · refine aw_iinc_3 G dX7_nextOrder_70 rfl (hc := by first | rfl | assumption) (k := ?_)
          refine aw_goto (tgt := 48) G dX7_nextOrder_73 (by decide) ?_
          obtain ⟨m, hm⟩ : ∃ m : Nat, gr - a - 1 = (m : Int) + 1 := ⟨(gr - a - 2).toNat, by omega⟩
          rw [show (gr - a - 1).toNat = m + 1 by omega, pm_s, show a + 1 + ((m : Int) + 1) = gr by omega, if_pos (by omega)] at hq
          exact ih (gr + -1) a ha hpk (by omega) (by omega) (by rw [show (gr + -1 - a - 1).toNat = m by omega]; exact hq) hfa hR
  have one : ∀ (n0 : Nat) (a : Int), (-2 ≤ a ∧ a + 1 < ρ 1 1 ∧ (a = -2 → ρ 1 1 = 0)) → (a + 2 < (n0 : Int)) → (pk f (a + 1).toNat = pkL (ρ 1 1) f) → (∀ j : Int, 0 ≤ j → j < ρ 1 1 → -100000 ≤ f j ∧ f j ≤ 100000) → AW X V (σ) 14 [] [some (rv V 47), some (iv (ρ 1 1 - 1)), some (iv a), none, none, none] := by
    intro n0
    induction n0 with
    | zero =>
      intro a h0 h1 hq hR
      exfalso
      omega
    | succ n0 ih =>
      intro a h0 h1 hq hR
      refine aw_iload_n G dX7_nextOrder_14 rfl ?_
      refine aw_if_lt (tgt := 41) G dX7_nextOrder_15 (by decide) (by first | omega | exact b01_R _ | exact bP_R _) (fun c15 => ?_) (fun c15 => ?_)
      · refine aw_iload_n G dX7_nextOrder_41 rfl ?_
        refine aw_if_ge (tgt := 46) G dX7_nextOrder_42 (by decide) (by first | omega | exact b01_R _ | exact bP_R _) (fun c42 => ?_) (fun c42 => ?_)
        · refine aw_iload_n G dX7_nextOrder_46 rfl ?_
          refine aw_istore_3 G dX7_nextOrder_47 (hc := by first | rfl | assumption) (k := ?_)
          first
            | (exfalso; omega)
            | (rw [show (a + 1).toNat = a.toNat + 1 by omega, pk_s, show ((a.toNat : Nat) : Int) = a by omega, if_neg (by omega)] at hq
               exact two ((ρ 1 1).toNat + 1) (ρ 1 1 - 1) a (by omega) hq.symm (by omega) (by omega) (by unfold pmL; rw [← hq, show ρ 1 1 - 1 - (a + 1) = ρ 1 1 - 1 - a - 1 by omega]) (by omega) hR)
        · exact aw_vret G T dX7_nextOrder_45 (by
          first
            | (exfalso; omega)
            | (have hk : pkL (ρ 1 1) f = -1 := by
                 rw [← hq, show (a + 1).toNat = 0 by omega]
                 rfl
               unfold nxP
               rw [if_pos (by omega)]
               exact ⟨hT0, Only.rf⟩))
      · have hRa := hR a (by omega) (by omega)
        have hRb := hR (a + 1) (by omega) (by omega)
        refine aw_aload_n G dX7_nextOrder_18 rfl ?_
        refine gf_X7_9 G dX7_nextOrder_19 (kk := ?_)
        refine aw_iload_n G dX7_nextOrder_22 rfl ?_
        refine aw_iaload G dX7_nextOrder_23 (by first | decide | assumption | omega) (by first | rfl | assumption) (by first | decide | assumption) (by omega) ?_
        rw [(hT0.2.1 (a) (by omega) (by omega)).1]
        refine aw_aload_n G dX7_nextOrder_24 rfl ?_
        refine gf_X7_9 G dX7_nextOrder_25 (kk := ?_)
        refine aw_iload_n G dX7_nextOrder_28 rfl ?_
        refine aw_iconst G dX7_nextOrder_29 ?_
        refine aw_iadd G dX7_nextOrder_30 ?_
        refine aw_iaload G dX7_nextOrder_31 (by first | decide | assumption | omega) (by first | rfl | assumption) (by first | decide | assumption) (by omega) ?_
        rw [(hT0.2.1 (a + 1) (by omega) (by omega)).1]
        refine aw_icmp_le (tgt := 41) G dX7_nextOrder_32 (by decide) (by first | omega | exact b01_R _ | exact bP_R _) (by first | omega | exact b01_R _ | exact bP_R _) (fun c32 => ?_) (fun c32 => ?_)
        · refine aw_iload_n G dX7_nextOrder_41 rfl ?_
          refine aw_if_ge (tgt := 46) G dX7_nextOrder_42 (by decide) (by first | omega | exact b01_R _ | exact bP_R _) (fun c42 => ?_) (fun c42 => ?_)
          · refine aw_iload_n G dX7_nextOrder_46 rfl ?_
            refine aw_istore_3 G dX7_nextOrder_47 (hc := by first | rfl | assumption) (k := ?_)
            first
              | (exfalso; omega)
              | (rw [show (a + 1).toNat = a.toNat + 1 by omega, pk_s, show ((a.toNat : Nat) : Int) = a by omega, if_neg (by omega)] at hq
                 exact two ((ρ 1 1).toNat + 1) (ρ 1 1 - 1) a (by omega) hq.symm (by omega) (by omega) (by unfold pmL; rw [← hq, show ρ 1 1 - 1 - (a + 1) = ρ 1 1 - 1 - a - 1 by omega]) (by omega) hR)
          · exact aw_vret G T dX7_nextOrder_45 (by
          first
            | (exfalso; omega)
            | (have hk : pkL (ρ 1 1) f = -1 := by
                 rw [← hq, show (a + 1).toNat = 0 by omega]
                 rfl
               unfold nxP
               rw [if_pos (by omega)]
               exact ⟨hT0, Only.rf⟩))
        · refine aw_iinc_2 G dX7_nextOrder_35 rfl (hc := by first | rfl | assumption) (k := ?_)
          refine aw_goto (tgt := 14) G dX7_nextOrder_38 (by decide) ?_
          rw [show (a + 1).toNat = a.toNat + 1 by omega, pk_s, show ((a.toNat : Nat) : Int) = a by omega, if_pos (by omega)] at hq
          exact ih (a + -1) (by omega) (by omega) (by rw [show (a + -1 + 1).toNat = a.toNat by omega]; exact hq) hR
  refine aw_aload_n G dX7_nextOrder_0 rfl ?_
  refine gf_X7_34 G dX7_nextOrder_1 (kk := ?_)
  refine gf_X7_38 G dX7_nextOrder_4 (kk := ?_)
  rw [hT0.1 1 (by decide)]
  refine aw_iconst G dX7_nextOrder_7 ?_
  refine aw_isub G dX7_nextOrder_8 ?_
  refine aw_istore_1 G dX7_nextOrder_9 (hc := by first | rfl | assumption) (k := ?_)
  refine aw_iload_n G dX7_nextOrder_10 rfl ?_
  refine aw_iconst G dX7_nextOrder_11 ?_
  refine aw_isub G dX7_nextOrder_12 ?_
  refine aw_istore_2 G dX7_nextOrder_13 (hc := by first | rfl | assumption) (k := ?_)
  exact one ((ρ 1 1).toNat + 1) (ρ 1 1 - 1 - 1) (by omega) (by omega) (by unfold pkL; rw [show ρ 1 1 - 1 - 1 + 1 = ρ 1 1 - 1 by omega]) (fun j a b => by have := hP.2 j a b; omega)
