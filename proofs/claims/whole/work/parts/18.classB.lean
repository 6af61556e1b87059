def rl (σ : St) (l : Int) : Int := if ¬ (0 ≤ l ∧ l < 3) then -1 else if σ 71 l < 0 then -11 else 0
def rp (σ : St) (l i : Int) : Int := if ¬ (0 ≤ l ∧ l < 3) then -1 else if σ 71 l < 0 then -11 else if ¬ (0 ≤ i ∧ i < σ 71 l) then -13 else 0
def rt (σ : St) (r : Int) : St := if r = -1 then up σ 72 (-(-1)) (σ 72 (-(-1)) + 1) else σ
theorem rl_R (σ : St) (l : Int) : inR (rl σ l) := by
  unfold rl
  (repeat' split) <;> decide
theorem rp_R (σ : St) (l i : Int) : inR (rp σ l i) := by
  unfold rp
  (repeat' split) <;> decide
theorem rt_n {σ : St} {r : Int} (h : r ≠ -1) : rt σ r = σ := if_neg h
set_option maxHeartbeats 4000000 in
theorem c_X9_refusalOfList {V : Wd} {σ : St} {l : Int} (h1 : inR l) (hs : ∀ l, 0 ≤ l → l < 3 → inR (σ 71 l)) : Ct V yX9_refusalOfList cX9_refusalOfList 2 (some .int) 1 21 [rv V 0, iv l] σ (PI (fun r τ => r = rl σ l ∧ τ = rt σ r)) := by
  refine ct_of (by decide) (Nat.le_of_ble_eq_true rfl) (fun X G T => ?_)
  have G : Gd X V cX9_refusalOfList RX9 2 1 21 := G
  show AW X V σ 0 [] [some (rv V 0), some (iv l)]
  refine aw_iload_n G dX9_refusalOfList_0 rfl ?_
  refine cs_X9_238 G dX9_refusalOfList_1 (c_X9_isList (by first | assumption | omega)) (kk := fun r1 t1 h1 => ?_)
  obtain ⟨rfl, ee1⟩ := h1
  obtain rfl := ee1.symm
  refine aw_if_ne (tgt := 13) G dX9_refusalOfList_4 (by decide) (by first | omega | exact b01_R _ | exact bP_R _) (fun c4 => ?_) (fun c4 => ?_)
  · try simp only [b01_0, b01_n, bP_0, bP_n, Classical.not_not] at c4
    have hz := hs l (by omega) (by omega)
    refine aw_aload_n G dX9_refusalOfList_13 rfl ?_
    refine gf_X9_63 G dX9_refusalOfList_14 (kk := ?_)
    refine aw_iload_n G dX9_refusalOfList_17 rfl ?_
    refine cv_X9_274 G dX9_refusalOfList_18 (c_X2_isMissing (by omega) (by omega)) (kk := fun r18 t18 h18 => ?_)
    obtain ⟨rfl, ee18⟩ := h18
    obtain rfl := ee18.symm
    refine aw_if_eq (tgt := 29) G dX9_refusalOfList_21 (by decide) (by first | omega | exact b01_R _ | exact bP_R _) (fun c21 => ?_) (fun c21 => ?_)
    · try simp only [b01_0, b01_n, bP_0, bP_n, Classical.not_not] at c21
      refine aw_iconst G dX9_refusalOfList_29 ?_
      exact aw_iret G T dX9_refusalOfList_30 (⟨by unfold rl; rw [if_neg (by omega)]; first | rw [if_pos (by omega)] | rw [if_neg (by omega)], (rt_n (by decide)).symm⟩)
    · try simp only [b01_0, b01_n, bP_0, bP_n, Classical.not_not] at c21
      refine aw_bipush G dX9_refusalOfList_24 (k := ?_)
      refine aw_goto (tgt := 30) G dX9_refusalOfList_26 (by decide) ?_
      exact aw_iret G T dX9_refusalOfList_30 (⟨by unfold rl; rw [if_neg (by omega)]; first | rw [if_pos (by omega)] | rw [if_neg (by omega)], (rt_n (by decide)).symm⟩)
  · try simp only [b01_0, b01_n, bP_0, bP_n, Classical.not_not] at c4
    refine aw_aload_n G dX9_refusalOfList_7 rfl ?_
    refine aw_iconst G dX9_refusalOfList_8 ?_
    refine cv_X9_77 G dX9_refusalOfList_9 (c_X9_refused (by decide)) (kk := fun r9 t9 h9 => ?_)
    obtain ⟨rfl, ee9⟩ := h9
    obtain rfl := ee9.symm
    exact aw_iret G T dX9_refusalOfList_12 (⟨by unfold rl; rw [if_pos c4], by unfold rt; rw [if_pos rfl]⟩)

set_option maxHeartbeats 4000000 in
theorem c_X9_refusalOfPlace {V : Wd} {σ : St} {l i : Int} (h1 : inR l) (h2 : inR i) (hs71 : ∀ l, 0 ≤ l → l < 3 → inR (σ 71 l)) : Ct V yX9_refusalOfPlace cX9_refusalOfPlace 4 (some .int) 2 42 [rv V 0, iv l, iv i] σ (PI (fun r τ => r = rp σ l i ∧ τ = rt σ r)) := by
  refine ct_of (by decide) (Nat.le_of_ble_eq_true rfl) (fun X G T => ?_)
  have G : Gd X V cX9_refusalOfPlace RX9 4 2 42 := G
  show AW X V σ 0 [] [some (rv V 0), some (iv l), some (iv i), none]
  refine aw_aload_n G dX9_refusalOfPlace_0 rfl ?_
  refine aw_iload_n G dX9_refusalOfPlace_1 rfl ?_
  refine cv_X9_251 G dX9_refusalOfPlace_2 (c_X9_refusalOfList (by first | assumption | omega) hs71) (kk := fun r2 t2 h2 => ?_)
  obtain ⟨er2, et2⟩ := h2
  refine aw_istore_3 G dX9_refusalOfPlace_5 (hc := by first | rfl | assumption) (k := ?_)
  refine aw_iload_n G dX9_refusalOfPlace_6 rfl ?_
  refine aw_if_eq (tgt := 12) G dX9_refusalOfPlace_7 (by decide) (by rw [er2]; exact rl_R _ _) (fun c7 => ?_) (fun c7 => ?_)
  · rw [c7] at er2 et2
    rw [rt_n (by decide)] at et2
    obtain rfl := et2.symm
    have hg : (0 ≤ l ∧ l < 3) ∧ ¬ σ 71 l < 0 := by
      unfold rl at er2
      revert er2
      (repeat' split) <;> simp_all
    have hz := hs71 l (by omega) (by omega)
    refine aw_iload_n G dX9_refusalOfPlace_12 rfl ?_
    refine aw_if_lt (tgt := 29) G dX9_refusalOfPlace_13 (by decide) (by first | omega | exact b01_R _ | exact bP_R _) (fun c13 => ?_) (fun c13 => ?_)
    · refine aw_bipush G dX9_refusalOfPlace_29 (k := ?_)
      refine aw_goto (tgt := 35) G dX9_refusalOfPlace_31 (by decide) ?_
      exact aw_iret G T dX9_refusalOfPlace_35 (⟨by unfold rp; rw [if_neg (by omega), if_neg (by omega)]; first | rw [if_pos (by omega)] | rw [if_neg (by omega)], (rt_n (by decide)).symm⟩)
    · refine aw_iload_n G dX9_refusalOfPlace_16 rfl ?_
      refine aw_aload_n G dX9_refusalOfPlace_17 rfl ?_
      refine gf_X9_63 G dX9_refusalOfPlace_18 (kk := ?_)
      refine gf_X9_254 G dX9_refusalOfPlace_21 (kk := ?_)
      refine aw_iload_n G dX9_refusalOfPlace_24 rfl ?_
      refine aw_iaload G dX9_refusalOfPlace_25 (by first | decide | assumption | omega) (by first | rfl | assumption) (by first | decide | assumption) (by omega) ?_
      refine aw_icmp_lt (tgt := 34) G dX9_refusalOfPlace_26 (by decide) (by first | omega | exact b01_R _ | exact bP_R _) (by first | omega | exact b01_R _ | exact bP_R _) (fun c26 => ?_) (fun c26 => ?_)
      · refine aw_iconst G dX9_refusalOfPlace_34 ?_
        exact aw_iret G T dX9_refusalOfPlace_35 (⟨by unfold rp; rw [if_neg (by omega), if_neg (by omega)]; first | rw [if_pos (by omega)] | rw [if_neg (by omega)], (rt_n (by decide)).symm⟩)
      · refine aw_bipush G dX9_refusalOfPlace_29 (k := ?_)
        refine aw_goto (tgt := 35) G dX9_refusalOfPlace_31 (by decide) ?_
        exact aw_iret G T dX9_refusalOfPlace_35 (⟨by unfold rp; rw [if_neg (by omega), if_neg (by omega)]; first | rw [if_pos (by omega)] | rw [if_neg (by omega)], (rt_n (by decide)).symm⟩)
  · refine aw_iload_n G dX9_refusalOfPlace_10 rfl ?_
    exact aw_iret G T dX9_refusalOfPlace_11 (⟨by unfold rl at er2; unfold rp; rw [er2]; (repeat' split) <;> first | rfl | (exfalso; simp_all), et2⟩)

theorem RX.seg86 {α σ : St} {l a m : Int} {f g : Int → Int} (q : RX α σ) (hl : 0 ≤ l ∧ l < 3) (ha : 0 ≤ a ∧ 0 ≤ m ∧ a + m ≤ 40) (hs : ∀ l, 0 ≤ l → l < 3 → α 85 l ≤ 40) (hf : ∀ i, 0 ≤ i → i < m → f i = g i) : RX (seg α 86 (40 * l + a) m f) (seg σ (68 + l.toNat) a m g) := by
  obtain ⟨q1, q2, q3, q4, q5, q6⟩ := q
  have sr : ∀ k, k ≠ 68 + l.toNat → seg σ (68 + l.toNat) a m g k = σ k := fun k b => seg_o b
  have ar : ∀ k, k ≠ 86 → seg α 86 (40 * l + a) m f k = α k := fun k b => seg_o b
  refine ⟨q1.k (by rw [ar _ (by decide)]) (by rw [ar _ (by decide)]) (ar _ (by decide)) (ar _ (by decide)) (ar _ (by decide)) (ar _ (by decide)) (ar _ (by decide)) (by rw [sr _ (by omega)]) (by rw [sr _ (by omega)]) (fun k a b => sr _ (by omega)), q2.k (by rw [ar _ (by decide)]) (ar _ (by decide)) (by rw [sr _ (by omega)]) (sr _ (by omega)), q3.k (by rw [ar _ (by decide)]) (ar _ (by decide)) (ar _ (by decide)) (ar _ (by decide)) (by rw [sr _ (by omega)]) (by rw [sr _ (by omega)]) (fun k a b => sr _ (by omega)), fun l' b0 b1 => ?_, q5.k (ar _ (by decide)) (sr _ (by omega)), q6.k (by rw [ar _ (by decide)]) (ar _ (by decide)) (by rw [sr _ (by omega)]) (fun k a b => sr _ (by omega))⟩
  obtain ⟨r1, r2⟩ := q4 l' b0 b1
  have h40 := hs l' b0 b1
  rw [sr 71 (by omega), ar 85 (by decide)]
  refine ⟨r1, fun i i0 i1 => ?_⟩
  have hr := r2 i i0 i1
  by_cases e : l' = l
  · subst e
    unfold seg
    by_cases z : a ≤ i ∧ i < a + m
    · rw [if_pos ⟨rfl, z⟩, if_pos (by omega), show 40 * l' + i - (40 * l' + a) = i - a by omega]
      exact (hf _ (by omega) (by omega)).symm
    · rw [if_neg (by omega), if_neg (by omega)]
      exact hr
  · rw [sr _ (by omega)]
    unfold seg
    rw [if_neg (by omega)]
    exact hr
theorem RX.size {α σ : St} {l m : Int} (q : RX α σ) (hl : 0 ≤ l ∧ l < 3) (hz : ∀ i, 0 ≤ i → i < m → σ (68 + l.toNat) i = α 86 (40 * l + i)) : RX (up α 85 l m) (up σ 71 l m) := by
  obtain ⟨q1, q2, q3, q4, q5, q6⟩ := q
  refine ⟨q1.k rfl rfl rfl rfl rfl rfl rfl rfl rfl (fun k a b => up_ne (by omega)), q2.k rfl rfl rfl rfl, q3.k rfl rfl rfl rfl rfl rfl (fun k a b => up_ne (by omega)), fun l' b0 b1 => ?_, q5.k rfl rfl, q6.k rfl rfl rfl (fun k a b => up_ne (by omega))⟩
  by_cases e : l' = l
  · subst e
    rw [up_at, up_at]
    refine ⟨rfl, fun i i0 i1 => ?_⟩
    rw [up_o (by omega), up_o (by omega)]
    exact hz i i0 i1
  · rw [up_nj e, up_nj e]
    obtain ⟨r1, r2⟩ := q4 l' b0 b1
    refine ⟨r1, fun i i0 i1 => ?_⟩
    rw [up_o (by omega), up_o (by omega)]
    exact r2 i i0 i1
theorem fill_seg (σ : St) (k : Nat) (n : Int) (f : Int → Int) : fill σ k n f = seg σ k 0 n f := by
  funext k' j
  unfold fill seg
  rw [show j - 0 = j by omega, show (0:Int) + n = n by omega]
theorem RX_ren {α σ : St} {l m : Int} (q : RX α σ) (hl : 0 ≤ l ∧ l < 3) (hm : 0 ≤ m ∧ m ≤ 40) (hs : ∀ l, 0 ≤ l → l < 3 → α 85 l ≤ 40) : RX (fun k j => if k = 86 ∧ 40 * l ≤ j ∧ j < 40 * l + m then 0 else up α 85 l m k j) (up (fill σ (68 + l.toNat) m (fun _ => 0)) 71 l m) := by
  have h := (q.seg86 (l := l) (a := 0) (m := m) (f := fun _ => 0) (g := fun _ => 0) hl (by omega) hs (fun _ _ _ => rfl)).size (l := l) (m := m) hl (fun i i0 i1 => by
    unfold seg
    rw [if_pos (by omega), if_pos (by omega)])
  rw [fill_seg]
  have e : (fun k j => if k = 86 ∧ 40 * l ≤ j ∧ j < 40 * l + m then 0 else up α 85 l m k j) = up (seg α 86 (40 * l + 0) m (fun _ => 0)) 85 l m := by
    funext k j
    unfold up seg
    by_cases e1 : k = 86
    · subst e1
      rw [if_neg (show ¬ (86 = 85 ∧ j = l) by omega), if_neg (show ¬ (86 = 85 ∧ j = l) by omega), show 40 * l + 0 = 40 * l by omega]
    · rw [if_neg (show ¬ (k = 86 ∧ 40 * l ≤ j ∧ j < 40 * l + m) by omega), if_neg (show ¬ (k = 86 ∧ 40 * l + 0 ≤ j ∧ j < 40 * l + 0 + m) by omega)]
  rw [e]
  exact h
theorem up_seg (σ : St) (k : Nat) (j x : Int) : up σ k j x = seg σ k j 1 (fun _ => x) := by
  funext k' j'
  unfold up seg
  by_cases h : k' = k ∧ j' = j
  · rw [if_pos h, if_pos ⟨h.1, by omega, by omega⟩]
  · rw [if_neg h, if_neg (by omega)]
theorem cpy_seg (σ : St) (k0 k1 : Nat) (sp dp m : Int) : cpy σ k0 sp k1 dp m = seg σ k1 dp m (fun i => σ k0 (sp + i)) := by
  funext k' j'
  unfold cpy seg
  rfl
set_option maxHeartbeats 4000000 in
theorem c_X9_list {V : Wd} {σ : St} {α : St} {l m : Int} (h1 : inR l) (h2 : inR m) (hk : OK α) (hX : RX α σ) : Ct V yX9_list cX9_list 3 (some .int) 1 23 [rv V 0, iv l, iv m] σ (PI (fun r τ => r = an_list l m ∧ RX (nx_list α l m) τ ∧ MS σ τ)) := by
  refine ct_of (by decide) (Nat.le_of_ble_eq_true rfl) (fun X G T => ?_)
  have G : Gd X V cX9_list RX9 3 1 23 := G
  show AW X V σ 0 [] [some (rv V 0), some (iv l), some (iv m)]
  have hN : NetOK σ 1 := hX.1.ok hk.1
  obtain ⟨⟨e0, e1, er⟩, ⟨x1, x2⟩, xp, xl, xr, xi⟩ := id hX
  obtain ⟨⟨n1, n2, n3, n4, n5, n6⟩, u1, l1, l2, i1, s1, w1⟩ := id hk
  obtain ⟨p1, p2, p3, p4, p5, p6⟩ := id hN
  refine aw_iload_n G dX9_list_0 rfl ?_
  refine cs_X9_238 G dX9_list_1 (c_X9_isList (by first | assumption | omega)) (kk := fun r1 t1 h1 => ?_)
  obtain ⟨rfl, ee1⟩ := h1
  obtain rfl := ee1.symm
  refine aw_if_ne (tgt := 13) G dX9_list_4 (by decide) (by first | omega | exact b01_R _ | exact bP_R _) (fun c4 => ?_) (fun c4 => ?_)
  · try simp only [b01_0, b01_n, bP_0, bP_n, Classical.not_not] at c4
    refine aw_iload_n G dX9_list_13 rfl ?_
    refine aw_bipush G dX9_list_14 (k := ?_)
    refine aw_icmp_le (tgt := 26) G dX9_list_16 (by decide) (by first | omega | exact b01_R _ | exact bP_R _) (by first | omega | exact b01_R _ | exact bP_R _) (fun c16 => ?_) (fun c16 => ?_)
    · refine aw_iload_n G dX9_list_26 rfl ?_
      refine aw_if_ge (tgt := 33) G dX9_list_27 (by decide) (by first | omega | exact b01_R _ | exact bP_R _) (fun c27 => ?_) (fun c27 => ?_)
      · refine aw_aload_n G dX9_list_33 rfl ?_
        refine gf_X9_63 G dX9_list_34 (kk := ?_)
        refine aw_iload_n G dX9_list_37 rfl ?_
        refine aw_iload_n G dX9_list_38 rfl ?_
        refine cv_X9_241 G dX9_list_39 (c_X2_renew (by omega) (by omega)) (kk := fun t39 h39 => ?_)
        obtain rfl := h39.symm
        refine aw_iconst G dX9_list_42 ?_
        exact aw_iret G T dX9_list_43 (⟨by unfold an_list; (repeat' split) <;> first | rfl | (exfalso; omega) | omega, by unfold nx_list; (repeat' split) <;> first | exact RX_ren hX (by omega) (by omega) (fun l a b => (s1 l a b).2.1) | (exfalso; omega), ((MS.rf _).fill (by omega)).up (by decide)⟩)
      · refine aw_bipush G dX9_list_30 (k := ?_)
        exact aw_iret G T dX9_list_32 (⟨by unfold an_list; (repeat' split) <;> first | rfl | (exfalso; omega) | omega, by unfold nx_list; (repeat' split) <;> first | exact hX | exact RX_ref hX (by decide) | (exfalso; omega), by first | exact MS.rf _ | exact (MS.rf _).up (by decide)⟩)
    · refine aw_aload_n G dX9_list_19 rfl ?_
      refine aw_bipush G dX9_list_20 (k := ?_)
      refine cv_X9_77 G dX9_list_22 (c_X9_refused (by decide)) (kk := fun r22 t22 h22 => ?_)
      obtain ⟨rfl, ee22⟩ := h22
      obtain rfl := ee22.symm
      exact aw_iret G T dX9_list_25 (⟨by unfold an_list; (repeat' split) <;> first | rfl | (exfalso; omega) | omega, by unfold nx_list; (repeat' split) <;> first | exact hX | exact RX_ref hX (by decide) | (exfalso; omega), by first | exact MS.rf _ | exact (MS.rf _).up (by decide)⟩)
  · try simp only [b01_0, b01_n, bP_0, bP_n, Classical.not_not] at c4
    refine aw_aload_n G dX9_list_7 rfl ?_
    refine aw_iconst G dX9_list_8 ?_
    refine cv_X9_77 G dX9_list_9 (c_X9_refused (by decide)) (kk := fun r9 t9 h9 => ?_)
    obtain ⟨rfl, ee9⟩ := h9
    obtain rfl := ee9.symm
    exact aw_iret G T dX9_list_12 (⟨by unfold an_list; (repeat' split) <;> first | rfl | (exfalso; omega) | omega, by unfold nx_list; (repeat' split) <;> first | exact hX | exact RX_ref hX (by decide) | (exfalso; omega), by first | exact MS.rf _ | exact (MS.rf _).up (by decide)⟩)
set_option maxHeartbeats 4000000 in
theorem c_X9_put {V : Wd} {σ : St} {α : St} {l i v : Int} (h1 : inR l) (h2 : inR i) (h3 : inR v) (hk : OK α) (hX : RX α σ) : Ct V yX9_put cX9_put 5 (some .int) 3 65 [rv V 0, iv l, iv i, iv v] σ (PI (fun r τ => r = an_put α l i ∧ RX (nx_put α l i v) τ ∧ MS σ τ)) := by
  refine ct_of (by decide) (Nat.le_of_ble_eq_true rfl) (fun X G T => ?_)
  have G : Gd X V cX9_put RX9 5 3 65 := G
  show AW X V σ 0 [] [some (rv V 0), some (iv l), some (iv i), some (iv v), none]
  have hN : NetOK σ 1 := hX.1.ok hk.1
  obtain ⟨⟨e0, e1, er⟩, ⟨x1, x2⟩, xp, xl, xr, xi⟩ := id hX
  obtain ⟨⟨n1, n2, n3, n4, n5, n6⟩, u1, l1, l2, i1, s1, w1⟩ := id hk
  obtain ⟨p1, p2, p3, p4, p5, p6⟩ := id hN
  have hs71 : ∀ l, 0 ≤ l → l < 3 → inR (σ 71 l) := fun l a b => by
    have := xl l a b
    have := s1 l a b
    omega
  refine aw_aload_n G dX9_put_0 rfl ?_
  refine aw_iload_n G dX9_put_1 rfl ?_
  refine aw_iload_n G dX9_put_2 rfl ?_
  refine cv_X9_244 G dX9_put_3 (c_X9_refusalOfPlace (by first | assumption | omega) (by first | assumption | omega) hs71) (kk := fun r3 t3 h3 => ?_)
  obtain ⟨er3, et3⟩ := h3
  refine aw_istore_4 G dX9_put_6 (hc := by first | rfl | assumption) (k := ?_)
  refine aw_iload G dX9_put_8 rfl ?_
  refine aw_if_eq (tgt := 16) G dX9_put_10 (by decide) (by rw [er3]; exact rp_R _ _ _) (fun c10 => ?_) (fun c10 => ?_)
  · rw [c10] at er3 et3
    rw [rt_n (by decide)] at et3
    obtain rfl := et3.symm
    have hg : (0 ≤ l ∧ l < 3) ∧ ¬ σ 71 l < 0 ∧ 0 ≤ i ∧ i < σ 71 l := by
      unfold rp at er3
      by_cases g1 : 0 ≤ l ∧ l < 3
      · rw [if_neg (by omega)] at er3
        by_cases g2 : σ 71 l < 0
        · rw [if_pos g2] at er3; exact absurd er3 (by decide)
        · rw [if_neg g2] at er3
          by_cases g3 : 0 ≤ i ∧ i < σ 71 l
          · exact ⟨g1, g2, g3.1, g3.2⟩
          · rw [if_pos g3] at er3; exact absurd er3 (by decide)
      · rw [if_pos g1] at er3; exact absurd er3 (by decide)
    have hl := xl l hg.1.1 hg.1.2
    have hs := s1 l hg.1.1 hg.1.2
    have hl1 := lay_l l.toNat (by omega)
    have hk1 : 68 + l.toNat < NC := by show _ < 97; omega
    refine aw_aload_n G dX9_put_16 rfl ?_
    refine gf_X9_63 G dX9_put_17 (kk := ?_)
    refine gf_X9_247 G dX9_put_20 (kk := ?_)
    refine aw_iload_n G dX9_put_23 rfl ?_
    refine aw_aaload (ty := .int) G dX9_put_24 (by first | decide | assumption) rfl (by decide) rfl (by omega) ?_
    refine aw_iload_n G dX9_put_25 rfl ?_
    refine aw_iload_n G dX9_put_26 rfl ?_
    refine aw_iastore G dX9_put_27 (by first | decide | assumption | omega) (by first | rfl | assumption) (by first | decide | assumption) (by omega) ?_
    refine aw_iconst G dX9_put_28 ?_
    exact aw_iret G T dX9_put_29 (⟨by unfold an_put; (repeat' split) <;> first | rfl | (exfalso; omega) | omega, by unfold nx_put; rw [if_neg (by omega), if_neg (by omega), if_neg (by omega), up_seg, up_seg]; exact hX.seg86 hg.1 (by omega) (fun l a b => (s1 l a b).2.1) (fun _ _ _ => rfl), (MS.rf _).up (by omega)⟩)
  · refine aw_iload G dX9_put_13 rfl ?_
    exact aw_iret G T dX9_put_15 (by
          unfold rp at er3
          by_cases q : 0 ≤ l ∧ l < 3
          · have hl := xl l q.1 q.2
            rw [if_neg (by omega)] at er3
            by_cases q2 : σ 71 l < 0
            · rw [if_pos q2] at er3
              rw [er3, rt_n (by decide)] at et3
              rw [er3, et3]
              exact ⟨by unfold an_put; (repeat' split) <;> first | rfl | (exfalso; omega) | omega, by unfold nx_put; (repeat' split) <;> first | exact hX | (exfalso; omega), MS.rf _⟩
            rw [if_neg q2] at er3
            by_cases q3 : 0 ≤ i ∧ i < σ 71 l
            · rw [if_neg (by omega)] at er3
              exact absurd er3 c10
            · rw [if_pos q3] at er3
              rw [er3, rt_n (by decide)] at et3
              rw [er3, et3]
              exact ⟨by unfold an_put; (repeat' split) <;> first | rfl | (exfalso; omega) | omega, by unfold nx_put; (repeat' split) <;> first | exact hX | (exfalso; omega), MS.rf _⟩
          · rw [if_pos q] at er3
            rw [er3, show rt σ (-1) = up σ 72 (-(-1)) (σ 72 (-(-1)) + 1) from if_pos rfl] at et3
            rw [er3, et3]
            exact ⟨by unfold an_put; (repeat' split) <;> first | rfl | (exfalso; omega) | omega, by unfold nx_put; (repeat' split) <;> first | exact RX_ref hX (by decide) | (exfalso; omega), (MS.rf _).up (by decide)⟩)
set_option maxHeartbeats 4000000 in
theorem c_X9_look {V : Wd} {σ : St} {α : St} {l i : Int} (h1 : inR l) (h2 : inR i) (hk : OK α) (hX : RX α σ) : Ct V yX9_look cX9_look 4 (some .long) 3 65 [rv V 0, iv l, iv i] σ (PJ (fun r τ => r = an_look α l i ∧ RX (nx_look α l) τ ∧ MS σ τ)) := by
  refine ct_of (by decide) (Nat.le_of_ble_eq_true rfl) (fun X G T => ?_)
  have G : Gd X V cX9_look RX9 4 3 65 := G
  show AW X V σ 0 [] [some (rv V 0), some (iv l), some (iv i), none]
  have hN : NetOK σ 1 := hX.1.ok hk.1
  obtain ⟨⟨e0, e1, er⟩, ⟨x1, x2⟩, xp, xl, xr, xi⟩ := id hX
  obtain ⟨⟨n1, n2, n3, n4, n5, n6⟩, u1, l1, l2, i1, s1, w1⟩ := id hk
  obtain ⟨p1, p2, p3, p4, p5, p6⟩ := id hN
  have hs71 : ∀ l, 0 ≤ l → l < 3 → inR (σ 71 l) := fun l a b => by
    have := xl l a b
    have := s1 l a b
    omega
  refine aw_aload_n G dX9_look_0 rfl ?_
  refine aw_iload_n G dX9_look_1 rfl ?_
  refine aw_iload_n G dX9_look_2 rfl ?_
  refine cv_X9_244 G dX9_look_3 (c_X9_refusalOfPlace (by first | assumption | omega) (by first | assumption | omega) hs71) (kk := fun r3 t3 h3 => ?_)
  obtain ⟨er3, et3⟩ := h3
  refine aw_istore_3 G dX9_look_6 (hc := by first | rfl | assumption) (k := ?_)
  refine aw_iload_n G dX9_look_7 rfl ?_
  refine aw_if_eq (tgt := 18) G dX9_look_8 (by decide) (by rw [er3]; exact rp_R _ _ _) (fun c8 => ?_) (fun c8 => ?_)
  · rw [c8] at er3 et3
    rw [rt_n (by decide)] at et3
    obtain rfl := et3.symm
    have hg : (0 ≤ l ∧ l < 3) ∧ ¬ σ 71 l < 0 ∧ 0 ≤ i ∧ i < σ 71 l := by
      unfold rp at er3
      by_cases g1 : 0 ≤ l ∧ l < 3
      · rw [if_neg (by omega)] at er3
        by_cases g2 : σ 71 l < 0
        · rw [if_pos g2] at er3; exact absurd er3 (by decide)
        · rw [if_neg g2] at er3
          by_cases g3 : 0 ≤ i ∧ i < σ 71 l
          · exact ⟨g1, g2, g3.1, g3.2⟩
          · rw [if_pos g3] at er3; exact absurd er3 (by decide)
      · rw [if_pos g1] at er3; exact absurd er3 (by decide)
    have hl := xl l hg.1.1 hg.1.2
    have hs := s1 l hg.1.1 hg.1.2
    have hl1 := lay_l l.toNat (by omega)
    have hk1 : 68 + l.toNat < NC := by show _ < 97; omega
    refine aw_aload_n G dX9_look_18 rfl ?_
    refine gf_X9_63 G dX9_look_19 (kk := ?_)
    refine gf_X9_247 G dX9_look_22 (kk := ?_)
    refine aw_iload_n G dX9_look_25 rfl ?_
    refine aw_aaload (ty := .int) G dX9_look_26 (by first | decide | assumption) rfl (by decide) rfl (by omega) ?_
    refine aw_iload_n G dX9_look_27 rfl ?_
    refine aw_iaload G dX9_look_28 (by first | decide | assumption | omega) (by first | rfl | assumption) (by first | decide | assumption) (by omega) ?_
    refine aw_i2l G dX9_look_29 (by rw [hl.2 i (by omega) (by omega)]; exact hs.2.2 i (by omega) (by omega)) ?_
    exact aw_lret G T dX9_look_30 (⟨by rw [hl.2 i (by omega) (by omega)]; unfold an_look; (repeat' split) <;> first | rfl | (exfalso; omega) | omega, by unfold nx_look; (repeat' split) <;> first | exact hX | (exfalso; omega), MS.rf _⟩)
  · refine lc_X9_201 G dX9_look_11 ?_
    refine aw_iload_n G dX9_look_14 rfl ?_
    refine aw_i2l G dX9_look_15 (by rw [er3]; exact rp_R _ _ _) ?_
    refine aw_lsub G dX9_look_16 ?_
    exact aw_lret G T dX9_look_17 (by
          unfold rp at er3
          by_cases q : 0 ≤ l ∧ l < 3
          · have hl := xl l q.1 q.2
            rw [if_neg (by omega)] at er3
            by_cases q2 : σ 71 l < 0
            · rw [if_pos q2] at er3
              rw [er3, rt_n (by decide)] at et3
              rw [er3, et3]
              exact ⟨by unfold an_look; (repeat' split) <;> first | rfl | (exfalso; omega) | omega, by unfold nx_look; (repeat' split) <;> first | exact hX | (exfalso; omega), MS.rf _⟩
            rw [if_neg q2] at er3
            by_cases q3 : 0 ≤ i ∧ i < σ 71 l
            · rw [if_neg (by omega)] at er3
              exact absurd er3 c8
            · rw [if_pos q3] at er3
              rw [er3, rt_n (by decide)] at et3
              rw [er3, et3]
              exact ⟨by unfold an_look; (repeat' split) <;> first | rfl | (exfalso; omega) | omega, by unfold nx_look; (repeat' split) <;> first | exact hX | (exfalso; omega), MS.rf _⟩
          · rw [if_pos q] at er3
            rw [er3, show rt σ (-1) = up σ 72 (-(-1)) (σ 72 (-(-1)) + 1) from if_pos rfl] at et3
            rw [er3, et3]
            exact ⟨by unfold an_look; (repeat' split) <;> first | rfl | (exfalso; omega) | omega, by unfold nx_look; (repeat' split) <;> first | exact RX_ref hX (by decide) | (exfalso; omega), (MS.rf _).up (by decide)⟩)
set_option maxHeartbeats 4000000 in
theorem c_X9_lays {V : Wd} {σ : St} {α : St} {l i : Int} (h1 : inR l) (h2 : inR i) (hk : OK α) (hX : RX α σ) : Ct V yX9_lays cX9_lays 4 (some .int) 5 111 [rv V 0, iv l, iv i] σ (PI (fun r τ => r = an_lays α l i ∧ RX (nx_lays α l i) τ ∧ MS σ τ)) := by
  refine ct_of (by decide) (Nat.le_of_ble_eq_true rfl) (fun X G T => ?_)
  have G : Gd X V cX9_lays RX9 4 5 111 := G
  show AW X V σ 0 [] [some (rv V 0), some (iv l), some (iv i), none]
  have hN : NetOK σ 1 := hX.1.ok hk.1
  obtain ⟨⟨e0, e1, er⟩, ⟨x1, x2⟩, xp, xl, xr, xi⟩ := id hX
  obtain ⟨⟨n1, n2, n3, n4, n5, n6⟩, u1, l1, l2, i1, s1, w1⟩ := id hk
  obtain ⟨p1, p2, p3, p4, p5, p6⟩ := id hN
  have hs71 : ∀ l, 0 ≤ l → l < 3 → inR (σ 71 l) := fun l a b => by
    have := xl l a b
    have := s1 l a b
    omega
  refine aw_aload_n G dX9_lays_0 rfl ?_
  refine aw_iload_n G dX9_lays_1 rfl ?_
  refine cv_X9_251 G dX9_lays_2 (c_X9_refusalOfList (by first | assumption | omega) hs71) (kk := fun r2 t2 h2 => ?_)
  obtain ⟨er2, et2⟩ := h2
  refine aw_istore_3 G dX9_lays_5 (hc := by first | rfl | assumption) (k := ?_)
  refine aw_iload_n G dX9_lays_6 rfl ?_
  refine aw_if_eq (tgt := 12) G dX9_lays_7 (by decide) (by rw [er2]; exact rl_R _ _) (fun c7 => ?_) (fun c7 => ?_)
  · rw [c7] at er2 et2
    rw [rt_n (by decide)] at et2
    obtain rfl := et2.symm
    have hg : (0 ≤ l ∧ l < 3) ∧ ¬ σ 71 l < 0 := by
      unfold rl at er2
      by_cases g1 : 0 ≤ l ∧ l < 3
      · rw [if_neg (by omega)] at er2
        by_cases g2 : σ 71 l < 0
        · rw [if_pos g2] at er2; exact absurd er2 (by decide)
        · exact ⟨g1, g2⟩
      · rw [if_pos g1] at er2; exact absurd er2 (by decide)
    have hl := xl l hg.1.1 hg.1.2
    have hs := s1 l hg.1.1 hg.1.2
    have hl1 := lay_l l.toNat (by omega)
    have hk1 : 68 + l.toNat < NC := by show _ < 97; omega
    refine aw_iload_n G dX9_lays_12 rfl ?_
    refine aw_if_lt (tgt := 37) G dX9_lays_13 (by decide) (by first | omega | exact b01_R _ | exact bP_R _) (fun c13 => ?_) (fun c13 => ?_)
    · refine aw_bipush G dX9_lays_37 (k := ?_)
      exact aw_iret G T dX9_lays_39 (⟨by unfold an_lays; (repeat' split) <;> first | rfl | (exfalso; omega) | omega, by unfold nx_lays; (repeat' split) <;> first | exact hX | (exfalso; omega), MS.rf _⟩)
    · refine aw_iload_n G dX9_lays_16 rfl ?_
      refine aw_aload_n G dX9_lays_17 rfl ?_
      refine gf_X9_63 G dX9_lays_18 (kk := ?_)
      refine gf_X9_254 G dX9_lays_21 (kk := ?_)
      refine aw_iload_n G dX9_lays_24 rfl ?_
      refine aw_iaload G dX9_lays_25 (by first | decide | assumption | omega) (by first | rfl | assumption) (by first | decide | assumption) (by omega) ?_
      refine aw_aload_n G dX9_lays_26 rfl ?_
      refine gf_X9_10 G dX9_lays_27 (kk := ?_)
      refine gf_X9_96 G dX9_lays_30 (kk := ?_)
      refine aw_isub G dX9_lays_33 ?_
      refine aw_icmp_le (tgt := 40) G dX9_lays_34 (by decide) (by first | omega | exact b01_R _ | exact bP_R _) (by first | omega | exact b01_R _ | exact bP_R _) (fun c34 => ?_) (fun c34 => ?_)
      · refine aw_aload_n G dX9_lays_40 rfl ?_
        refine gf_X9_10 G dX9_lays_41 (kk := ?_)
        refine aw_aload_n G dX9_lays_44 rfl ?_
        refine gf_X9_71 G dX9_lays_45 (kk := ?_)
        refine cv_X9_155 G dX9_lays_48 (c_X3_fillSums hN) (kk := fun t48 h48 => ?_)
        obtain rfl := h48.symm
        refine aw_aload_n G dX9_lays_51 rfl ?_
        refine gf_X9_71 G dX9_lays_52 (kk := ?_)
        refine aw_iconst G dX9_lays_55 ?_
        refine aw_aload_n G dX9_lays_56 rfl ?_
        refine gf_X9_63 G dX9_lays_57 (kk := ?_)
        refine gf_X9_247 G dX9_lays_60 (kk := ?_)
        refine aw_iload_n G dX9_lays_63 rfl ?_
        refine aw_aaload (ty := .int) G dX9_lays_64 (by first | decide | assumption) rfl (by decide) rfl (by omega) ?_
        refine aw_iload_n G dX9_lays_65 rfl ?_
        refine aw_aload_n G dX9_lays_66 rfl ?_
        refine gf_X9_10 G dX9_lays_67 (kk := ?_)
        refine gf_X9_96 G dX9_lays_70 (kk := ?_)
        rw [fill_o (show (1:Nat) ≠ 73 by decide)]
        refine ca_X9_257 G dX9_lays_73 (h := by omega) (kk := ?_)
        refine aw_aload_n G dX9_lays_76 rfl ?_
        refine gf_X9_10 G dX9_lays_77 (kk := ?_)
        refine gf_X9_96 G dX9_lays_80 (kk := ?_)
        rw [cpy_o (show (1:Nat) ≠ _ by omega)]
        rw [fill_o (show (1:Nat) ≠ 73 by decide)]
        exact aw_iret G T dX9_lays_83 (⟨by unfold an_lays; (repeat' split) <;> first | rfl | (exfalso; omega) | omega, by
          unfold nx_lays
          rw [if_neg (by omega), if_neg (by omega), if_neg (by omega), cpy_seg, e0]
          exact (hX.fill (by decide)).seg86 hg.1 (by omega) (fun l a b => (s1 l a b).2.1) (fun j a b => by rw [show (0:Int) + j = j by omega, fill_i ⟨a, by omega⟩, NetEq.s ⟨e0, e1, er⟩ (by omega)]), ((MS.rf _).fill (by decide)).cpy (by omega)⟩)
      · refine aw_bipush G dX9_lays_37 (k := ?_)
        exact aw_iret G T dX9_lays_39 (⟨by unfold an_lays; (repeat' split) <;> first | rfl | (exfalso; omega) | omega, by unfold nx_lays; (repeat' split) <;> first | exact hX | (exfalso; omega), MS.rf _⟩)
  · refine aw_iload_n G dX9_lays_10 rfl ?_
    exact aw_iret G T dX9_lays_11 (by
          unfold rl at er2
          by_cases q : 0 ≤ l ∧ l < 3
          · have hl := xl l q.1 q.2
            rw [if_neg (by omega)] at er2
            by_cases q2 : σ 71 l < 0
            · rw [if_pos q2] at er2
              rw [er2, rt_n (by decide)] at et2
              rw [er2, et2]
              exact ⟨by unfold an_lays; (repeat' split) <;> first | rfl | (exfalso; omega) | omega, by unfold nx_lays; (repeat' split) <;> first | exact hX | (exfalso; omega), MS.rf _⟩
            rw [if_neg q2] at er2
            exact absurd er2 c7
          · rw [if_pos q] at er2
            rw [er2, show rt σ (-1) = up σ 72 (-(-1)) (σ 72 (-(-1)) + 1) from if_pos rfl] at et2
            rw [er2, et2]
            exact ⟨by unfold an_lays; (repeat' split) <;> first | rfl | (exfalso; omega) | omega, by unfold nx_lays; (repeat' split) <;> first | exact RX_ref hX (by decide) | (exfalso; omega), (MS.rf _).up (by decide)⟩)
set_option maxHeartbeats 4000000 in
theorem c_X9_judge {V : Wd} {σ : St} {α : St} {l : Int} (h1 : inR l) (hk : OK α) (hX : RX α σ) : Ct V yX9_judge cX9_judge 4 (some .int) 5 111 [rv V 0, iv l] σ (PI (fun r τ => r = an_judge α l ∧ RX (nx_judge α l) τ ∧ MS σ τ)) := by
  refine ct_of (by decide) (Nat.le_of_ble_eq_true rfl) (fun X G T => ?_)
  have G : Gd X V cX9_judge RX9 4 5 111 := G
  show AW X V σ 0 [] [some (rv V 0), some (iv l), none, none]
  have hN : NetOK σ 1 := hX.1.ok hk.1
  obtain ⟨⟨e0, e1, er⟩, ⟨x1, x2⟩, xp, xl, xr, xi⟩ := id hX
  obtain ⟨⟨n1, n2, n3, n4, n5, n6⟩, u1, l1, l2, i1, s1, w1⟩ := id hk
  obtain ⟨p1, p2, p3, p4, p5, p6⟩ := id hN
  have hs71 : ∀ l, 0 ≤ l → l < 3 → inR (σ 71 l) := fun l a b => by
    have := xl l a b
    have := s1 l a b
    omega
  have hC : ∀ i, 0 ≤ i → i < σ 1 0 → fill σ 73 (σ 1 0) (nsum σ 1) 73 i = nsum α 75 i := fun i a b => by rw [fill_i ⟨a, b⟩, NetEq.s ⟨e0, e1, er⟩ (by omega)]
  have hRs : ∀ i, 0 ≤ i → i < σ 1 0 → inR (fill σ 73 (σ 1 0) (nsum σ 1) 73 i) := fun i a b => by
    rw [hC i a b]
    have := nsum_R n5 ⟨n3, n4⟩ i
    omega
  have loop : ∀ (n0 : Nat) (k : Int), ((0 ≤ l ∧ l < 3) ∧ ¬ σ 71 l < 0) → (0 ≤ k ∧ k ≤ σ 71 l ∧ k ≤ σ 1 0) → (σ 71 l < k + (n0 : Int)) → (fstP (fun k => k = α 75 0 ∨ α 86 (40 * l + k) ≠ nsum α 75 k) (α 85 l - k).toNat k = fstP (fun k => k = α 75 0 ∨ α 86 (40 * l + k) ≠ nsum α 75 k) (α 85 l).toNat 0) → (True) → AW X V (fill σ 73 (σ 1 0) (nsum σ 1)) 25 [] [some (rv V 0), some (iv l), some (iv 0), some (iv k)] := by
    intro n0
    induction n0 with
    | zero =>
      intro k hg h0 h3 hq u0
      exfalso
      omega
    | succ n0 ih =>
      intro k hg h0 h3 hq u0
      have hl := xl l hg.1.1 hg.1.2
      have hs := s1 l hg.1.1 hg.1.2
      have hl1 := lay_l l.toNat (by omega)
      have hk1 : 68 + l.toNat < NC := by show _ < 97; omega
      refine aw_iload_n G dX9_judge_25 rfl ?_
      refine aw_aload_n G dX9_judge_26 rfl ?_
      refine gf_X9_63 G dX9_judge_27 (kk := ?_)
      refine gf_X9_254 G dX9_judge_30 (kk := ?_)
      refine aw_iload_n G dX9_judge_33 rfl ?_
      refine aw_iaload G dX9_judge_34 (by first | decide | assumption | omega) (by first | rfl | assumption) (by first | decide | assumption) (by omega) ?_
      rw [fill_o (show (71:Nat) ≠ 73 by decide)]
      refine aw_icmp_ge (tgt := 77) G dX9_judge_35 (by decide) (by first | omega | exact b01_R _ | exact bP_R _) (by first | omega | exact b01_R _ | exact bP_R _) (fun c35 => ?_) (fun c35 => ?_)
      · refine aw_bipush G dX9_judge_77 (k := ?_)
        exact aw_iret G T dX9_judge_79 (⟨by unfold an_judge; rw [if_neg (by omega), if_neg (by omega), ← hq, show (α 85 l - k).toNat = 0 by omega]; rfl, by unfold nx_judge; rw [if_neg (by omega)]; exact hX.fill (by decide), (MS.rf _).fill (by decide)⟩)
      · refine aw_iload_n G dX9_judge_38 rfl ?_
        refine aw_aload_n G dX9_judge_39 rfl ?_
        refine gf_X9_10 G dX9_judge_40 (kk := ?_)
        refine gf_X9_96 G dX9_judge_43 (kk := ?_)
        rw [fill_o (show (1:Nat) ≠ 73 by decide)]
        refine aw_icmp_ge (tgt := 69) G dX9_judge_46 (by decide) (by first | omega | exact b01_R _ | exact bP_R _) (by first | omega | exact b01_R _ | exact bP_R _) (fun c46 => ?_) (fun c46 => ?_)
        · refine aw_iload_n G dX9_judge_69 rfl ?_
          exact aw_iret G T dX9_judge_70 (⟨by
          unfold an_judge
          rw [if_neg (by omega), if_neg (by omega), ← hq, show (α 85 l - k).toNat = (α 85 l - (k + 1)).toNat + 1 by omega, fstP_t]
          first | exact Or.inl (by omega) | exact Or.inr (fun z => c66 (by rw [hl.2 k (by omega) (by omega), hC k (by omega) (by omega)]; exact z)), by unfold nx_judge; rw [if_neg (by omega)]; exact hX.fill (by decide), (MS.rf _).fill (by decide)⟩)
        · refine aw_aload_n G dX9_judge_49 rfl ?_
          refine gf_X9_63 G dX9_judge_50 (kk := ?_)
          refine gf_X9_247 G dX9_judge_53 (kk := ?_)
          refine aw_iload_n G dX9_judge_56 rfl ?_
          refine aw_aaload (ty := .int) G dX9_judge_57 (by first | decide | assumption) rfl (by decide) rfl (by omega) ?_
          refine aw_iload_n G dX9_judge_58 rfl ?_
          refine aw_iaload G dX9_judge_59 (by first | decide | assumption | omega) (by first | rfl | assumption) (by first | decide | assumption) (by omega) ?_
          rw [fill_o (show 68 + l.toNat ≠ 73 by omega)]
          refine aw_aload_n G dX9_judge_60 rfl ?_
          refine gf_X9_71 G dX9_judge_61 (kk := ?_)
          refine aw_iload_n G dX9_judge_64 rfl ?_
          refine aw_iaload G dX9_judge_65 (by first | decide | assumption | omega) (by first | rfl | assumption) (by first | decide | assumption) (by omega) ?_
          refine aw_icmp_eq (tgt := 71) G dX9_judge_66 (by decide) (by rw [hl.2 k (by omega) (by omega)]; exact hs.2.2 k (by omega) (by omega)) (hRs k (by omega) (by omega)) (fun c66 => ?_) (fun c66 => ?_)
          · refine aw_iinc_3 G dX9_judge_71 rfl (hc := by first | rfl | assumption) (k := ?_)
            refine aw_goto (tgt := 25) G dX9_judge_74 (by decide) ?_
            refine ih (k + 1) hg (by omega) (by omega) ?_ trivial
            rw [← hq, show (α 85 l - k).toNat = (α 85 l - (k + 1)).toNat + 1 by omega, fstP_f]
            rintro (e | e)
            · omega
            · exact e (by rw [← hl.2 k (by omega) (by omega), ← hC k (by omega) (by omega)]; exact c66)
          · refine aw_iload_n G dX9_judge_69 rfl ?_
            exact aw_iret G T dX9_judge_70 (⟨by
          unfold an_judge
          rw [if_neg (by omega), if_neg (by omega), ← hq, show (α 85 l - k).toNat = (α 85 l - (k + 1)).toNat + 1 by omega, fstP_t]
          first | exact Or.inl (by omega) | exact Or.inr (fun z => c66 (by rw [hl.2 k (by omega) (by omega), hC k (by omega) (by omega)]; exact z)), by unfold nx_judge; rw [if_neg (by omega)]; exact hX.fill (by decide), (MS.rf _).fill (by decide)⟩)
  refine aw_aload_n G dX9_judge_0 rfl ?_
  refine aw_iload_n G dX9_judge_1 rfl ?_
  refine cv_X9_251 G dX9_judge_2 (c_X9_refusalOfList (by first | assumption | omega) hs71) (kk := fun r2 t2 h2 => ?_)
  obtain ⟨er2, et2⟩ := h2
  refine aw_istore_2 G dX9_judge_5 (hc := by first | rfl | assumption) (k := ?_)
  refine aw_iload_n G dX9_judge_6 rfl ?_
  refine aw_if_eq (tgt := 12) G dX9_judge_7 (by decide) (by rw [er2]; exact rl_R _ _) (fun c7 => ?_) (fun c7 => ?_)
  · obtain rfl := c7
    skip
    rw [rt_n (by decide)] at et2
    obtain rfl := et2.symm
    have hg : (0 ≤ l ∧ l < 3) ∧ ¬ σ 71 l < 0 := by
      unfold rl at er2
      by_cases g1 : 0 ≤ l ∧ l < 3
      · rw [if_neg (by omega)] at er2
        by_cases g2 : σ 71 l < 0
        · rw [if_pos g2] at er2; exact absurd er2 (by decide)
        · exact ⟨g1, g2⟩
      · rw [if_pos g1] at er2; exact absurd er2 (by decide)
    have hl := xl l hg.1.1 hg.1.2
    have hs := s1 l hg.1.1 hg.1.2
    refine aw_aload_n G dX9_judge_12 rfl ?_
    refine gf_X9_10 G dX9_judge_13 (kk := ?_)
    refine aw_aload_n G dX9_judge_16 rfl ?_
    refine gf_X9_71 G dX9_judge_17 (kk := ?_)
    refine cv_X9_155 G dX9_judge_20 (c_X3_fillSums hN) (kk := fun t20 h20 => ?_)
    obtain rfl := h20.symm
    refine aw_iconst G dX9_judge_23 ?_
    refine aw_istore_3 G dX9_judge_24 (hc := by first | rfl | assumption) (k := ?_)
    exact loop ((σ 71 l).toNat + 1) 0 hg (by omega) (by omega) (by rw [show α 85 l - 0 = α 85 l by omega]) trivial
  · refine aw_iload_n G dX9_judge_10 rfl ?_
    exact aw_iret G T dX9_judge_11 (by
          unfold rl at er2
          by_cases q : 0 ≤ l ∧ l < 3
          · have hl := xl l q.1 q.2
            rw [if_neg (by omega)] at er2
            by_cases q2 : σ 71 l < 0
            · rw [if_pos q2] at er2
              rw [er2, rt_n (by decide)] at et2
              rw [er2, et2]
              exact ⟨by unfold an_judge; (repeat' split) <;> first | rfl | (exfalso; omega) | omega, by unfold nx_judge; (repeat' split) <;> first | exact hX | (exfalso; omega), MS.rf _⟩
            rw [if_neg q2] at er2
            exact absurd er2 c7
          · rw [if_pos q] at er2
            rw [er2, show rt σ (-1) = up σ 72 (-(-1)) (σ 72 (-(-1)) + 1) from if_pos rfl] at et2
            rw [er2, et2]
            exact ⟨by unfold an_judge; (repeat' split) <;> first | rfl | (exfalso; omega) | omega, by unfold nx_judge; (repeat' split) <;> first | exact RX_ref hX (by decide) | (exfalso; omega), (MS.rf _).up (by decide)⟩)
