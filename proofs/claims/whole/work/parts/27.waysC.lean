noncomputable def waN (α : St) (ru k : Int) : Int := wN (nwt α 75) (α 75 1) (α 75 0) ru k
noncomputable def waI (α : St) (ru k i : Int) : Option (Int → Int) := wI (nwt α 75) (α 75 1) (α 75 0) ru k i
noncomputable def an_ways (α : St) (ru k i l : Int) : Int := if ¬ (0 ≤ ru ∧ ru ≤ 5) then -2 else if k < 0 ∨ i < -1 then -4 else if 3 < k then -6 else if 0 ≤ i ∧ ¬ (0 ≤ l ∧ l < α 75 1) then -1 else if i < 0 then waN α ru k else (match waI α ru k i with | none => -9 | some f => f l)
def nx_ways (α : St) (ru k i l : Int) : St := if ¬ (0 ≤ ru ∧ ru ≤ 5) then rf α (-2) else if k < 0 ∨ i < -1 then rf α (-4) else if 3 < k then rf α (-6) else if 0 ≤ i ∧ ¬ (0 ≤ l ∧ l < α 75 1) then rf α (-1) else α
noncomputable def loT (α : St) (ru z : Int) (t : Int) : Int := bP (wQ (nwt α 75) (α 75 1) (α 75 0) ru (lotF (α 75 1).toNat z t))
def loA (α : St) (z : Int) (t : Int) : Int := sumTo (tsum (nwt α 75) (lotF (α 75 1).toNat z t) (α 75 1)) (α 75 0).toNat
noncomputable def an_lots (α : St) (ru n z v : Int) : Int := if ¬ (0 ≤ ru ∧ ru ≤ 5) then -2 else if n < 1 then -4 else if 50 < n then -6 else if ¬ (v = 0 ∨ v = 1) then -2 else if v = 0 then sumTo (loT α ru z) n.toNat else sumTo (loA α z) n.toNat
def nx_lots (α : St) (ru n v : Int) : St := if ¬ (0 ≤ ru ∧ ru ≤ 5) then rf α (-2) else if n < 1 then rf α (-4) else if 50 < n then rf α (-6) else if ¬ (v = 0 ∨ v = 1) then rf α (-2) else α
def oddsP (a b v : Int) : Int := if v = 0 then a.tdiv ((Nat.gcd a.toNat b.toNat : Nat) : Int) else b.tdiv ((Nat.gcd a.toNat b.toNat : Nat) : Int)
noncomputable def an_odds (α : St) (ru k v : Int) : Int := if ¬ (0 ≤ ru ∧ ru ≤ 5) then 4000000000000000002 else if k < 0 then 4000000000000000004 else if 3 < k then 4000000000000000006 else if ¬ (v = 0 ∨ v = 1) then 4000000000000000002 else oddsP (waN α ru k) (pw (k + 1) (α 75 1).toNat) v
def nx_odds (α : St) (ru k v : Int) : St := if ¬ (0 ≤ ru ∧ ru ≤ 5) then rf α (-2) else if k < 0 then rf α (-4) else if 3 < k then rf α (-6) else if ¬ (v = 0 ∨ v = 1) then rf α (-2) else α
theorem tsum_e {α σ : St} (h : NetEq σ 1 α 75) (hL : σ 1 1 ≤ 8) (f : Int → Int) : tsum (nwt σ 1) f (σ 1 1) = tsum (nwt α 75) f (α 75 1) := by
  funext p
  rw [← h.2.1]
  exact tsum_c fun l a b => ⟨h.w (by omega), rfl⟩
theorem wQ_e {α σ : St} (h : NetEq σ 1 α 75) (hL : σ 1 1 ≤ 8) (ru : Int) : wQ (nwt σ 1) (σ 1 1) (σ 1 0) ru = wQ (nwt α 75) (α 75 1) (α 75 0) ru := by
  funext f
  unfold wQ
  rw [tsum_e h hL, h.1]
theorem wN_e {α σ : St} (h : NetEq σ 1 α 75) (hL : σ 1 1 ≤ 8) (ru k : Int) : wN (nwt σ 1) (σ 1 1) (σ 1 0) ru k = waN α ru k := by
  unfold waN wN
  rw [wQ_e h hL, h.2.1]
theorem wI_e {α σ : St} (h : NetEq σ 1 α 75) (hL : σ 1 1 ≤ 8) (ru k i : Int) : wI (nwt σ 1) (σ 1 1) (σ 1 0) ru k i = waI α ru k i := by
  unfold waI wI
  rw [wQ_e h hL, h.2.1]
theorem waI_n {α : St} {ru k i : Int} (h : 0 ≤ i) : waI α ru k i = none ↔ waN α ru k ≤ i := wayI_n _ _ _ _ _ h
theorem wN_R (W : Int → Int → Int) (L n ru k : Int) (h : 0 ≤ pw (k + 1) L.toNat) : 0 ≤ wN W L n ru k ∧ wN W L n ru k ≤ pw (k + 1) L.toNat := by
  have := wayN_R (wQ W L n ru) (nxT k L.toNat) (pw (k + 1) L.toNat).toNat (fun _ => 0)
  unfold wN
  omega
theorem RX_th {α σ τ : St} (ho : Only thS σ τ) (h : RX α σ) : RX α τ := RX_c (fun k hk => ho k (by unfold xP at hk; simp; omega)) h
theorem MS_th {σ τ : St} (ho : Only thS σ τ) : MS σ τ := fun k hk => ho k (by simp; omega)
theorem dv_R {a g : Int} (h : 0 ≤ a ∧ a ≤ 65536) (hg : 0 ≤ g) : 0 ≤ a.tdiv g ∧ a.tdiv g ≤ 65536 := by
  rw [td_ed _ h.1]
  have h1 := Int.ediv_nonneg h.1 hg
  have h2 := Int.ediv_le_self g h.1
  omega
theorem gcd_R {a b : Int} (hb : 1 ≤ b) : 1 ≤ ((Nat.gcd a.toNat b.toNat : Nat) : Int) ∧ ((Nat.gcd a.toNat b.toNat : Nat) : Int) ≤ b := by
  have h1 := Nat.gcd_pos_of_pos_right a.toNat (show 0 < b.toNat by omega)
  have h2 := Nat.le_of_dvd (show 0 < b.toNat by omega) (Nat.gcd_dvd_right a.toNat b.toNat)
  omega
set_option maxHeartbeats 4000000 in
theorem c_X9_ways {V : Wd} {σ : St} {α : St} {ru k i l : Int} (h1 : inR ru) (h2 : inR k) (h3 : inR i) (h4 : inR l) (hk : OK α) (hX : RX α σ) : Ct V yX9_ways cX9_ways 5 (some .int) 4 89 [rv V 0, iv ru, iv k, iv i, iv l] σ (PI (fun r τ => r = an_ways α ru k i l ∧ RX (nx_ways α ru k i l) τ ∧ MS σ τ)) := by
  refine ct_of (by decide) (Nat.le_of_ble_eq_true rfl) (fun X G T => ?_)
  have G : Gd X V cX9_ways RX9 5 4 89 := G
  show AW X V σ 0 [] [some (rv V 0), some (iv ru), some (iv k), some (iv i), some (iv l)]
  have hN : NetOK σ 1 := hX.1.ok hk.1
  obtain ⟨⟨e0, e1, er⟩, ⟨x1, x2⟩, xp, xl, xr, xi⟩ := id hX
  obtain ⟨⟨n1, n2, n3, n4, n5, n6⟩, u1, l1, l2, i1, s1, w1⟩ := id hk
  obtain ⟨p1, p2, p3, p4, p5, p6⟩ := id hN
  refine aw_iload_n G dX9_ways_0 rfl ?_
  refine cs_X9_165 G dX9_ways_1 (c_X9_isRule (by first | assumption | omega)) (kk := fun r1 t1 h1 => ?_)
  obtain ⟨rfl, ee1⟩ := h1
  obtain rfl := ee1.symm
  refine aw_if_ne (tgt := 14) G dX9_ways_4 (by decide) (by first | omega | exact b01_R _ | exact bP_R _) (fun c4 => ?_) (fun c4 => ?_)
  · try simp only [b01_0, b01_n, bP_0, bP_n, Classical.not_not] at c4
    refine aw_iload_n G dX9_ways_14 rfl ?_
    refine aw_if_lt (tgt := 23) G dX9_ways_15 (by decide) (by first | omega | exact b01_R _ | exact bP_R _) (fun c15 => ?_) (fun c15 => ?_)
    · refine aw_aload_n G dX9_ways_23 rfl ?_
      refine aw_bipush G dX9_ways_24 (k := ?_)
      refine cv_X9_77 G dX9_ways_26 (c_X9_refused (by decide)) (kk := fun r26 t26 h26 => ?_)
      obtain ⟨rfl, ee26⟩ := h26
      obtain rfl := ee26.symm
      exact aw_iret G T dX9_ways_29 (⟨by unfold an_ways; (repeat' split) <;> first | rfl | (exfalso; omega) | omega, by unfold nx_ways; (repeat' split) <;> first | exact hX | exact RX_ref hX (by decide) | (exfalso; omega), by first | exact MS.rf _ | exact (MS.rf _).up (by decide)⟩)
    · refine aw_iload_n G dX9_ways_18 rfl ?_
      refine aw_iconst G dX9_ways_19 ?_
      refine aw_icmp_ge (tgt := 30) G dX9_ways_20 (by decide) (by first | omega | exact b01_R _ | exact bP_R _) (by first | omega | exact b01_R _ | exact bP_R _) (fun c20 => ?_) (fun c20 => ?_)
      · refine aw_iload_n G dX9_ways_30 rfl ?_
        refine aw_iconst G dX9_ways_31 ?_
        refine aw_icmp_le (tgt := 42) G dX9_ways_32 (by decide) (by first | omega | exact b01_R _ | exact bP_R _) (by first | omega | exact b01_R _ | exact bP_R _) (fun c32 => ?_) (fun c32 => ?_)
        · refine aw_iload_n G dX9_ways_42 rfl ?_
          refine aw_iconst G dX9_ways_43 ?_
          refine aw_icmp_eq (tgt := 65) G dX9_ways_44 (by decide) (by first | omega | exact b01_R _ | exact bP_R _) (by first | omega | exact b01_R _ | exact bP_R _) (fun c44 => ?_) (fun c44 => ?_)
          · refine aw_aload_n G dX9_ways_65 rfl ?_
            refine aw_aload_n G dX9_ways_66 rfl ?_
            refine gf_X9_35 G dX9_ways_67 (kk := ?_)
            refine aw_iload_n G dX9_ways_70 rfl ?_
            refine aw_iload_n G dX9_ways_71 rfl ?_
            refine aw_iload_n G dX9_ways_72 rfl ?_
            refine cv_X9_176 G dX9_ways_73 (c_X7_findWays hN (by omega) (by omega) (by omega)) (kk := fun r73 t73 h73 => ?_)
            obtain ⟨ho73, hc73, hr73⟩ := h73
            refine aw_iload_n G dX9_ways_76 rfl ?_
            refine aw_iload G dX9_ways_77 rfl ?_
            refine cv_X9_180 G dX9_ways_79 (c_X9_found (by omega) (by omega) (by intros; omega)) (kk := fun r79 t79 h79 => ?_)
            obtain ⟨rfl, ee79⟩ := h79
            obtain rfl := ee79.symm
            exact aw_iret G T dX9_ways_82 (by
    have hne : NetEq σ 1 α 75 := ⟨e0, e1, er⟩
    refine ⟨?_, by unfold nx_ways; (repeat' split) <;> first | exact RX_th ho73 hX | (exfalso; omega), MS_th ho73⟩
    rcases hc73 with ⟨q1, q2⟩ | ⟨q1, q2, f, q3, q4⟩
    · by_cases z : i = -1
      · rw [if_pos z, q1]
        unfold an_ways
        rw [if_neg (by omega), if_neg (by omega), if_neg (by omega), if_neg (by omega), if_pos (by omega)]
        exact wN_e hne p4 ru k
      · rw [if_neg z, if_neg (by omega)]
        unfold an_ways
        rw [if_neg (by omega), if_neg (by omega), if_neg (by omega), if_neg (by omega), if_neg (by omega), (waI_n (by omega)).mpr (by rw [← wN_e hne p4 ru k]; omega)]
    · rw [if_neg (by omega), if_pos (by omega)]
      unfold an_ways
      rw [if_neg (by omega), if_neg (by omega), if_neg (by omega), if_neg (by omega), if_neg (by omega), ← wI_e hne p4 ru k i, q3]
      exact q4 l (by omega) (by omega))
          · refine aw_aload_n G dX9_ways_47 rfl ?_
            refine gf_X9_10 G dX9_ways_48 (kk := ?_)
            refine aw_iload G dX9_ways_51 rfl ?_
            refine cv_X9_115 G dX9_ways_53 (c_X3_hasLine (by first | exact isNet_1 | exact isNet_13) (by first | assumption | omega) (by omega)) (kk := fun r53 t53 h53 => ?_)
            obtain ⟨rfl, ee53⟩ := h53
            obtain rfl := ee53.symm
            refine aw_if_ne (tgt := 65) G dX9_ways_56 (by decide) (by first | omega | exact b01_R _ | exact bP_R _) (fun c56 => ?_) (fun c56 => ?_)
            · try simp only [b01_0, b01_n, bP_0, bP_n, Classical.not_not] at c56
              refine aw_aload_n G dX9_ways_65 rfl ?_
              refine aw_aload_n G dX9_ways_66 rfl ?_
              refine gf_X9_35 G dX9_ways_67 (kk := ?_)
              refine aw_iload_n G dX9_ways_70 rfl ?_
              refine aw_iload_n G dX9_ways_71 rfl ?_
              refine aw_iload_n G dX9_ways_72 rfl ?_
              refine cv_X9_176 G dX9_ways_73 (c_X7_findWays hN (by omega) (by omega) (by omega)) (kk := fun r73 t73 h73 => ?_)
              obtain ⟨ho73, hc73, hr73⟩ := h73
              refine aw_iload_n G dX9_ways_76 rfl ?_
              refine aw_iload G dX9_ways_77 rfl ?_
              refine cv_X9_180 G dX9_ways_79 (c_X9_found (by omega) (by omega) (by intros; omega)) (kk := fun r79 t79 h79 => ?_)
              obtain ⟨rfl, ee79⟩ := h79
              obtain rfl := ee79.symm
              exact aw_iret G T dX9_ways_82 (by
    have hne : NetEq σ 1 α 75 := ⟨e0, e1, er⟩
    refine ⟨?_, by unfold nx_ways; (repeat' split) <;> first | exact RX_th ho73 hX | (exfalso; omega), MS_th ho73⟩
    rcases hc73 with ⟨q1, q2⟩ | ⟨q1, q2, f, q3, q4⟩
    · by_cases z : i = -1
      · rw [if_pos z, q1]
        unfold an_ways
        rw [if_neg (by omega), if_neg (by omega), if_neg (by omega), if_neg (by omega), if_pos (by omega)]
        exact wN_e hne p4 ru k
      · rw [if_neg z, if_neg (by omega)]
        unfold an_ways
        rw [if_neg (by omega), if_neg (by omega), if_neg (by omega), if_neg (by omega), if_neg (by omega), (waI_n (by omega)).mpr (by rw [← wN_e hne p4 ru k]; omega)]
    · rw [if_neg (by omega), if_pos (by omega)]
      unfold an_ways
      rw [if_neg (by omega), if_neg (by omega), if_neg (by omega), if_neg (by omega), if_neg (by omega), ← wI_e hne p4 ru k i, q3]
      exact q4 l (by omega) (by omega))
            · try simp only [b01_0, b01_n, bP_0, bP_n, Classical.not_not] at c56
              refine aw_aload_n G dX9_ways_59 rfl ?_
              refine aw_iconst G dX9_ways_60 ?_
              refine cv_X9_77 G dX9_ways_61 (c_X9_refused (by decide)) (kk := fun r61 t61 h61 => ?_)
              obtain ⟨rfl, ee61⟩ := h61
              obtain rfl := ee61.symm
              exact aw_iret G T dX9_ways_64 (⟨by unfold an_ways; (repeat' split) <;> first | rfl | (exfalso; omega) | omega, by unfold nx_ways; (repeat' split) <;> first | exact hX | exact RX_ref hX (by decide) | (exfalso; omega), by first | exact MS.rf _ | exact (MS.rf _).up (by decide)⟩)
        · refine aw_aload_n G dX9_ways_35 rfl ?_
          refine aw_bipush G dX9_ways_36 (k := ?_)
          refine cv_X9_77 G dX9_ways_38 (c_X9_refused (by decide)) (kk := fun r38 t38 h38 => ?_)
          obtain ⟨rfl, ee38⟩ := h38
          obtain rfl := ee38.symm
          exact aw_iret G T dX9_ways_41 (⟨by unfold an_ways; (repeat' split) <;> first | rfl | (exfalso; omega) | omega, by unfold nx_ways; (repeat' split) <;> first | exact hX | exact RX_ref hX (by decide) | (exfalso; omega), by first | exact MS.rf _ | exact (MS.rf _).up (by decide)⟩)
      · refine aw_aload_n G dX9_ways_23 rfl ?_
        refine aw_bipush G dX9_ways_24 (k := ?_)
        refine cv_X9_77 G dX9_ways_26 (c_X9_refused (by decide)) (kk := fun r26 t26 h26 => ?_)
        obtain ⟨rfl, ee26⟩ := h26
        obtain rfl := ee26.symm
        exact aw_iret G T dX9_ways_29 (⟨by unfold an_ways; (repeat' split) <;> first | rfl | (exfalso; omega) | omega, by unfold nx_ways; (repeat' split) <;> first | exact hX | exact RX_ref hX (by decide) | (exfalso; omega), by first | exact MS.rf _ | exact (MS.rf _).up (by decide)⟩)
  · try simp only [b01_0, b01_n, bP_0, bP_n, Classical.not_not] at c4
    refine aw_aload_n G dX9_ways_7 rfl ?_
    refine aw_bipush G dX9_ways_8 (k := ?_)
    refine cv_X9_77 G dX9_ways_10 (c_X9_refused (by decide)) (kk := fun r10 t10 h10 => ?_)
    obtain ⟨rfl, ee10⟩ := h10
    obtain rfl := ee10.symm
    exact aw_iret G T dX9_ways_13 (⟨by unfold an_ways; (repeat' split) <;> first | rfl | (exfalso; omega) | omega, by unfold nx_ways; (repeat' split) <;> first | exact hX | exact RX_ref hX (by decide) | (exfalso; omega), by first | exact MS.rf _ | exact (MS.rf _).up (by decide)⟩)
set_option maxHeartbeats 4000000 in
theorem c_X9_lots {V : Wd} {σ : St} {α : St} {ru n z v : Int} (h1 : inR ru) (h2 : inR n) (h3 : inR z) (h4 : inR v) (hk : OK α) (hX : RX α σ) : Ct V yX9_lots cX9_lots 5 (some .int) 4 88 [rv V 0, iv ru, iv n, iv z, iv v] σ (PI (fun r τ => r = an_lots α ru n z v ∧ RX (nx_lots α ru n v) τ ∧ MS σ τ)) := by
  refine ct_of (by decide) (Nat.le_of_ble_eq_true rfl) (fun X G T => ?_)
  have G : Gd X V cX9_lots RX9 5 4 88 := G
  show AW X V σ 0 [] [some (rv V 0), some (iv ru), some (iv n), some (iv z), some (iv v)]
  have hN : NetOK σ 1 := hX.1.ok hk.1
  obtain ⟨⟨e0, e1, er⟩, ⟨x1, x2⟩, xp, xl, xr, xi⟩ := id hX
  obtain ⟨⟨n1, n2, n3, n4, n5, n6⟩, u1, l1, l2, i1, s1, w1⟩ := id hk
  obtain ⟨p1, p2, p3, p4, p5, p6⟩ := id hN
  refine aw_iload_n G dX9_lots_0 rfl ?_
  refine cs_X9_165 G dX9_lots_1 (c_X9_isRule (by first | assumption | omega)) (kk := fun r1 t1 h1 => ?_)
  obtain ⟨rfl, ee1⟩ := h1
  obtain rfl := ee1.symm
  refine aw_if_ne (tgt := 14) G dX9_lots_4 (by decide) (by first | omega | exact b01_R _ | exact bP_R _) (fun c4 => ?_) (fun c4 => ?_)
  · try simp only [b01_0, b01_n, bP_0, bP_n, Classical.not_not] at c4
    refine aw_iload_n G dX9_lots_14 rfl ?_
    refine aw_iconst G dX9_lots_15 ?_
    refine aw_icmp_ge (tgt := 26) G dX9_lots_16 (by decide) (by first | omega | exact b01_R _ | exact bP_R _) (by first | omega | exact b01_R _ | exact bP_R _) (fun c16 => ?_) (fun c16 => ?_)
    · refine aw_iload_n G dX9_lots_26 rfl ?_
      refine aw_bipush G dX9_lots_27 (k := ?_)
      refine aw_icmp_le (tgt := 39) G dX9_lots_29 (by decide) (by first | omega | exact b01_R _ | exact bP_R _) (by first | omega | exact b01_R _ | exact bP_R _) (fun c29 => ?_) (fun c29 => ?_)
      · refine aw_iload G dX9_lots_39 rfl ?_
        refine aw_if_eq (tgt := 57) G dX9_lots_41 (by decide) (by first | omega | exact b01_R _ | exact bP_R _) (fun c41 => ?_) (fun c41 => ?_)
        · try simp only [b01_0, b01_n, bP_0, bP_n, Classical.not_not] at c41
          refine aw_iload G dX9_lots_57 rfl ?_
          refine aw_if_ne (tgt := 75) G dX9_lots_59 (by decide) (by first | omega | exact b01_R _ | exact bP_R _) (fun c59 => ?_) (fun c59 => ?_)
          · try simp only [b01_0, b01_n, bP_0, bP_n, Classical.not_not] at c59
            refine aw_aload_n G dX9_lots_75 rfl ?_
            refine gf_X9_35 G dX9_lots_76 (kk := ?_)
            refine aw_iload_n G dX9_lots_79 rfl ?_
            refine aw_iload_n G dX9_lots_80 rfl ?_
            refine cv_X9_212 G dX9_lots_81 (c_X7_lotsTogether hN (by omega)) (kk := fun r81 t81 h81 => ?_)
            obtain ⟨ho81, hc81⟩ := h81
            exact aw_iret G T dX9_lots_84 (by
    have hne : NetEq σ 1 α 75 := ⟨e0, e1, er⟩
    first
      | (refine ⟨?_, by unfold nx_lots; (repeat' split) <;> first | exact RX_th ho69 hX | (exfalso; omega), MS_th ho69⟩
         unfold an_lots
         rw [hc69, if_neg (by omega), if_neg (by omega), if_neg (by omega), if_neg (by omega), if_pos (by omega)]
         refine sumTo_c fun t a b => ?_
         unfold loT
         rw [wQ_e hne p4, e1])
      | (refine ⟨?_, by unfold nx_lots; (repeat' split) <;> first | exact RX_th ho81 hX | (exfalso; omega), MS_th ho81⟩
         unfold an_lots
         rw [hc81, if_neg (by omega), if_neg (by omega), if_neg (by omega), if_neg (by omega), if_neg (by omega)]
         refine sumTo_c fun t a b => ?_
         unfold loA
         rw [tsum_e hne p4, e1, e0]))
          · try simp only [b01_0, b01_n, bP_0, bP_n, Classical.not_not] at c59
            refine aw_aload_n G dX9_lots_62 rfl ?_
            refine gf_X9_35 G dX9_lots_63 (kk := ?_)
            refine aw_iload_n G dX9_lots_66 rfl ?_
            refine aw_iload_n G dX9_lots_67 rfl ?_
            refine aw_iload_n G dX9_lots_68 rfl ?_
            refine cv_X9_209 G dX9_lots_69 (c_X7_lotsThatKeep hN (by omega) (by omega)) (kk := fun r69 t69 h69 => ?_)
            obtain ⟨ho69, hc69⟩ := h69
            refine aw_goto (tgt := 84) G dX9_lots_72 (by decide) ?_
            exact aw_iret G T dX9_lots_84 (by
    have hne : NetEq σ 1 α 75 := ⟨e0, e1, er⟩
    first
      | (refine ⟨?_, by unfold nx_lots; (repeat' split) <;> first | exact RX_th ho69 hX | (exfalso; omega), MS_th ho69⟩
         unfold an_lots
         rw [hc69, if_neg (by omega), if_neg (by omega), if_neg (by omega), if_neg (by omega), if_pos (by omega)]
         refine sumTo_c fun t a b => ?_
         unfold loT
         rw [wQ_e hne p4, e1])
      | (refine ⟨?_, by unfold nx_lots; (repeat' split) <;> first | exact RX_th ho81 hX | (exfalso; omega), MS_th ho81⟩
         unfold an_lots
         rw [hc81, if_neg (by omega), if_neg (by omega), if_neg (by omega), if_neg (by omega), if_neg (by omega)]
         refine sumTo_c fun t a b => ?_
         unfold loA
         rw [tsum_e hne p4, e1, e0]))
        · try simp only [b01_0, b01_n, bP_0, bP_n, Classical.not_not] at c41
          refine aw_iload G dX9_lots_44 rfl ?_
          refine aw_iconst G dX9_lots_46 ?_
          refine aw_icmp_eq (tgt := 57) G dX9_lots_47 (by decide) (by first | omega | exact b01_R _ | exact bP_R _) (by first | omega | exact b01_R _ | exact bP_R _) (fun c47 => ?_) (fun c47 => ?_)
          · refine aw_iload G dX9_lots_57 rfl ?_
            refine aw_if_ne (tgt := 75) G dX9_lots_59 (by decide) (by first | omega | exact b01_R _ | exact bP_R _) (fun c59 => ?_) (fun c59 => ?_)
            · try simp only [b01_0, b01_n, bP_0, bP_n, Classical.not_not] at c59
              refine aw_aload_n G dX9_lots_75 rfl ?_
              refine gf_X9_35 G dX9_lots_76 (kk := ?_)
              refine aw_iload_n G dX9_lots_79 rfl ?_
              refine aw_iload_n G dX9_lots_80 rfl ?_
              refine cv_X9_212 G dX9_lots_81 (c_X7_lotsTogether hN (by omega)) (kk := fun r81 t81 h81 => ?_)
              obtain ⟨ho81, hc81⟩ := h81
              exact aw_iret G T dX9_lots_84 (by
    have hne : NetEq σ 1 α 75 := ⟨e0, e1, er⟩
    first
      | (refine ⟨?_, by unfold nx_lots; (repeat' split) <;> first | exact RX_th ho69 hX | (exfalso; omega), MS_th ho69⟩
         unfold an_lots
         rw [hc69, if_neg (by omega), if_neg (by omega), if_neg (by omega), if_neg (by omega), if_pos (by omega)]
         refine sumTo_c fun t a b => ?_
         unfold loT
         rw [wQ_e hne p4, e1])
      | (refine ⟨?_, by unfold nx_lots; (repeat' split) <;> first | exact RX_th ho81 hX | (exfalso; omega), MS_th ho81⟩
         unfold an_lots
         rw [hc81, if_neg (by omega), if_neg (by omega), if_neg (by omega), if_neg (by omega), if_neg (by omega)]
         refine sumTo_c fun t a b => ?_
         unfold loA
         rw [tsum_e hne p4, e1, e0]))
            · try simp only [b01_0, b01_n, bP_0, bP_n, Classical.not_not] at c59
              refine aw_aload_n G dX9_lots_62 rfl ?_
              refine gf_X9_35 G dX9_lots_63 (kk := ?_)
              refine aw_iload_n G dX9_lots_66 rfl ?_
              refine aw_iload_n G dX9_lots_67 rfl ?_
              refine aw_iload_n G dX9_lots_68 rfl ?_
              refine cv_X9_209 G dX9_lots_69 (c_X7_lotsThatKeep hN (by omega) (by omega)) (kk := fun r69 t69 h69 => ?_)
              obtain ⟨ho69, hc69⟩ := h69
              refine aw_goto (tgt := 84) G dX9_lots_72 (by decide) ?_
              exact aw_iret G T dX9_lots_84 (by
    have hne : NetEq σ 1 α 75 := ⟨e0, e1, er⟩
    first
      | (refine ⟨?_, by unfold nx_lots; (repeat' split) <;> first | exact RX_th ho69 hX | (exfalso; omega), MS_th ho69⟩
         unfold an_lots
         rw [hc69, if_neg (by omega), if_neg (by omega), if_neg (by omega), if_neg (by omega), if_pos (by omega)]
         refine sumTo_c fun t a b => ?_
         unfold loT
         rw [wQ_e hne p4, e1])
      | (refine ⟨?_, by unfold nx_lots; (repeat' split) <;> first | exact RX_th ho81 hX | (exfalso; omega), MS_th ho81⟩
         unfold an_lots
         rw [hc81, if_neg (by omega), if_neg (by omega), if_neg (by omega), if_neg (by omega), if_neg (by omega)]
         refine sumTo_c fun t a b => ?_
         unfold loA
         rw [tsum_e hne p4, e1, e0]))
          · refine aw_aload_n G dX9_lots_50 rfl ?_
            refine aw_bipush G dX9_lots_51 (k := ?_)
            refine cv_X9_77 G dX9_lots_53 (c_X9_refused (by decide)) (kk := fun r53 t53 h53 => ?_)
            obtain ⟨rfl, ee53⟩ := h53
            obtain rfl := ee53.symm
            exact aw_iret G T dX9_lots_56 (⟨by unfold an_lots; (repeat' split) <;> first | rfl | (exfalso; omega) | omega, by unfold nx_lots; (repeat' split) <;> first | exact hX | exact RX_ref hX (by decide) | (exfalso; omega), by first | exact MS.rf _ | exact (MS.rf _).up (by decide)⟩)
      · refine aw_aload_n G dX9_lots_32 rfl ?_
        refine aw_bipush G dX9_lots_33 (k := ?_)
        refine cv_X9_77 G dX9_lots_35 (c_X9_refused (by decide)) (kk := fun r35 t35 h35 => ?_)
        obtain ⟨rfl, ee35⟩ := h35
        obtain rfl := ee35.symm
        exact aw_iret G T dX9_lots_38 (⟨by unfold an_lots; (repeat' split) <;> first | rfl | (exfalso; omega) | omega, by unfold nx_lots; (repeat' split) <;> first | exact hX | exact RX_ref hX (by decide) | (exfalso; omega), by first | exact MS.rf _ | exact (MS.rf _).up (by decide)⟩)
    · refine aw_aload_n G dX9_lots_19 rfl ?_
      refine aw_bipush G dX9_lots_20 (k := ?_)
      refine cv_X9_77 G dX9_lots_22 (c_X9_refused (by decide)) (kk := fun r22 t22 h22 => ?_)
      obtain ⟨rfl, ee22⟩ := h22
      obtain rfl := ee22.symm
      exact aw_iret G T dX9_lots_25 (⟨by unfold an_lots; (repeat' split) <;> first | rfl | (exfalso; omega) | omega, by unfold nx_lots; (repeat' split) <;> first | exact hX | exact RX_ref hX (by decide) | (exfalso; omega), by first | exact MS.rf _ | exact (MS.rf _).up (by decide)⟩)
  · try simp only [b01_0, b01_n, bP_0, bP_n, Classical.not_not] at c4
    refine aw_aload_n G dX9_lots_7 rfl ?_
    refine aw_bipush G dX9_lots_8 (k := ?_)
    refine cv_X9_77 G dX9_lots_10 (c_X9_refused (by decide)) (kk := fun r10 t10 h10 => ?_)
    obtain ⟨rfl, ee10⟩ := h10
    obtain rfl := ee10.symm
    exact aw_iret G T dX9_lots_13 (⟨by unfold an_lots; (repeat' split) <;> first | rfl | (exfalso; omega) | omega, by unfold nx_lots; (repeat' split) <;> first | exact hX | exact RX_ref hX (by decide) | (exfalso; omega), by first | exact MS.rf _ | exact (MS.rf _).up (by decide)⟩)
set_option maxHeartbeats 4000000 in
theorem c_X9_commonDivisor {V : Wd} {σ : St} {a b : Int} (ha : 0 ≤ a ∧ a ≤ b) (hb : 1 ≤ b ∧ b ≤ 65536) : Ct V yX9_commonDivisor cX9_commonDivisor 6 (some .int) 1 40 [iv a, iv b] σ (PI (fun r τ => r = ((Nat.gcd a.toNat b.toNat : Nat) : Int) ∧ τ = σ)) := by
  refine ct_of (by decide) (Nat.le_of_ble_eq_true rfl) (fun X G T => ?_)
  have G : Gd X V cX9_commonDivisor RX9 6 1 40 := G
  show AW X V σ 0 [] [some (iv a), some (iv b), none, none, none, none]
  obtain ⟨a', rfl⟩ := Int.eq_ofNat_of_zero_le ha.1
  obtain ⟨b', rfl⟩ := Int.eq_ofNat_of_zero_le (show 0 ≤ b by omega)
  have loop : ∀ (n0 : Nat) (x : Nat) (y : Nat) (d : Int) (q : Nat) (u : Option Value), (0 ≤ d ∧ d ≤ 64) → (64 < d + (n0 : Int)) → (lcat u = 1) → (y ≤ x ∧ 1 ≤ x ∧ x ≤ 65536) → (Nat.gcd y x = Nat.gcd a' b') → (x * y < 2 ^ q) → (d + q ≤ 40) → AW X V (σ) 7 [] [some (iv (a' : Int)), some (iv (b' : Int)), some (iv (x : Int)), some (iv (y : Int)), some (iv d), u] := by
    intro n0
    induction n0 with
    | zero =>
      intro x y d q u h0 h1 hu hx hg hp hd
      exfalso
      omega
    | succ n0 ih =>
      intro x y d q u h0 h1 hu hx hg hp hd
      refine aw_iload G dX9_commonDivisor_7 rfl ?_
      refine aw_bipush G dX9_commonDivisor_9 (k := ?_)
      refine aw_icmp_ge (tgt := 34) G dX9_commonDivisor_11 (by decide) (by first | omega | exact b01_R _ | exact bP_R _) (by first | omega | exact b01_R _ | exact bP_R _) (fun c11 => ?_) (fun c11 => ?_)
      · refine aw_iconst G dX9_commonDivisor_34 ?_
        refine aw_iload_n G dX9_commonDivisor_35 rfl ?_
        refine cm_X9_278 G dX9_commonDivisor_36 (by first | omega | exact b01_R _ | exact bP_R _) (by first | omega | exact b01_R _ | exact bP_R _) (k := ?_)
        exact aw_iret G T dX9_commonDivisor_39 (by
          refine ⟨?_, rfl⟩
          first
            | (exfalso; omega)
            | (have hy : y = 0 := by omega
               rw [Int.toNat_natCast, Int.toNat_natCast, ← hg, hy, Nat.gcd_zero_left]
               omega))
      · refine aw_iload_n G dX9_commonDivisor_14 rfl ?_
        refine aw_if_eq (tgt := 34) G dX9_commonDivisor_15 (by decide) (by first | omega | exact b01_R _ | exact bP_R _) (fun c15 => ?_) (fun c15 => ?_)
        · try simp only [b01_0, b01_n, bP_0, bP_n, Classical.not_not] at c15
          refine aw_iconst G dX9_commonDivisor_34 ?_
          refine aw_iload_n G dX9_commonDivisor_35 rfl ?_
          refine cm_X9_278 G dX9_commonDivisor_36 (by first | omega | exact b01_R _ | exact bP_R _) (by first | omega | exact b01_R _ | exact bP_R _) (k := ?_)
          exact aw_iret G T dX9_commonDivisor_39 (by
          refine ⟨?_, rfl⟩
          first
            | (exfalso; omega)
            | (have hy : y = 0 := by omega
               rw [Int.toNat_natCast, Int.toNat_natCast, ← hg, hy, Nat.gcd_zero_left]
               omega))
        · try simp only [b01_0, b01_n, bP_0, bP_n, Classical.not_not] at c15
          refine aw_iload_n G dX9_commonDivisor_18 rfl ?_
          refine aw_iload_n G dX9_commonDivisor_19 rfl ?_
          refine aw_irem G dX9_commonDivisor_20 (by first | omega | exact b01_R _ | exact bP_R _) (by first | omega | exact b01_R _ | exact bP_R _) ?_
          rw [show ((x : Int).tmod (y : Int)) = ((x % y : Nat) : Int) from by rw [tm_em _ (by omega)]; rfl]
          refine aw_istore_5 G dX9_commonDivisor_21 (hc := by first | rfl | assumption) (k := ?_)
          refine aw_iload_n G dX9_commonDivisor_23 rfl ?_
          refine aw_istore_2 G dX9_commonDivisor_24 (hc := by first | rfl | assumption) (k := ?_)
          refine aw_iload G dX9_commonDivisor_25 rfl ?_
          refine aw_istore_3 G dX9_commonDivisor_27 (hc := by first | rfl | assumption) (k := ?_)
          refine aw_iinc_4 G dX9_commonDivisor_28 rfl (hc := by first | rfl | assumption) (k := ?_)
          refine aw_goto (tgt := 7) G dX9_commonDivisor_31 (by decide) ?_
          have y0 : 0 < y := by omega
          have hxy : 0 < x * y := Nat.mul_pos (by omega) y0
          have h2r : 2 * (x % y) ≤ x := by
            have r1 := Nat.mod_lt x y0
            have r2 : x % y = (x - y) % y := Nat.mod_eq_sub_mod hx.1
            have r3 := Nat.mod_le (x - y) y
            omega
          obtain ⟨q', rfl⟩ : ∃ q', q = q' + 1 := ⟨q - 1, by
            cases q with
            | zero => rw [Nat.pow_zero] at hp; omega
            | succ q => omega⟩
          refine ih y (x % y) (d + 1) q' _ (by omega) (by omega) rfl ⟨by have := Nat.mod_lt x y0; omega, y0, by omega⟩ ?_ ?_ (by omega)
          · rw [← hg]
            exact (Nat.gcd_rec y x).symm
          · have := Nat.mul_le_mul_left y h2r
            rw [Nat.mul_left_comm, Nat.mul_comm y x] at this
            rw [Nat.pow_succ] at hp
            omega
  refine aw_iload_n G dX9_commonDivisor_0 rfl ?_
  refine aw_istore_2 G dX9_commonDivisor_1 (hc := by first | rfl | assumption) (k := ?_)
  refine aw_iload_n G dX9_commonDivisor_2 rfl ?_
  refine aw_istore_3 G dX9_commonDivisor_3 (hc := by first | rfl | assumption) (k := ?_)
  refine aw_iconst G dX9_commonDivisor_4 ?_
  refine aw_istore_4 G dX9_commonDivisor_5 (hc := by first | rfl | assumption) (k := ?_)
  exact loop 65 b' a' 0 33 _ (by omega) (by omega) rfl (by omega) rfl (by have := Nat.mul_le_mul (show b' ≤ 65536 by omega) (show a' ≤ 65536 by omega); rw [show (2:Nat) ^ 33 = 8589934592 by decide]; omega) (by omega)
set_option maxHeartbeats 4000000 in
theorem c_X9_odds {V : Wd} {σ : St} {α : St} {ru k v : Int} (h1 : inR ru) (h2 : inR k) (h3 : inR v) (hk : OK α) (hX : RX α σ) : Ct V yX9_odds cX9_odds 6 (some .long) 4 89 [rv V 0, iv ru, iv k, iv v] σ (PJ (fun r τ => r = an_odds α ru k v ∧ RX (nx_odds α ru k v) τ ∧ MS σ τ)) := by
  refine ct_of (by decide) (Nat.le_of_ble_eq_true rfl) (fun X G T => ?_)
  have G : Gd X V cX9_odds RX9 6 4 89 := G
  show AW X V σ 0 [] [some (rv V 0), some (iv ru), some (iv k), some (iv v), none, none]
  have hN : NetOK σ 1 := hX.1.ok hk.1
  obtain ⟨⟨e0, e1, er⟩, ⟨x1, x2⟩, xp, xl, xr, xi⟩ := id hX
  obtain ⟨⟨n1, n2, n3, n4, n5, n6⟩, u1, l1, l2, i1, s1, w1⟩ := id hk
  obtain ⟨p1, p2, p3, p4, p5, p6⟩ := id hN
  refine aw_iload_n G dX9_odds_0 rfl ?_
  refine cs_X9_165 G dX9_odds_1 (c_X9_isRule (by first | assumption | omega)) (kk := fun r1 t1 h1 => ?_)
  obtain ⟨rfl, ee1⟩ := h1
  obtain rfl := ee1.symm
  refine aw_if_ne (tgt := 19) G dX9_odds_4 (by decide) (by first | omega | exact b01_R _ | exact bP_R _) (fun c4 => ?_) (fun c4 => ?_)
  · try simp only [b01_0, b01_n, bP_0, bP_n, Classical.not_not] at c4
    refine aw_iload_n G dX9_odds_19 rfl ?_
    refine aw_if_ge (tgt := 35) G dX9_odds_20 (by decide) (by first | omega | exact b01_R _ | exact bP_R _) (fun c20 => ?_) (fun c20 => ?_)
    · refine aw_iload_n G dX9_odds_35 rfl ?_
      refine aw_iconst G dX9_odds_36 ?_
      refine aw_icmp_le (tgt := 52) G dX9_odds_37 (by decide) (by first | omega | exact b01_R _ | exact bP_R _) (by first | omega | exact b01_R _ | exact bP_R _) (fun c37 => ?_) (fun c37 => ?_)
      · refine aw_iload_n G dX9_odds_52 rfl ?_
        refine aw_if_eq (tgt := 73) G dX9_odds_53 (by decide) (by first | omega | exact b01_R _ | exact bP_R _) (fun c53 => ?_) (fun c53 => ?_)
        · try simp only [b01_0, b01_n, bP_0, bP_n, Classical.not_not] at c53
          refine aw_aload_n G dX9_odds_73 rfl ?_
          refine gf_X9_35 G dX9_odds_74 (kk := ?_)
          refine aw_iload_n G dX9_odds_77 rfl ?_
          refine aw_iload_n G dX9_odds_78 rfl ?_
          refine aw_iconst G dX9_odds_79 ?_
          refine cv_X9_176 G dX9_odds_80 (c_X7_findWays hN (by omega) (by omega) (by omega)) (kk := fun r80 t80 h80 => ?_)
          obtain ⟨ho, hc, hr⟩ := h80
          have hA := pw_48 (b := k + 1) (by omega) (show (σ 1 1).toNat ≤ 8 by omega)
          have hW := wN_R (nwt σ 1) (σ 1 1) (σ 1 0) ru k (by omega)
          have hN0 : r80 = wN (nwt σ 1) (σ 1 1) (σ 1 0) ru k := by
            rcases hc with ⟨q1, q2⟩ | ⟨q1, q2⟩
            · exact q1
            · omega
          subst hN0
          refine aw_istore_4 G dX9_odds_83 (hc := by first | rfl | assumption) (k := ?_)
          refine aw_iload_n G dX9_odds_85 rfl ?_
          refine aw_iconst G dX9_odds_86 ?_
          refine aw_iadd G dX9_odds_87 ?_
          refine aw_aload_n G dX9_odds_88 rfl ?_
          refine gf_X9_10 G dX9_odds_89 (kk := ?_)
          refine gf_X9_109 G dX9_odds_92 (kk := ?_)
          rw [ho 1 (by decide)]
          refine cs_X9_203 G dX9_odds_95 (c_X7_power (by omega)) (kk := fun r95 t95 h95 => ?_)
          obtain ⟨rfl, ee95⟩ := h95
          obtain rfl := ee95.symm
          refine aw_istore_5 G dX9_odds_98 (hc := by first | rfl | assumption) (k := ?_)
          refine aw_iload_n G dX9_odds_100 rfl ?_
          refine aw_if_ne (tgt := 109) G dX9_odds_101 (by decide) (by first | omega | exact b01_R _ | exact bP_R _) (fun c101 => ?_) (fun c101 => ?_)
          · try simp only [b01_0, b01_n, bP_0, bP_n, Classical.not_not] at c101
            refine aw_iload G dX9_odds_109 rfl ?_
            refine aw_iload G dX9_odds_111 rfl ?_
            refine aw_iload G dX9_odds_113 rfl ?_
            refine cs_X9_206 G dX9_odds_115 (c_X9_commonDivisor (by omega) (by omega)) (kk := fun r115 t115 h115 => ?_)
            obtain ⟨rfl, ee115⟩ := h115
            obtain rfl := ee115.symm
            have hg := gcd_R (a := wN (nwt σ 1) (σ 1 1) (σ 1 0) ru k) (b := pw (k + 1) (σ 1 1).toNat) (by omega)
            refine aw_idiv G dX9_odds_118 (by omega) (by omega) ?_
            refine aw_i2l G dX9_odds_119 (by first | (have := dv_R (a := wN (nwt σ 1) (σ 1 1) (σ 1 0) ru k) (g := ((Nat.gcd (wN (nwt σ 1) (σ 1 1) (σ 1 0) ru k).toNat (pw (k + 1) (σ 1 1).toNat).toNat : Nat) : Int)) (by omega) (by omega); omega) | (have := dv_R (a := pw (k + 1) (σ 1 1).toNat) (g := ((Nat.gcd (wN (nwt σ 1) (σ 1 1) (σ 1 0) ru k).toNat (pw (k + 1) (σ 1 1).toNat).toNat : Nat) : Int)) (by omega) (by omega); omega)) ?_
            exact aw_lret G T dX9_odds_120 (by
    have hne : NetEq σ 1 α 75 := ⟨e0, e1, er⟩
    refine ⟨?_, by unfold nx_odds; (repeat' split) <;> first | exact RX_th ho hX | (exfalso; omega), MS_th ho⟩
    unfold an_odds oddsP
    rw [if_neg (by omega), if_neg (by omega), if_neg (by omega), if_neg (by omega), ← e1, ← wN_e hne p4]
    first | (exfalso; omega) | rw [if_pos (by omega)] | rw [if_neg (by omega)])
          · try simp only [b01_0, b01_n, bP_0, bP_n, Classical.not_not] at c101
            refine aw_iload G dX9_odds_104 rfl ?_
            refine aw_goto (tgt := 111) G dX9_odds_106 (by decide) ?_
            refine aw_iload G dX9_odds_111 rfl ?_
            refine aw_iload G dX9_odds_113 rfl ?_
            refine cs_X9_206 G dX9_odds_115 (c_X9_commonDivisor (by omega) (by omega)) (kk := fun r115 t115 h115 => ?_)
            obtain ⟨rfl, ee115⟩ := h115
            obtain rfl := ee115.symm
            have hg := gcd_R (a := wN (nwt σ 1) (σ 1 1) (σ 1 0) ru k) (b := pw (k + 1) (σ 1 1).toNat) (by omega)
            refine aw_idiv G dX9_odds_118 (by omega) (by omega) ?_
            refine aw_i2l G dX9_odds_119 (by first | (have := dv_R (a := wN (nwt σ 1) (σ 1 1) (σ 1 0) ru k) (g := ((Nat.gcd (wN (nwt σ 1) (σ 1 1) (σ 1 0) ru k).toNat (pw (k + 1) (σ 1 1).toNat).toNat : Nat) : Int)) (by omega) (by omega); omega) | (have := dv_R (a := pw (k + 1) (σ 1 1).toNat) (g := ((Nat.gcd (wN (nwt σ 1) (σ 1 1) (σ 1 0) ru k).toNat (pw (k + 1) (σ 1 1).toNat).toNat : Nat) : Int)) (by omega) (by omega); omega)) ?_
            exact aw_lret G T dX9_odds_120 (by
    have hne : NetEq σ 1 α 75 := ⟨e0, e1, er⟩
    refine ⟨?_, by unfold nx_odds; (repeat' split) <;> first | exact RX_th ho hX | (exfalso; omega), MS_th ho⟩
    unfold an_odds oddsP
    rw [if_neg (by omega), if_neg (by omega), if_neg (by omega), if_neg (by omega), ← e1, ← wN_e hne p4]
    first | (exfalso; omega) | rw [if_pos (by omega)] | rw [if_neg (by omega)])
        · try simp only [b01_0, b01_n, bP_0, bP_n, Classical.not_not] at c53
          refine aw_iload_n G dX9_odds_56 rfl ?_
          refine aw_iconst G dX9_odds_57 ?_
          refine aw_icmp_eq (tgt := 73) G dX9_odds_58 (by decide) (by first | omega | exact b01_R _ | exact bP_R _) (by first | omega | exact b01_R _ | exact bP_R _) (fun c58 => ?_) (fun c58 => ?_)
          · refine aw_aload_n G dX9_odds_73 rfl ?_
            refine gf_X9_35 G dX9_odds_74 (kk := ?_)
            refine aw_iload_n G dX9_odds_77 rfl ?_
            refine aw_iload_n G dX9_odds_78 rfl ?_
            refine aw_iconst G dX9_odds_79 ?_
            refine cv_X9_176 G dX9_odds_80 (c_X7_findWays hN (by omega) (by omega) (by omega)) (kk := fun r80 t80 h80 => ?_)
            obtain ⟨ho, hc, hr⟩ := h80
            have hA := pw_48 (b := k + 1) (by omega) (show (σ 1 1).toNat ≤ 8 by omega)
            have hW := wN_R (nwt σ 1) (σ 1 1) (σ 1 0) ru k (by omega)
            have hN0 : r80 = wN (nwt σ 1) (σ 1 1) (σ 1 0) ru k := by
              rcases hc with ⟨q1, q2⟩ | ⟨q1, q2⟩
              · exact q1
              · omega
            subst hN0
            refine aw_istore_4 G dX9_odds_83 (hc := by first | rfl | assumption) (k := ?_)
            refine aw_iload_n G dX9_odds_85 rfl ?_
            refine aw_iconst G dX9_odds_86 ?_
            refine aw_iadd G dX9_odds_87 ?_
            refine aw_aload_n G dX9_odds_88 rfl ?_
            refine gf_X9_10 G dX9_odds_89 (kk := ?_)
            refine gf_X9_109 G dX9_odds_92 (kk := ?_)
            rw [ho 1 (by decide)]
            refine cs_X9_203 G dX9_odds_95 (c_X7_power (by omega)) (kk := fun r95 t95 h95 => ?_)
            obtain ⟨rfl, ee95⟩ := h95
            obtain rfl := ee95.symm
            refine aw_istore_5 G dX9_odds_98 (hc := by first | rfl | assumption) (k := ?_)
            refine aw_iload_n G dX9_odds_100 rfl ?_
            refine aw_if_ne (tgt := 109) G dX9_odds_101 (by decide) (by first | omega | exact b01_R _ | exact bP_R _) (fun c101 => ?_) (fun c101 => ?_)
            · try simp only [b01_0, b01_n, bP_0, bP_n, Classical.not_not] at c101
              refine aw_iload G dX9_odds_109 rfl ?_
              refine aw_iload G dX9_odds_111 rfl ?_
              refine aw_iload G dX9_odds_113 rfl ?_
              refine cs_X9_206 G dX9_odds_115 (c_X9_commonDivisor (by omega) (by omega)) (kk := fun r115 t115 h115 => ?_)
              obtain ⟨rfl, ee115⟩ := h115
              obtain rfl := ee115.symm
              have hg := gcd_R (a := wN (nwt σ 1) (σ 1 1) (σ 1 0) ru k) (b := pw (k + 1) (σ 1 1).toNat) (by omega)
              refine aw_idiv G dX9_odds_118 (by omega) (by omega) ?_
              refine aw_i2l G dX9_odds_119 (by first | (have := dv_R (a := wN (nwt σ 1) (σ 1 1) (σ 1 0) ru k) (g := ((Nat.gcd (wN (nwt σ 1) (σ 1 1) (σ 1 0) ru k).toNat (pw (k + 1) (σ 1 1).toNat).toNat : Nat) : Int)) (by omega) (by omega); omega) | (have := dv_R (a := pw (k + 1) (σ 1 1).toNat) (g := ((Nat.gcd (wN (nwt σ 1) (σ 1 1) (σ 1 0) ru k).toNat (pw (k + 1) (σ 1 1).toNat).toNat : Nat) : Int)) (by omega) (by omega); omega)) ?_
              exact aw_lret G T dX9_odds_120 (by
    have hne : NetEq σ 1 α 75 := ⟨e0, e1, er⟩
    refine ⟨?_, by unfold nx_odds; (repeat' split) <;> first | exact RX_th ho hX | (exfalso; omega), MS_th ho⟩
    unfold an_odds oddsP
    rw [if_neg (by omega), if_neg (by omega), if_neg (by omega), if_neg (by omega), ← e1, ← wN_e hne p4]
    first | (exfalso; omega) | rw [if_pos (by omega)] | rw [if_neg (by omega)])
            · try simp only [b01_0, b01_n, bP_0, bP_n, Classical.not_not] at c101
              refine aw_iload G dX9_odds_104 rfl ?_
              refine aw_goto (tgt := 111) G dX9_odds_106 (by decide) ?_
              refine aw_iload G dX9_odds_111 rfl ?_
              refine aw_iload G dX9_odds_113 rfl ?_
              refine cs_X9_206 G dX9_odds_115 (c_X9_commonDivisor (by omega) (by omega)) (kk := fun r115 t115 h115 => ?_)
              obtain ⟨rfl, ee115⟩ := h115
              obtain rfl := ee115.symm
              have hg := gcd_R (a := wN (nwt σ 1) (σ 1 1) (σ 1 0) ru k) (b := pw (k + 1) (σ 1 1).toNat) (by omega)
              refine aw_idiv G dX9_odds_118 (by omega) (by omega) ?_
              refine aw_i2l G dX9_odds_119 (by first | (have := dv_R (a := wN (nwt σ 1) (σ 1 1) (σ 1 0) ru k) (g := ((Nat.gcd (wN (nwt σ 1) (σ 1 1) (σ 1 0) ru k).toNat (pw (k + 1) (σ 1 1).toNat).toNat : Nat) : Int)) (by omega) (by omega); omega) | (have := dv_R (a := pw (k + 1) (σ 1 1).toNat) (g := ((Nat.gcd (wN (nwt σ 1) (σ 1 1) (σ 1 0) ru k).toNat (pw (k + 1) (σ 1 1).toNat).toNat : Nat) : Int)) (by omega) (by omega); omega)) ?_
              exact aw_lret G T dX9_odds_120 (by
    have hne : NetEq σ 1 α 75 := ⟨e0, e1, er⟩
    refine ⟨?_, by unfold nx_odds; (repeat' split) <;> first | exact RX_th ho hX | (exfalso; omega), MS_th ho⟩
    unfold an_odds oddsP
    rw [if_neg (by omega), if_neg (by omega), if_neg (by omega), if_neg (by omega), ← e1, ← wN_e hne p4]
    first | (exfalso; omega) | rw [if_pos (by omega)] | rw [if_neg (by omega)])
          · refine lc_X9_201 G dX9_odds_61 ?_
            refine aw_aload_n G dX9_odds_64 rfl ?_
            refine aw_bipush G dX9_odds_65 (k := ?_)
            refine cv_X9_77 G dX9_odds_67 (c_X9_refused (by decide)) (kk := fun r67 t67 h67 => ?_)
            obtain ⟨rfl, ee67⟩ := h67
            obtain rfl := ee67.symm
            refine aw_i2l G dX9_odds_70 (by first | omega | exact b01_R _ | exact bP_R _) ?_
            refine aw_lsub G dX9_odds_71 ?_
            exact aw_lret G T dX9_odds_72 (⟨by unfold an_odds; (repeat' split) <;> first | rfl | (exfalso; omega) | omega, by unfold nx_odds; (repeat' split) <;> first | exact hX | exact RX_ref hX (by decide) | (exfalso; omega), by first | exact MS.rf _ | exact (MS.rf _).up (by decide)⟩)
      · refine lc_X9_201 G dX9_odds_40 ?_
        refine aw_aload_n G dX9_odds_43 rfl ?_
        refine aw_bipush G dX9_odds_44 (k := ?_)
        refine cv_X9_77 G dX9_odds_46 (c_X9_refused (by decide)) (kk := fun r46 t46 h46 => ?_)
        obtain ⟨rfl, ee46⟩ := h46
        obtain rfl := ee46.symm
        refine aw_i2l G dX9_odds_49 (by first | omega | exact b01_R _ | exact bP_R _) ?_
        refine aw_lsub G dX9_odds_50 ?_
        exact aw_lret G T dX9_odds_51 (⟨by unfold an_odds; (repeat' split) <;> first | rfl | (exfalso; omega) | omega, by unfold nx_odds; (repeat' split) <;> first | exact hX | exact RX_ref hX (by decide) | (exfalso; omega), by first | exact MS.rf _ | exact (MS.rf _).up (by decide)⟩)
    · refine lc_X9_201 G dX9_odds_23 ?_
      refine aw_aload_n G dX9_odds_26 rfl ?_
      refine aw_bipush G dX9_odds_27 (k := ?_)
      refine cv_X9_77 G dX9_odds_29 (c_X9_refused (by decide)) (kk := fun r29 t29 h29 => ?_)
      obtain ⟨rfl, ee29⟩ := h29
      obtain rfl := ee29.symm
      refine aw_i2l G dX9_odds_32 (by first | omega | exact b01_R _ | exact bP_R _) ?_
      refine aw_lsub G dX9_odds_33 ?_
      exact aw_lret G T dX9_odds_34 (⟨by unfold an_odds; (repeat' split) <;> first | rfl | (exfalso; omega) | omega, by unfold nx_odds; (repeat' split) <;> first | exact hX | exact RX_ref hX (by decide) | (exfalso; omega), by first | exact MS.rf _ | exact (MS.rf _).up (by decide)⟩)
  · try simp only [b01_0, b01_n, bP_0, bP_n, Classical.not_not] at c4
    refine lc_X9_201 G dX9_odds_7 ?_
    refine aw_aload_n G dX9_odds_10 rfl ?_
    refine aw_bipush G dX9_odds_11 (k := ?_)
    refine cv_X9_77 G dX9_odds_13 (c_X9_refused (by decide)) (kk := fun r13 t13 h13 => ?_)
    obtain ⟨rfl, ee13⟩ := h13
    obtain rfl := ee13.symm
    refine aw_i2l G dX9_odds_16 (by first | omega | exact b01_R _ | exact bP_R _) ?_
    refine aw_lsub G dX9_odds_17 ?_
    exact aw_lret G T dX9_odds_18 (⟨by unfold an_odds; (repeat' split) <;> first | rfl | (exfalso; omega) | omega, by unfold nx_odds; (repeat' split) <;> first | exact hX | exact RX_ref hX (by decide) | (exfalso; omega), by first | exact MS.rf _ | exact (MS.rf _).up (by decide)⟩)
