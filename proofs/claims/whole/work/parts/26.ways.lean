theorem TH_c {ρ σ : St} {f g : Int → Int} (h : ∀ j : Int, 0 ≤ j → j < ρ 1 1 → f j = g j) (hT : TH ρ σ f) : TH ρ σ g :=
  ⟨hT.1, fun j a b => by rw [← h j a b]; exact hT.2.1 j a b, fun p a b => (hT.2.2 p a b).trans (tsum_c fun l c d => ⟨rfl, h l c d⟩)⟩
theorem TH_47 {ρ σ : St} {f : Int → Int} {j x : Int} (hT : TH ρ σ f) : TH ρ (up σ 47 j x) f :=
  ⟨hT.1.up (by decide), fun i a b => by
    rw [up_o (show (48:Nat) ≠ 47 by decide), up_o (show (50:Nat) ≠ 47 by decide), up_o (show (51:Nat) ≠ 47 by decide)]
    exact hT.2.1 i a b, fun p a b => by
    rw [up_o (show (49:Nat) ≠ 47 by decide)]
    exact hT.2.2 p a b⟩
theorem TH_R {ρ σ : St} {f : Int → Int} (hT : TH ρ σ f) (hN : NetOK ρ 1) (hf : ∀ j : Int, 0 ≤ j → j < ρ 1 1 → 0 ≤ f j ∧ f j ≤ 1000) : ∀ p : Int, 0 ≤ p → p < 7 → inR (σ 49 p) := fun p a b => by
  obtain ⟨n1, n2, n3, n4, n5, n6⟩ := hN
  rw [hT.2.2 p a b]
  have := tsum_R (W := nwt ρ 1) (f := f) (L := ρ 1 1) (p := p) n4 (fun l c d => ⟨nwt_R (by have := n5 l c (by omega); omega), hf l c d⟩)
  omega
/-- whether labels are so by a rule -/
def wQ (W : Int → Int → Int) (L n ru : Int) (f : Int → Int) : Prop := ruleP ru (tsum W f L) n
noncomputable def wN (W : Int → Int → Int) (L n ru k : Int) : Int := wayN (wQ W L n ru) (nxT k L.toNat) (pw (k + 1) L.toNat).toNat (fun _ => 0)
noncomputable def wI (W : Int → Int → Int) (L n ru k : Int) (i : Int) : Option (Int → Int) := wayI (wQ W L n ru) (nxT k L.toNat) (pw (k + 1) L.toNat).toNat (fun _ => 0) i
def sd (x : Int) : Nat → Int
  | 0 => x
  | n + 1 => sd x n * 1664525 + 1013904223
theorem sd_s (x : Int) (n : Nat) : sd x (n + 1) = sd x n * 1664525 + 1013904223 := rfl
def sdT (L : Nat) (z : Int) : Nat → Int
  | 0 => z
  | t + 1 => sd (sdT L z t) L
theorem sdT_s (L : Nat) (z : Int) (t : Nat) : sdT L z (t + 1) = sd (sdT L z t) L := rfl
def drF (x : Int) : Int := ((iand x 2147483647).tdiv 256).tmod 10
theorem iand_P (x : Int) : 0 ≤ iand x 2147483647 ∧ iand x 2147483647 ≤ 2147483647 := by
  rw [iand_m (x := x) (m := 2147483647) 31 (by decide) (by decide)]
  have h : ((2 ^ 31 : Nat) : Int) = 2147483648 := by decide
  rw [h]
  omega
theorem dr1_R (x : Int) : 0 ≤ (iand x 2147483647).tdiv 256 ∧ (iand x 2147483647).tdiv 256 ≤ 8388607 := by
  have h := iand_P x
  rw [td_ed _ h.1]
  omega
theorem dr_R (x : Int) : 0 ≤ drF x ∧ drF x ≤ 9 := by
  have h := dr1_R x
  unfold drF
  rw [tm_em _ h.1]
  omega
def lotF (L : Nat) (z : Int) (t : Int) : Int → Int := fun j => drF (sd (sdT L z t.toNat) (j.toNat + 1))
set_option maxHeartbeats 4000000 in
theorem c_X7_nextLabels {V : Wd} {σ : St} {ρ : St} {f : Int → Int} {k : Int} (hN : NetOK ρ 1) (hT0 : TH ρ σ f) (hf : ∀ j : Int, 0 ≤ f j ∧ f j ≤ k) (hk : 0 ≤ k ∧ k ≤ 9) : Ct V yX7_nextLabels cX7_nextLabels 3 none 1 23 [rv V 47, iv k] σ (PV (fun τ => TH ρ τ (nxT k (ρ 1 1).toNat f) ∧ Only [48, 49] σ τ)) := by
  refine ct_of (by decide) (Nat.le_of_ble_eq_true rfl) (fun X G T => ?_)
  have G : Gd X V cX7_nextLabels RX7 3 1 23 := G
  show AW X V σ 0 [] [some (rv V 47), some (iv k), none]
  obtain ⟨n1, n2, n3, n4, n5, n6⟩ := id hN
  have loop : ∀ (n0 : Nat) (i : Int) (τ : St) (g : Int → Int), (-1 ≤ i ∧ i < ρ 1 1) → (i + 1 < (n0 : Int)) → (TH ρ τ g) → (∀ j : Int, 0 ≤ g j ∧ g j ≤ k) → (Only [48, 49] σ τ) → (nxT k (i + 1).toNat g = nxT k (ρ 1 1).toNat f) → AW X V (τ) 10 [] [some (rv V 47), some (iv k), some (iv i)] := by
    intro n0
    induction n0 with
    | zero =>
      intro i τ g h0 h1 hT hg hO hq
      exfalso
      omega
    | succ n0 ih =>
      intro i τ g h0 h1 hT hg hO hq
      refine aw_iload_n G dX7_nextLabels_10 rfl ?_
      refine aw_if_lt (tgt := 50) G dX7_nextLabels_11 (by decide) (by first | omega | exact b01_R _ | exact bP_R _) (fun c11 => ?_) (fun c11 => ?_)
      · exact aw_vret G T dX7_nextLabels_50 (by rw [← hq, show (i + 1).toNat = 0 by omega]; exact ⟨hT, hO⟩)
      · have hgi := hg i
        have hti := (hT.2.1 i (by omega) (by omega)).1
        refine aw_aload_n G dX7_nextLabels_14 rfl ?_
        refine gf_X7_9 G dX7_nextLabels_15 (kk := ?_)
        refine aw_iload_n G dX7_nextLabels_18 rfl ?_
        refine aw_iaload G dX7_nextLabels_19 (by first | decide | assumption | omega) (by first | rfl | assumption) (by first | decide | assumption) (by omega) ?_
        rw [hti]
        refine aw_iload_n G dX7_nextLabels_20 rfl ?_
        refine aw_icmp_ge (tgt := 38) G dX7_nextLabels_21 (by decide) (by first | omega | exact b01_R _ | exact bP_R _) (by first | omega | exact b01_R _ | exact bP_R _) (fun c21 => ?_) (fun c21 => ?_)
        · refine aw_aload_n G dX7_nextLabels_38 rfl ?_
          refine aw_iload_n G dX7_nextLabels_39 rfl ?_
          refine aw_iconst G dX7_nextLabels_40 ?_
          refine cv_X7_76 G dX7_nextLabels_41 (c_X7_relabel hN hT (by omega)) (kk := fun t41 h41 => ?_)
          obtain ⟨hT41, ho41⟩ := h41
          refine aw_iinc_2 G dX7_nextLabels_44 rfl (hc := by first | rfl | assumption) (k := ?_)
          refine aw_goto (tgt := 10) G dX7_nextLabels_47 (by decide) ?_
          rw [show (i + 1).toNat = i.toNat + 1 by omega, nxT_s, show ((i.toNat : Nat) : Int) = i by omega, if_neg (by omega)] at hq
          refine ih (i + -1) _ _ (by omega) (by omega) hT41 (fun j => ?_) (hO.tr ho41) (by rw [show (i + -1 + 1).toNat = i.toNat by omega]; exact hq)
          have hj := hg j
          unfold upf
          split <;> omega
        · refine aw_aload_n G dX7_nextLabels_24 rfl ?_
          refine aw_iload_n G dX7_nextLabels_25 rfl ?_
          refine aw_aload_n G dX7_nextLabels_26 rfl ?_
          refine gf_X7_9 G dX7_nextLabels_27 (kk := ?_)
          refine aw_iload_n G dX7_nextLabels_30 rfl ?_
          refine aw_iaload G dX7_nextLabels_31 (by first | decide | assumption | omega) (by first | rfl | assumption) (by first | decide | assumption) (by omega) ?_
          rw [hti]
          refine aw_iconst G dX7_nextLabels_32 ?_
          refine aw_iadd G dX7_nextLabels_33 ?_
          refine cv_X7_76 G dX7_nextLabels_34 (c_X7_relabel hN hT (by omega)) (kk := fun t34 h34 => ?_)
          obtain ⟨hT34, ho34⟩ := h34
          exact aw_vret G T dX7_nextLabels_37 (by rw [← hq, show (i + 1).toNat = i.toNat + 1 by omega, nxT_s, show ((i.toNat : Nat) : Int) = i by omega, if_pos (by omega)]; exact ⟨hT34, hO.tr ho34⟩)
  refine aw_aload_n G dX7_nextLabels_0 rfl ?_
  refine gf_X7_34 G dX7_nextLabels_1 (kk := ?_)
  refine gf_X7_38 G dX7_nextLabels_4 (kk := ?_)
  rw [hT0.1 1 (by decide)]
  refine aw_iconst G dX7_nextLabels_7 ?_
  refine aw_isub G dX7_nextLabels_8 ?_
  refine aw_istore_2 G dX7_nextLabels_9 (hc := by first | rfl | assumption) (k := ?_)
  exact loop ((ρ 1 1).toNat + 1) (ρ 1 1 - 1) σ f (by omega) (by omega) hT0 hf Only.rf (by rw [show (ρ 1 1 - 1 + 1).toNat = (ρ 1 1).toNat by omega])
set_option maxHeartbeats 4000000 in
theorem c_X7_findWays {V : Wd} {σ : St} {ru k wi : Int} (hN : NetOK σ 1) (hr : 0 ≤ ru ∧ ru ≤ 5) (hk : 0 ≤ k ∧ k ≤ 3) (hw : -1 ≤ wi ∧ wi ≤ 2147483647) : Ct V yX7_findWays cX7_findWays 7 (some .int) 3 63 [rv V 47, iv ru, iv k, iv wi] σ (PI (fun r τ => Only thS σ τ ∧ ((r = wN (nwt σ 1) (σ 1 1) (σ 1 0) ru k ∧ (wi < 0 ∨ wN (nwt σ 1) (σ 1 1) (σ 1 0) ru k ≤ wi)) ∨ (0 ≤ wi ∧ r = wi + 1 ∧ ∃ f, wI (nwt σ 1) (σ 1 1) (σ 1 0) ru k wi = some f ∧ ∀ j : Int, 0 ≤ j → j < σ 1 1 → τ 48 j = f j)) ∧ 0 ≤ r ∧ r ≤ 65536)) := by
  refine ct_of (by decide) (Nat.le_of_ble_eq_true rfl) (fun X G T => ?_)
  have G : Gd X V cX7_findWays RX7 7 3 63 := G
  show AW X V σ 0 [] [some (rv V 47), some (iv ru), some (iv k), some (iv wi), none, none, none]
  obtain ⟨n1, n2, n3, n4, n5, n6⟩ := id hN
  have hA := pw_48 (b := k + 1) (by omega) (show (σ 1 1).toNat ≤ 8 by omega)
  have loop : ∀ (n0 : Nat) (x : Int) (n : Int) (τ : St) (f : Int → Int), (0 ≤ x ∧ x ≤ pw (k + 1) (σ 1 1).toNat) → (pw (k + 1) (σ 1 1).toNat < x + (n0 : Int)) → (0 ≤ n ∧ n ≤ x) → (TH σ τ f) → (∀ j : Int, 0 ≤ f j ∧ f j ≤ k) → (wN (nwt σ 1) (σ 1 1) (σ 1 0) ru k = n + wayN (wQ (nwt σ 1) (σ 1 1) (σ 1 0) ru) (nxT k (σ 1 1).toNat) (pw (k + 1) (σ 1 1).toNat - x).toNat f) → (0 ≤ wi → n ≤ wi ∧ wayI (wQ (nwt σ 1) (σ 1 1) (σ 1 0) ru) (nxT k (σ 1 1).toNat) (pw (k + 1) (σ 1 1).toNat - x).toNat f (wi - n) = wI (nwt σ 1) (σ 1 1) (σ 1 0) ru k wi) → AW X V (τ) 25 [] [some (rv V 47), some (iv ru), some (iv k), some (iv wi), some (iv (pw (k + 1) (σ 1 1).toNat)), some (iv n), some (iv x)] := by
    intro n0
    induction n0 with
    | zero =>
      intro x n τ f h0 h1 hn hT hf hqN hqI
      exfalso
      omega
    | succ n0 ih =>
      intro x n τ f h0 h1 hn hT hf hqN hqI
      refine aw_iload G dX7_findWays_25 rfl ?_
      refine aw_iload G dX7_findWays_27 rfl ?_
      refine aw_icmp_ge (tgt := 75) G dX7_findWays_29 (by decide) (by first | omega | exact b01_R _ | exact bP_R _) (by first | omega | exact b01_R _ | exact bP_R _) (fun c29 => ?_) (fun c29 => ?_)
      · refine aw_iload G dX7_findWays_75 rfl ?_
        exact aw_iret G T dX7_findWays_77 (by
          rw [show (pw (k + 1) (σ 1 1).toNat - x).toNat = 0 by omega] at hqN hqI
          have hN0 : wN (nwt σ 1) (σ 1 1) (σ 1 0) ru k = n := by rw [hqN]; unfold wayN; omega
          exact ⟨hT.1, Or.inl ⟨hN0.symm, by have := fun q => (hqI q).1; omega⟩, by omega, by omega⟩)
      · have ew : (pw (k + 1) (σ 1 1).toNat - x).toNat = (pw (k + 1) (σ 1 1).toNat - (x + 1)).toNat + 1 := by omega
        have hRs := TH_R hT hN (fun j a b => by have := hf j; omega)
        have e1 : τ 1 = σ 1 := hT.1 1 (by decide)
        have hQ : ruleP ru (τ 49) (σ 1 0) ↔ wQ (nwt σ 1) (σ 1 1) (σ 1 0) ru f := ruleP_c (fun p a b => hT.2.2 p a (by omega))
        refine aw_iload_n G dX7_findWays_32 rfl ?_
        refine aw_aload_n G dX7_findWays_33 rfl ?_
        refine gf_X7_15 G dX7_findWays_34 (kk := ?_)
        refine aw_aload_n G dX7_findWays_37 rfl ?_
        refine gf_X7_34 G dX7_findWays_38 (kk := ?_)
        refine gf_X7_63 G dX7_findWays_41 (kk := ?_)
        rw [e1]
        refine cs_X7_66 G dX7_findWays_44 (c_X5_holds (k := 49) (N := 7) (by decide) rfl (by decide) (by omega) (fun i a b => hRs i a (by omega)) (by omega) (by omega)) (kk := fun r44 t44 h44 => ?_)
        obtain ⟨rfl, ee44⟩ := h44
        obtain rfl := ee44.symm
        refine aw_if_eq (tgt := 64) G dX7_findWays_47 (by decide) (bP_R _) (fun c47 => ?_) (fun c47 => ?_)
        · try simp only [b01_0, b01_n, bP_0, bP_n, Classical.not_not] at c47
          refine aw_aload_n G dX7_findWays_64 rfl ?_
          refine aw_iload_n G dX7_findWays_65 rfl ?_
          refine cv_X7_72 G dX7_findWays_66 (c_X7_nextLabels hN hT hf (by omega)) (kk := fun t66 h66 => ?_)
          obtain ⟨hT66, ho66⟩ := h66
          refine aw_iinc_6 G dX7_findWays_69 rfl (hc := by first | rfl | assumption) (k := ?_)
          refine aw_goto (tgt := 25) G dX7_findWays_72 (by decide) ?_
          rw [ew, wayN_s] at hqN
          first
            | (rw [bP_f (show ¬ wQ (nwt σ 1) (σ 1 1) (σ 1 0) ru f from fun q => c47 (hQ.mpr q))] at hqN
               refine ih (x + 1) n t66 _ (by omega) (by omega) (by omega) hT66 (nxT_R (by omega) _ f hf) (by omega) (fun q => ?_)
               have hz := hqI q
               rw [ew, wayI_s, bP_f (show ¬ wQ (nwt σ 1) (σ 1 1) (σ 1 0) ru f from fun q => c47 (hQ.mpr q)), if_neg (by decide)] at hz
               exact hz)
            | (rw [bP_t (hQ.mp c47)] at hqN
               refine ih (x + 1) (n + 1) t66 _ (by omega) (by omega) (by omega) hT66 (nxT_R (by omega) _ f hf) (by omega) (fun q => ?_)
               have hz := hqI q
               rw [ew, wayI_s, bP_t (hQ.mp c47), if_pos rfl, if_neg (by omega), show wi - n - 1 = wi - (n + 1) by omega] at hz
               exact ⟨by omega, hz.2⟩)
        · try simp only [b01_0, b01_n, bP_0, bP_n, Classical.not_not] at c47
          refine aw_iinc_5 G dX7_findWays_50 rfl (hc := by first | rfl | assumption) (k := ?_)
          refine aw_iload G dX7_findWays_53 rfl ?_
          refine aw_iconst G dX7_findWays_55 ?_
          refine aw_isub G dX7_findWays_56 ?_
          refine aw_iload_n G dX7_findWays_57 rfl ?_
          refine aw_icmp_ne (tgt := 64) G dX7_findWays_58 (by decide) (by first | omega | exact b01_R _ | exact bP_R _) (by first | omega | exact b01_R _ | exact bP_R _) (fun c58 => ?_) (fun c58 => ?_)
          · refine aw_aload_n G dX7_findWays_64 rfl ?_
            refine aw_iload_n G dX7_findWays_65 rfl ?_
            refine cv_X7_72 G dX7_findWays_66 (c_X7_nextLabels hN hT hf (by omega)) (kk := fun t66 h66 => ?_)
            obtain ⟨hT66, ho66⟩ := h66
            refine aw_iinc_6 G dX7_findWays_69 rfl (hc := by first | rfl | assumption) (k := ?_)
            refine aw_goto (tgt := 25) G dX7_findWays_72 (by decide) ?_
            rw [ew, wayN_s] at hqN
            first
              | (rw [bP_f (show ¬ wQ (nwt σ 1) (σ 1 1) (σ 1 0) ru f from fun q => c47 (hQ.mpr q))] at hqN
                 refine ih (x + 1) n t66 _ (by omega) (by omega) (by omega) hT66 (nxT_R (by omega) _ f hf) (by omega) (fun q => ?_)
                 have hz := hqI q
                 rw [ew, wayI_s, bP_f (show ¬ wQ (nwt σ 1) (σ 1 1) (σ 1 0) ru f from fun q => c47 (hQ.mpr q)), if_neg (by decide)] at hz
                 exact hz)
              | (rw [bP_t (hQ.mp c47)] at hqN
                 refine ih (x + 1) (n + 1) t66 _ (by omega) (by omega) (by omega) hT66 (nxT_R (by omega) _ f hf) (by omega) (fun q => ?_)
                 have hz := hqI q
                 rw [ew, wayI_s, bP_t (hQ.mp c47), if_pos rfl, if_neg (by omega), show wi - n - 1 = wi - (n + 1) by omega] at hz
                 exact ⟨by omega, hz.2⟩)
          · refine aw_iload G dX7_findWays_61 rfl ?_
            exact aw_iret G T dX7_findWays_63 (by
          refine ⟨hT.1, Or.inr ⟨by omega, by omega, f, ?_, fun j a b => (hT.2.1 j a b).1⟩, by omega, by omega⟩
          have hz := (hqI (by omega)).2
          rw [ew, wayI_s, bP_t (hQ.mp c47), if_pos rfl, if_pos (by omega)] at hz
          exact hz.symm)
  refine aw_aload_n G dX7_findWays_0 rfl ?_
  refine cv_X7_56 G dX7_findWays_1 (c_X7_begin (by assumption)) (kk := fun t1 h1 => ?_)
  refine aw_iload_n G dX7_findWays_4 rfl ?_
  refine aw_iconst G dX7_findWays_5 ?_
  refine aw_iadd G dX7_findWays_6 ?_
  refine aw_aload_n G dX7_findWays_7 rfl ?_
  refine gf_X7_34 G dX7_findWays_8 (kk := ?_)
  refine gf_X7_38 G dX7_findWays_11 (kk := ?_)
  rw [h1.1.1 1 (by decide)]
  refine cs_X7_59 G dX7_findWays_14 (c_X7_power (by omega)) (kk := fun r14 t14 h14 => ?_)
  obtain ⟨rfl, ee14⟩ := h14
  obtain rfl := ee14.symm
  refine aw_istore_4 G dX7_findWays_17 (hc := by first | rfl | assumption) (k := ?_)
  refine aw_iconst G dX7_findWays_19 ?_
  refine aw_istore_5 G dX7_findWays_20 (hc := by first | rfl | assumption) (k := ?_)
  refine aw_iconst G dX7_findWays_22 ?_
  refine aw_istore_6 G dX7_findWays_23 (hc := by first | rfl | assumption) (k := ?_)
  exact loop ((pw (k + 1) (σ 1 1).toNat).toNat + 1) 0 0 t1 (fun _ => 0) (by omega) (by omega) (by omega) h1.1 (fun j => by omega) (by rw [show pw (k + 1) (σ 1 1).toNat - 0 = pw (k + 1) (σ 1 1).toNat by omega]; unfold wN; omega) (fun q => ⟨by omega, by rw [show pw (k + 1) (σ 1 1).toNat - 0 = pw (k + 1) (σ 1 1).toNat by omega, show wi - 0 = wi by omega]; rfl⟩)
set_option maxHeartbeats 4000000 in
theorem c_X7_drawLabels {V : Wd} {σ : St} {ρ : St} {f : Int → Int} {x : Int} (hN : NetOK ρ 1) (hT0 : TH ρ σ f) (hx : σ 47 7 = x) : Ct V yX7_drawLabels cX7_drawLabels 2 none 1 23 [rv V 47] σ (PV (fun τ => TH ρ τ (fun j => drF (sd x (j.toNat + 1))) ∧ τ 47 7 = sd x (ρ 1 1).toNat)) := by
  refine ct_of (by decide) (Nat.le_of_ble_eq_true rfl) (fun X G T => ?_)
  have G : Gd X V cX7_drawLabels RX7 2 1 23 := G
  show AW X V σ 0 [] [some (rv V 47), none]
  obtain ⟨n1, n2, n3, n4, n5, n6⟩ := id hN
  have loop : ∀ (n0 : Nat) (i : Int) (τ : St), (0 ≤ i ∧ i ≤ ρ 1 1) → (ρ 1 1 < i + (n0 : Int)) → (TH ρ τ (fun j => if j < i then drF (sd x (j.toNat + 1)) else f j)) → (τ 47 7 = sd x i.toNat) → AW X V (τ) 2 [] [some (rv V 47), some (iv i)] := by
    intro n0
    induction n0 with
    | zero =>
      intro i τ h0 h1 hT1 hs
      exfalso
      omega
    | succ n0 ih =>
      intro i τ h0 h1 hT1 hs
      refine aw_iload_n G dX7_drawLabels_2 rfl ?_
      refine aw_aload_n G dX7_drawLabels_3 rfl ?_
      refine gf_X7_34 G dX7_drawLabels_4 (kk := ?_)
      refine gf_X7_38 G dX7_drawLabels_7 (kk := ?_)
      rw [hT1.1 1 (by decide)]
      refine aw_icmp_ge (tgt := 52) G dX7_drawLabels_10 (by decide) (by first | omega | exact b01_R _ | exact bP_R _) (by first | omega | exact b01_R _ | exact bP_R _) (fun c10 => ?_) (fun c10 => ?_)
      · exact aw_vret G T dX7_drawLabels_52 (⟨TH_c (fun j a b => if_pos (by omega)) hT1, by rw [hs, show i = ρ 1 1 by omega]⟩)
      · refine aw_aload_n G dX7_drawLabels_13 rfl ?_
        refine aw_aload_n G dX7_drawLabels_14 rfl ?_
        refine gf_X7_31 G dX7_drawLabels_15 (kk := ?_)
        rw [hs]
        refine lc_X7_122 G dX7_drawLabels_18 ?_
        refine aw_imul G dX7_drawLabels_20 ?_
        refine lc_X7_123 G dX7_drawLabels_21 ?_
        refine aw_iadd G dX7_drawLabels_23 ?_
        refine pf_X7_31 G dX7_drawLabels_24 (kk := ?_)
        refine aw_aload_n G dX7_drawLabels_27 rfl ?_
        refine aw_iload_n G dX7_drawLabels_28 rfl ?_
        refine aw_aload_n G dX7_drawLabels_29 rfl ?_
        refine gf_X7_31 G dX7_drawLabels_30 (kk := ?_)
        rw [up_at]
        refine lc_X7_124 G dX7_drawLabels_33 ?_
        refine aw_iand G dX7_drawLabels_35 ?_
        refine aw_sipush G dX7_drawLabels_36 (k := ?_)
        refine aw_idiv G dX7_drawLabels_39 (by exact iand_R _ _) (by decide) ?_
        refine aw_bipush G dX7_drawLabels_40 (k := ?_)
        refine aw_irem G dX7_drawLabels_42 (by have := dr1_R (sd x i.toNat * 1664525 + 1013904223); omega) (by decide) ?_
        refine cv_X7_76 G dX7_drawLabels_43 (c_X7_relabel hN (TH_47 hT1) (by omega)) (kk := fun t43 h43 => ?_)
        obtain ⟨hT43, ho43⟩ := h43
        refine aw_iinc_1 G dX7_drawLabels_46 rfl (hc := by first | rfl | assumption) (k := ?_)
        refine aw_goto (tgt := 2) G dX7_drawLabels_49 (by decide) ?_
        refine ih (i + 1) _ (by omega) (by omega) (TH_c (fun j a b => ?_) hT43) ?_
        · by_cases e : j = i
          · subst e
            rw [upf_at, if_pos (by omega), sd_s]
            rfl
          · rw [upf_o e]
            by_cases z : j < i
            · rw [if_pos z, if_pos (by omega)]
            · rw [if_neg z, if_neg (by omega)]
        · rw [ho43 47 (by decide), up_at, show (i + 1).toNat = i.toNat + 1 by omega, sd_s]
  refine aw_iconst G dX7_drawLabels_0 ?_
  refine aw_istore_1 G dX7_drawLabels_1 (hc := by first | rfl | assumption) (k := ?_)
  exact loop ((ρ 1 1).toNat + 1) 0 σ (by omega) (by omega) (TH_c (fun j a b => by rw [if_neg (by omega)]) hT0) hx
set_option maxHeartbeats 4000000 in
theorem c_X7_lotsThatKeep {V : Wd} {σ : St} {ru n z : Int} (hN : NetOK σ 1) (hr : 0 ≤ ru ∧ ru ≤ 5) (hn : 1 ≤ n ∧ n ≤ 50) : Ct V yX7_lotsThatKeep cX7_lotsThatKeep 6 (some .int) 3 63 [rv V 47, iv ru, iv n, iv z] σ (PI (fun r τ => Only thS σ τ ∧ r = sumTo (fun t => bP (wQ (nwt σ 1) (σ 1 1) (σ 1 0) ru (lotF (σ 1 1).toNat z t))) n.toNat)) := by
  refine ct_of (by decide) (Nat.le_of_ble_eq_true rfl) (fun X G T => ?_)
  have G : Gd X V cX7_lotsThatKeep RX7 6 3 63 := G
  show AW X V σ 0 [] [some (rv V 47), some (iv ru), some (iv n), some (iv z), none, none]
  obtain ⟨n1, n2, n3, n4, n5, n6⟩ := id hN
  have loop : ∀ (n0 : Nat) (i : Int) (τ : St) (f : Int → Int), (0 ≤ i ∧ i ≤ n) → (n < i + (n0 : Int)) → (TH σ τ f) → (τ 47 7 = sdT (σ 1 1).toNat z i.toNat) → AW X V (τ) 15 [] [some (rv V 47), some (iv ru), some (iv n), some (iv z), some (iv (sumTo (fun t => bP (wQ (nwt σ 1) (σ 1 1) (σ 1 0) ru (lotF (σ 1 1).toNat z t))) i.toNat)), some (iv i)] := by
    intro n0
    induction n0 with
    | zero =>
      intro i τ f h0 h1 hT hs
      exfalso
      omega
    | succ n0 ih =>
      intro i τ f h0 h1 hT hs
      refine aw_iload G dX7_lotsThatKeep_15 rfl ?_
      refine aw_iload_n G dX7_lotsThatKeep_17 rfl ?_
      refine aw_icmp_ge (tgt := 52) G dX7_lotsThatKeep_18 (by decide) (by first | omega | exact b01_R _ | exact bP_R _) (by first | omega | exact b01_R _ | exact bP_R _) (fun c18 => ?_) (fun c18 => ?_)
      · refine aw_iload G dX7_lotsThatKeep_52 rfl ?_
        exact aw_iret G T dX7_lotsThatKeep_54 (⟨hT.1, by rw [show i = n by omega]⟩)
      · refine aw_aload_n G dX7_lotsThatKeep_21 rfl ?_
        refine cv_X7_116 G dX7_lotsThatKeep_22 (c_X7_drawLabels hN hT hs) (kk := fun t22 h22 => ?_)
        obtain ⟨hT22, hs22⟩ := h22
        have e1 : t22 1 = σ 1 := hT22.1 1 (by decide)
        have hRs := TH_R hT22 hN (fun j a b => by have := dr_R (sd (sdT (σ 1 1).toNat z i.toNat) (j.toNat + 1)); omega)
        have hQ : ruleP ru (t22 49) (σ 1 0) ↔ wQ (nwt σ 1) (σ 1 1) (σ 1 0) ru (lotF (σ 1 1).toNat z i) := ruleP_c (fun p a b => hT22.2.2 p a (by omega))
        refine aw_iload_n G dX7_lotsThatKeep_25 rfl ?_
        refine aw_aload_n G dX7_lotsThatKeep_26 rfl ?_
        refine gf_X7_15 G dX7_lotsThatKeep_27 (kk := ?_)
        refine aw_aload_n G dX7_lotsThatKeep_30 rfl ?_
        refine gf_X7_34 G dX7_lotsThatKeep_31 (kk := ?_)
        refine gf_X7_63 G dX7_lotsThatKeep_34 (kk := ?_)
        rw [e1]
        refine cs_X7_66 G dX7_lotsThatKeep_37 (c_X5_holds (k := 49) (N := 7) (by decide) rfl (by decide) (by omega) (fun i a b => hRs i a (by omega)) (by omega) (by omega)) (kk := fun r37 t37 h37 => ?_)
        obtain ⟨rfl, ee37⟩ := h37
        obtain rfl := ee37.symm
        refine aw_if_eq (tgt := 46) G dX7_lotsThatKeep_40 (by decide) (bP_R _) (fun c40 => ?_) (fun c40 => ?_)
        · try simp only [b01_0, b01_n, bP_0, bP_n, Classical.not_not] at c40
          refine aw_iinc_5 G dX7_lotsThatKeep_46 rfl (hc := by first | rfl | assumption) (k := ?_)
          refine aw_goto (tgt := 15) G dX7_lotsThatKeep_49 (by decide) ?_
          have hz := ih (i + 1) _ _ (by omega) (by omega) hT22 (by rw [hs22, show (i + 1).toNat = i.toNat + 1 by omega, sdT_s])
          rw [show (i + 1).toNat = i.toNat + 1 by omega, sumTo_s, show ((i.toNat : Nat) : Int) = i by omega] at hz
          first
            | (rw [bP_t (hQ.mp c40)] at hz; exact hz)
            | (rw [bP_f (fun q => c40 (hQ.mpr q)), Int.add_zero] at hz; exact hz)
        · try simp only [b01_0, b01_n, bP_0, bP_n, Classical.not_not] at c40
          refine aw_iinc_4 G dX7_lotsThatKeep_43 rfl (hc := by first | rfl | assumption) (k := ?_)
          refine aw_iinc_5 G dX7_lotsThatKeep_46 rfl (hc := by first | rfl | assumption) (k := ?_)
          refine aw_goto (tgt := 15) G dX7_lotsThatKeep_49 (by decide) ?_
          have hz := ih (i + 1) _ _ (by omega) (by omega) hT22 (by rw [hs22, show (i + 1).toNat = i.toNat + 1 by omega, sdT_s])
          rw [show (i + 1).toNat = i.toNat + 1 by omega, sumTo_s, show ((i.toNat : Nat) : Int) = i by omega] at hz
          first
            | (rw [bP_t (hQ.mp c40)] at hz; exact hz)
            | (rw [bP_f (fun q => c40 (hQ.mpr q)), Int.add_zero] at hz; exact hz)
  refine aw_aload_n G dX7_lotsThatKeep_0 rfl ?_
  refine cv_X7_56 G dX7_lotsThatKeep_1 (c_X7_begin (by assumption)) (kk := fun t1 h1 => ?_)
  refine aw_aload_n G dX7_lotsThatKeep_4 rfl ?_
  refine aw_iload_n G dX7_lotsThatKeep_5 rfl ?_
  refine pf_X7_31 G dX7_lotsThatKeep_6 (kk := ?_)
  refine aw_iconst G dX7_lotsThatKeep_9 ?_
  refine aw_istore_4 G dX7_lotsThatKeep_10 (hc := by first | rfl | assumption) (k := ?_)
  refine aw_iconst G dX7_lotsThatKeep_12 ?_
  refine aw_istore_5 G dX7_lotsThatKeep_13 (hc := by first | rfl | assumption) (k := ?_)
  exact loop (n.toNat + 1) 0 _ (fun _ => 0) (by omega) (by omega) (TH_47 h1.1) (up_at _ _ _ _)
set_option maxHeartbeats 4000000 in
theorem c_X7_lotsTogether {V : Wd} {σ : St} {n z : Int} (hN : NetOK σ 1) (hn : 1 ≤ n ∧ n ≤ 50) : Ct V yX7_lotsTogether cX7_lotsTogether 5 (some .int) 3 63 [rv V 47, iv n, iv z] σ (PI (fun r τ => Only thS σ τ ∧ r = sumTo (fun t => sumTo (tsum (nwt σ 1) (lotF (σ 1 1).toNat z t) (σ 1 1)) (σ 1 0).toNat) n.toNat)) := by
  refine ct_of (by decide) (Nat.le_of_ble_eq_true rfl) (fun X G T => ?_)
  have G : Gd X V cX7_lotsTogether RX7 5 3 63 := G
  show AW X V σ 0 [] [some (rv V 47), some (iv n), some (iv z), none, none]
  obtain ⟨n1, n2, n3, n4, n5, n6⟩ := id hN
  have loop : ∀ (n0 : Nat) (i : Int) (τ : St) (f : Int → Int), (0 ≤ i ∧ i ≤ n) → (n < i + (n0 : Int)) → (TH σ τ f) → (τ 47 7 = sdT (σ 1 1).toNat z i.toNat) → AW X V (τ) 14 [] [some (rv V 47), some (iv n), some (iv z), some (iv (sumTo (fun t => sumTo (tsum (nwt σ 1) (lotF (σ 1 1).toNat z t) (σ 1 1)) (σ 1 0).toNat) i.toNat)), some (iv i)] := by
    intro n0
    induction n0 with
    | zero =>
      intro i τ f h0 h1 hT hs
      exfalso
      omega
    | succ n0 ih =>
      intro i τ f h0 h1 hT hs
      refine aw_iload G dX7_lotsTogether_14 rfl ?_
      refine aw_iload_n G dX7_lotsTogether_16 rfl ?_
      refine aw_icmp_ge (tgt := 47) G dX7_lotsTogether_17 (by decide) (by first | omega | exact b01_R _ | exact bP_R _) (by first | omega | exact b01_R _ | exact bP_R _) (fun c17 => ?_) (fun c17 => ?_)
      · refine aw_iload_n G dX7_lotsTogether_47 rfl ?_
        exact aw_iret G T dX7_lotsTogether_48 (⟨hT.1, by rw [show i = n by omega]⟩)
      · refine aw_aload_n G dX7_lotsTogether_20 rfl ?_
        refine cv_X7_116 G dX7_lotsTogether_21 (c_X7_drawLabels hN hT hs) (kk := fun t21 h21 => ?_)
        obtain ⟨hT21, hs21⟩ := h21
        have e1 : t21 1 = σ 1 := hT21.1 1 (by decide)
        refine aw_iload_n G dX7_lotsTogether_24 rfl ?_
        refine aw_aload_n G dX7_lotsTogether_25 rfl ?_
        refine gf_X7_15 G dX7_lotsTogether_26 (kk := ?_)
        refine aw_aload_n G dX7_lotsTogether_29 rfl ?_
        refine gf_X7_34 G dX7_lotsTogether_30 (kk := ?_)
        refine gf_X7_63 G dX7_lotsTogether_33 (kk := ?_)
        rw [e1]
        refine cs_X7_119 G dX7_lotsTogether_36 (c_X5_together (k := 49) (N := 7) (by decide) rfl (by decide) (by omega)) (kk := fun r36 t36 h36 => ?_)
        obtain ⟨rfl, ee36⟩ := h36
        obtain rfl := ee36.symm
        refine aw_iadd G dX7_lotsTogether_39 ?_
        refine aw_istore_3 G dX7_lotsTogether_40 (hc := by first | rfl | assumption) (k := ?_)
        refine aw_iinc_4 G dX7_lotsTogether_41 rfl (hc := by first | rfl | assumption) (k := ?_)
        refine aw_goto (tgt := 14) G dX7_lotsTogether_44 (by decide) ?_
        have hz := ih (i + 1) _ _ (by omega) (by omega) hT21 (by rw [hs21, show (i + 1).toNat = i.toNat + 1 by omega, sdT_s])
        rw [show (i + 1).toNat = i.toNat + 1 by omega, sumTo_s, show ((i.toNat : Nat) : Int) = i by omega] at hz
        rw [show sumTo (t21 49) (σ 1 0).toNat = sumTo (tsum (nwt σ 1) (lotF (σ 1 1).toNat z i) (σ 1 1)) (σ 1 0).toNat from sumTo_c (fun p a b => hT21.2.2 p a (by omega))]
        exact hz
  refine aw_aload_n G dX7_lotsTogether_0 rfl ?_
  refine cv_X7_56 G dX7_lotsTogether_1 (c_X7_begin (by assumption)) (kk := fun t1 h1 => ?_)
  refine aw_aload_n G dX7_lotsTogether_4 rfl ?_
  refine aw_iload_n G dX7_lotsTogether_5 rfl ?_
  refine pf_X7_31 G dX7_lotsTogether_6 (kk := ?_)
  refine aw_iconst G dX7_lotsTogether_9 ?_
  refine aw_istore_3 G dX7_lotsTogether_10 (hc := by first | rfl | assumption) (k := ?_)
  refine aw_iconst G dX7_lotsTogether_11 ?_
  refine aw_istore_4 G dX7_lotsTogether_12 (hc := by first | rfl | assumption) (k := ?_)
  exact loop (n.toNat + 1) 0 _ (fun _ => 0) (by omega) (by omega) (TH_47 h1.1) (up_at _ _ _ _)
