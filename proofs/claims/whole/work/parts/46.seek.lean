section SK
variable {k L line : Int} {d : Nat} {g : Int → Int}
theorem skA (hk : 0 ≤ k) (h0 : 0 ≤ line) (hl : line + d + 1 = L) (hz : ∀ j : Int, line ≤ j → g j = 0) (v : Nat) (hv : (v : Int) ≤ k) : itr (nxT k L.toNat) (v * (k.toNat + 1) ^ d) g = upf g line v := by
  have h := itr_st hk L.toNat d g (by omega) (fun j a b => hz j (by omega)) v hv
  rw [show (L.toNat : Int) - d - 1 = line by omega] at h
  exact h
theorem skE (v : Nat) (hv : (v : Int) ≤ k) : (k.toNat + 1) ^ (d + 1) = v * (k.toNat + 1) ^ d + (k.toNat - v + 1) * (k.toNat + 1) ^ d := by
  rw [Nat.pow_succ, ← Nat.add_mul, Nat.mul_comm]
  congr 1
  omega
theorem skB (hk : 0 ≤ k) (h0 : 0 ≤ line) (hl : line + d + 1 = L) (hz : ∀ j : Int, line ≤ j → g j = 0) (Q : (Int → Int) → Prop) (v : Nat) (hv : (v : Int) ≤ k) : wayN Q (nxT k L.toNat) ((k.toNat + 1) ^ (d + 1)) g = wayN Q (nxT k L.toNat) (v * (k.toNat + 1) ^ d) g + wayN Q (nxT k L.toNat) ((k.toNat - v + 1) * (k.toNat + 1) ^ d) (upf g line v) := by
  rw [skE v hv, wayN_a, skA hk h0 hl hz v hv]
theorem skR (hg : ∀ j : Int, 0 ≤ g j ∧ g j ≤ k) (v : Nat) (hv : (v : Int) ≤ k) : ∀ j : Int, 0 ≤ upf g line v j ∧ upf g line v j ≤ k := fun j => by
  have := hg j
  unfold upf
  split <;> omega
theorem sk0 (hk : 0 ≤ k) (h0 : 0 ≤ line) (hl : line + d + 1 = L) (hz : ∀ j : Int, line ≤ j → g j = 0) (hg : ∀ j : Int, 0 ≤ g j ∧ g j ≤ k) (Q : (Int → Int) → Prop) (v : Nat) (hv : (v : Int) ≤ k) (hQ : ∀ h : Int → Int, (∀ j : Int, j < line → h j = g j) → (v : Int) ≤ h line → (∀ j : Int, 0 ≤ h j ∧ h j ≤ k) → ¬ Q h) : wayN Q (nxT k L.toNat) ((k.toNat + 1) ^ (d + 1)) g = wayN Q (nxT k L.toNat) (v * (k.toNat + 1) ^ d) g := by
  have e : (L.toNat : Int) - d - 1 = line := by omega
  have h := skip hk L.toNat d Q (by omega) (k.toNat - v) (upf g line v) (by rw [e, upf_at]; omega) (fun j a b => by rw [upf_o (by omega)]; exact hz j (by omega)) (skR hg v hv) (fun h a b c => hQ h (fun j q => by rw [a j (by omega), upf_o (by omega)]) (by rw [e, upf_at] at b; exact b) c) 0
  rw [Nat.add_zero] at h
  have h1 : wayN Q (nxT k L.toNat) ((k.toNat - v + 1) * (k.toNat + 1) ^ d) (upf g line v) = 0 := h
  rw [skB hk h0 hl hz Q v hv, h1, Int.add_zero]
theorem skS (hk : 0 ≤ k) (h0 : 0 ≤ line) (hl : line + d + 1 = L) (hz : ∀ j : Int, line ≤ j → g j = 0) (Q : (Int → Int) → Prop) (v : Nat) (hv : (v : Int) ≤ k) : wayN Q (nxT k L.toNat) ((v + 1) * (k.toNat + 1) ^ d) g = wayN Q (nxT k L.toNat) (v * (k.toNat + 1) ^ d) g + wayN Q (nxT k L.toNat) ((k.toNat + 1) ^ d) (upf g line v) := by
  rw [Nat.succ_mul, wayN_a, skA hk h0 hl hz v hv]
theorem skL (hk : 0 ≤ k) (Q : (Int → Int) → Prop) (v : Nat) (hv : (v : Int) ≤ k) : wayN Q (nxT k L.toNat) ((v + 1) * (k.toNat + 1) ^ d) g ≤ wayN Q (nxT k L.toNat) ((k.toNat + 1) ^ (d + 1)) g := by
  rw [show (k.toNat + 1) ^ (d + 1) = (v + 1) * (k.toNat + 1) ^ d + (k.toNat - v) * (k.toNat + 1) ^ d by rw [Nat.pow_succ, ← Nat.add_mul, Nat.mul_comm]; congr 1; omega, wayN_a]
  have := wayN_R Q (nxT k L.toNat) ((k.toNat - v) * (k.toNat + 1) ^ d) (itr (nxT k L.toNat) ((v + 1) * (k.toNat + 1) ^ d) g)
  omega
theorem skI (hk : 0 ≤ k) (h0 : 0 ≤ line) (hl : line + d + 1 = L) (hz : ∀ j : Int, line ≤ j → g j = 0) (Q : (Int → Int) → Prop) (v : Nat) (hv : (v : Int) ≤ k) (x : Int) (h1 : wayN Q (nxT k L.toNat) (v * (k.toNat + 1) ^ d) g ≤ x) (h2 : x < wayN Q (nxT k L.toNat) (v * (k.toNat + 1) ^ d) g + wayN Q (nxT k L.toNat) ((k.toNat + 1) ^ d) (upf g line v)) : wayI Q (nxT k L.toNat) ((k.toNat + 1) ^ (d + 1)) g x = wayI Q (nxT k L.toNat) ((k.toNat + 1) ^ d) (upf g line v) (x - wayN Q (nxT k L.toNat) (v * (k.toNat + 1) ^ d) g) := by
  have hr := wayN_R Q (nxT k L.toNat) (v * (k.toNat + 1) ^ d) g
  rw [skE v hv, wayI_a _ _ _ _ _ _ (by omega), if_neg (by omega), skA hk h0 hl hz v hv, show (k.toNat - v + 1) * (k.toNat + 1) ^ d = (k.toNat + 1) ^ d + (k.toNat - v) * (k.toNat + 1) ^ d by rw [Nat.succ_mul]; omega, wayI_a _ _ _ _ _ _ (by omega), if_pos (by omega)]
end SK
/-- a label above what the sum is to be: never so -/
theorem mg_k {σ : St} {b : Nat} (hN : NetOK σ b) {h : Int → Int} {r l : Int} (h0 : 0 ≤ l) (h1 : l < σ b 1) (hh : ∀ j : Int, 0 ≤ h j) (hl : r < h l) : ¬ gQ (nwt σ b) (σ b 1) (σ b 0) r h := fun q => by
  obtain ⟨⟨p, p0, p1, p2⟩, -⟩ := one_w hN h0 h1
  have h2 := tsum_ge (W := nwt σ b) (f := h) (L := σ b 1) (p := p) ⟨h0, h1⟩ p2 (fun l a c => ⟨(one_w hN a c).2 p, hh l⟩)
  have := q p p0 p1
  omega
/-- the sum at a point behind whose last line labels differ alone -/
theorem mg_last {ρ σ : St} {f h : Int → Int} {p : Int} (hL : LastL ρ σ (ρ 1 1)) (p0 : 0 ≤ p) (p1 : p < 7) (hf : ∀ j : Int, 0 ≤ j → j ≤ σ 52 p → h j = f j) : tsum (nwt ρ 1) h (ρ 1 1) p = tsum (nwt ρ 1) f (ρ 1 1) p := by
  refine tsum_off fun l a b => ?_
  rcases hL p p0 p1 with ⟨q1, q2⟩ | ⟨q1, q2, q3, q4⟩
  · exact Or.inl (q2 l a b)
  · by_cases e : l ≤ σ 52 p
    · exact Or.inr (hf l a e)
    · exact Or.inl (q4 l (by omega) b)
theorem mg_end {ρ : St} {p l : Int} (h : 0 < nwt ρ 1 p l) : ρ 4 l = p ∨ ρ 5 l = p := by
  by_cases e : ρ 4 l = p
  · exact Or.inl e
  · by_cases e2 : ρ 5 l = p
    · exact Or.inr e2
    · unfold nwt at h
      rw [if_neg e, if_neg e2] at h
      omega
theorem LastL.of {ρ σ τ : St} {i : Int} (h : LastL ρ σ i) (e : τ 52 = σ 52) : LastL ρ τ i := by
  unfold LastL
  rw [e]
  exact h
set_option maxHeartbeats 4000000 in
theorem c_X7_seekMagic {V : Wd} {ρ : St} {r0 wi : Int} (hN : NetOK ρ 1) (hr : 0 ≤ r0 ∧ r0 ≤ 6) (hw : -1 ≤ wi ∧ wi ≤ 2147483647) : ∀ (d : Nat) (line c0 : Int) (g : Int → Int) {σ : St}, line + d = ρ 1 1 → 0 ≤ line → TH ρ σ g → LastL ρ σ (ρ 1 1) → (∀ j : Int, 0 ≤ g j ∧ g j ≤ r0) → (∀ j : Int, line ≤ j → g j = 0) → σ 47 6 = c0 → (0 ≤ c0 ∧ c0 + wayN (gQ (nwt ρ 1) (ρ 1 1) (ρ 1 0) r0) (nxT (r0 + 1) (ρ 1 1).toNat) (((r0 + 1).toNat + 1) ^ d) g ≤ 16777216) → (∀ p : Int, 0 ≤ p → p < ρ 1 0 → 0 ≤ σ 52 p → σ 52 p < line → tsum (nwt ρ 1) g (ρ 1 1) p = r0) → (r0 = 0 ∨ ∀ p : Int, 0 ≤ p → p < ρ 1 0 → 0 ≤ σ 52 p) → Ct V yX7_seekMagic cX7_seekMagic 5 (some .boolean) (d + 1) (24 * d + 24) [rv V 47, iv line, iv r0, iv wi] σ (PI (fun r τ => Only [47, 48, 49] σ τ ∧ ((r = 0 ∧ TH ρ τ g ∧ τ 47 6 = c0 + wayN (gQ (nwt ρ 1) (ρ 1 1) (ρ 1 0) r0) (nxT (r0 + 1) (ρ 1 1).toNat) (((r0 + 1).toNat + 1) ^ d) g ∧ (wi < c0 ∨ c0 + wayN (gQ (nwt ρ 1) (ρ 1 1) (ρ 1 0) r0) (nxT (r0 + 1) (ρ 1 1).toNat) (((r0 + 1).toNat + 1) ^ d) g ≤ wi)) ∨ (r = 1 ∧ c0 ≤ wi ∧ τ 47 6 = wi + 1 ∧ c0 + wayN (gQ (nwt ρ 1) (ρ 1 1) (ρ 1 0) r0) (nxT (r0 + 1) (ρ 1 1).toNat) (((r0 + 1).toNat + 1) ^ d) g ≤ 16777216 ∧ ∃ f, wayI (gQ (nwt ρ 1) (ρ 1 1) (ρ 1 0) r0) (nxT (r0 + 1) (ρ 1 1).toNat) (((r0 + 1).toNat + 1) ^ d) g (wi - c0) = some f ∧ TH ρ τ f)))) := by
  obtain ⟨n1, n2, n3, n4, n5, n6⟩ := id hN
  intro d
  induction d with
  | zero =>
    intro line c0 g σ hl h0 hT hLL hg hz hc hcR hp hall
    refine ct_of (by decide) (Nat.le_of_ble_eq_true rfl) (fun X G T => ?_)
    have G : Gd X V cX7_seekMagic RX7 5 (0 + 1) (24 * 0 + 24) := G
    show AW X V σ 0 [] [some (rv V 47), some (iv line), some (iv r0), some (iv wi), none]
    have e1 : σ 1 = ρ 1 := hT.1 1 (by decide)
    have hQ : (gQ (nwt ρ 1) (ρ 1 1) (ρ 1 0) r0) g := fun p a b => by
      rcases hLL p a (by omega) with ⟨q1, q2⟩ | ⟨q1, q2, q3⟩
      · have : tsum (nwt ρ 1) g (ρ 1 1) p = tsum (nwt ρ 1) (fun _ => 0) (ρ 1 1) p := tsum_off fun l c d => Or.inl (q2 l c d)
        rw [this, tsum_0]
        rcases hall with q | q
        · exact q.symm
        · have := q p a b
          omega
      · exact hp p a b q1 (by omega)
    have hb1 : wayN (gQ (nwt ρ 1) (ρ 1 1) (ρ 1 0) r0) (nxT (r0 + 1) (ρ 1 1).toNat) (((r0 + 1).toNat + 1) ^ 0) g = 1 := by
      rw [Nat.pow_zero, wayN_s, bP_t hQ]
      rfl
    rw [hb1] at hcR
    refine aw_iload_n G dX7_seekMagic_0 rfl ?_
    refine aw_aload_n G dX7_seekMagic_1 rfl ?_
    refine gf_X7_34 G dX7_seekMagic_2 (kk := ?_)
    refine gf_X7_38 G dX7_seekMagic_5 (kk := ?_)
    rw [e1]
    refine aw_icmp_lt (tgt := 37) G dX7_seekMagic_8 (by decide) (by first | omega | exact b01_R _ | exact bP_R _) (by first | omega | exact b01_R _ | exact bP_R _) (fun c8 => ?_) (fun c8 => ?_)
    · exact absurd c8 (by omega)
    · refine aw_aload_n G dX7_seekMagic_11 rfl ?_
      refine aw_dup G dX7_seekMagic_12 (k := ?_)
      refine gf_X7_27 G dX7_seekMagic_13 (kk := ?_)
      rw [hc]
      refine aw_iconst G dX7_seekMagic_16 ?_
      refine aw_iadd G dX7_seekMagic_17 ?_
      refine pf_X7_27 G dX7_seekMagic_18 (kk := ?_)
      refine aw_aload_n G dX7_seekMagic_21 rfl ?_
      refine gf_X7_27 G dX7_seekMagic_22 (kk := ?_)
      refine aw_iconst G dX7_seekMagic_25 ?_
      refine aw_isub G dX7_seekMagic_26 ?_
      refine aw_iload_n G dX7_seekMagic_27 rfl ?_
      rw [up_at]
      refine aw_icmp_ne (tgt := 35) G dX7_seekMagic_28 (by decide) (by first | omega | exact b01_R _ | exact bP_R _) (by first | omega | exact b01_R _ | exact bP_R _) (fun c28 => ?_) (fun c28 => ?_)
      · refine aw_iconst G dX7_seekMagic_35 ?_
        exact aw_zret G T dX7_seekMagic_36 (by first | exact Or.inl rfl | exact Or.inr rfl | assumption) (by
  refine ⟨fun k hk => up_ne (fun e => hk (by rw [e]; decide)), ?_⟩
  first
    | (refine Or.inr ⟨rfl, by omega, by rw [up_at]; omega, by rw [hb1]; omega, g, ?_, TH_47 hT⟩
       rw [Nat.pow_zero, wayI_s, bP_t hQ, if_pos rfl, if_pos (by omega)])
    | exact Or.inl ⟨rfl, TH_47 hT, by rw [up_at, hb1], by rw [hb1]; omega⟩)
      · refine aw_iconst G dX7_seekMagic_31 ?_
        refine aw_goto (tgt := 36) G dX7_seekMagic_32 (by decide) ?_
        exact aw_zret G T dX7_seekMagic_36 (by first | exact Or.inl rfl | exact Or.inr rfl | assumption) (by
  refine ⟨fun k hk => up_ne (fun e => hk (by rw [e]; decide)), ?_⟩
  first
    | (refine Or.inr ⟨rfl, by omega, by rw [up_at]; omega, by rw [hb1]; omega, g, ?_, TH_47 hT⟩
       rw [Nat.pow_zero, wayI_s, bP_t hQ, if_pos rfl, if_pos (by omega)])
    | exact Or.inl ⟨rfl, TH_47 hT, by rw [up_at, hb1], by rw [hb1]; omega⟩)
  | succ d ihd =>
    intro line c0 g σ hl h0 hT hLL hg hz hc hcR hp hall
    refine ct_of (by decide) (Nat.le_of_ble_eq_true rfl) (fun X G T => ?_)
    have G : Gd X V cX7_seekMagic RX7 5 (d + 1 + 1) (24 * (d + 1) + 24) := G
    show AW X V σ 0 [] [some (rv V 47), some (iv line), some (iv r0), some (iv wi), none]
    have e1 : σ 1 = ρ 1 := hT.1 1 (by decide)
    have hl1 : line + d + 1 = ρ 1 1 := by omega
    have hlL : 0 ≤ line ∧ line < ρ 1 1 := by omega
    have hgk : ∀ j : Int, 0 ≤ g j ∧ g j ≤ r0 + 1 := fun j => by have := hg j; omega
    have hk : 0 ≤ r0 + 1 := by omega
    have hL4 : 0 ≤ ρ 4 line ∧ ρ 4 line < ρ 1 0 ∧ 0 ≤ ρ 5 line ∧ ρ 5 line < ρ 1 0 := by
      have h5 : 0 ≤ ρ 2 line ∧ ρ 2 line ≤ 5 ∧ 0 ≤ ρ 3 line ∧ ρ 3 line ≤ 9 ∧ 0 ≤ ρ 4 line ∧ ρ 4 line ≤ 6 ∧ 0 ≤ ρ 5 line ∧ ρ 5 line ≤ 6 ∧ 0 ≤ ρ 6 line ∧ ρ 6 line ≤ 99 := n5 line hlL.1 (by omega)
      have h6 : ρ 4 line < ρ 1 0 ∧ ρ 5 line < ρ 1 0 := n6 line hlL.1 hlL.2
      omega
    have loop : ∀ (n0 : Nat) (v : Int) (x : Int) (τ : St), (0 ≤ v ∧ v ≤ r0 + 1) → (r0 + 1 < v + (n0 : Int)) → (0 ≤ x ∧ x ≤ r0) → (TH ρ τ (upf g line x)) → (Only [47, 48, 49] σ τ) → (τ 47 6 = c0 + wayN (gQ (nwt ρ 1) (ρ 1 1) (ρ 1 0) r0) (nxT (r0 + 1) (ρ 1 1).toNat) (v.toNat * (((r0 + 1).toNat + 1) ^ d)) g) → (wi < c0 ∨ c0 + wayN (gQ (nwt ρ 1) (ρ 1 1) (ρ 1 0) r0) (nxT (r0 + 1) (ρ 1 1).toNat) (v.toNat * (((r0 + 1).toNat + 1) ^ d)) g ≤ wi) → AW X V (τ) 40 [] [some (rv V 47), some (iv line), some (iv r0), some (iv wi), some (iv v)] := by
      intro n0
      induction n0 with
      | zero =>
        intro v x τ hv h1 hx hTx hO hcv hnf
        exfalso
        omega
      | succ n0 ih =>
        intro v x τ hv h1 hx hTx hO hcv hnf
        refine aw_iload G dX7_seekMagic_40 rfl ?_
        refine aw_iload_n G dX7_seekMagic_42 rfl ?_
        refine aw_icmp_gt (tgt := 94) G dX7_seekMagic_43 (by decide) (by first | omega | exact b01_R _ | exact bP_R _) (by first | omega | exact b01_R _ | exact bP_R _) (fun c43 => ?_) (fun c43 => ?_)
        · have hv1 : v = r0 + 1 := by omega
          obtain hend : wayN (gQ (nwt ρ 1) (ρ 1 1) (ρ 1 0) r0) (nxT (r0 + 1) (ρ 1 1).toNat) (((r0 + 1).toNat + 1) ^ (d + 1)) g = wayN (gQ (nwt ρ 1) (ρ 1 1) (ρ 1 0) r0) (nxT (r0 + 1) (ρ 1 1).toNat) (v.toNat * (((r0 + 1).toNat + 1) ^ d)) g := by
            refine sk0 hk hlL.1 hl1 hz hgk _ v.toNat (by omega) (fun h a b c => mg_k hN hlL.1 hlL.2 (fun j => (c j).1) (by omega))
          refine aw_aload_n G dX7_seekMagic_94 rfl ?_
          refine aw_iload_n G dX7_seekMagic_95 rfl ?_
          refine aw_iconst G dX7_seekMagic_96 ?_
          refine cv_X7_76 G dX7_seekMagic_97 (c_X7_relabel hN hTx hlL) (hroom := ⟨by omega, by omega⟩) (kk := fun t97 h97 => ?_)
          obtain ⟨hT97, o97⟩ := h97
          refine aw_iconst G dX7_seekMagic_100 ?_
          exact aw_zret G T dX7_seekMagic_101 (Or.inl rfl) (⟨hO.tr (o97.mono (by decide)), Or.inl ⟨rfl, TH_c (fun j a b => by
      by_cases e : j = line
      · rw [e, upf_at, hz line (Int.le_refl _)]
      · rw [upf_o e, upf_o e]) hT97, by rw [o97 47 (by decide), hend]; exact hcv, by rw [hend]; exact hnf⟩⟩)
        · refine aw_aload_n G dX7_seekMagic_46 rfl ?_
          refine aw_iload_n G dX7_seekMagic_47 rfl ?_
          refine aw_iload G dX7_seekMagic_48 rfl ?_
          refine cv_X7_76 G dX7_seekMagic_50 (c_X7_relabel hN hTx hlL) (hroom := ⟨by omega, by omega⟩) (kk := fun t50 h50 => ?_)
          obtain ⟨hT50, o50⟩ := h50
          have hT2 : TH ρ t50 (upf g line v) := TH_c (fun j a b => by
            by_cases e : j = line
            · rw [e, upf_at, upf_at]
            · rw [upf_o e, upf_o e, upf_o e]) hT50
          have o2 : Only [47, 48, 49] σ t50 := hO.tr (o50.mono (by decide))
          have e52 : t50 52 = σ 52 := o2 52 (by decide)
          have hgv : ∀ j : Int, 0 ≤ upf g line v j ∧ upf g line v j ≤ r0 := fun j => by
            have := hg j
            unfold upf
            split <;> omega
          have hLL2 : LastL ρ t50 (ρ 1 1) := hLL.of e52
          have hc50 : t50 47 6 = c0 + wayN (gQ (nwt ρ 1) (ρ 1 1) (ρ 1 0) r0) (nxT (r0 + 1) (ρ 1 1).toNat) (v.toNat * (((r0 + 1).toNat + 1) ^ d)) g := by rw [o50 47 (by decide)]; exact hcv
          have hS := skS hk hlL.1 hl1 hz (gQ (nwt ρ 1) (ρ 1 1) (ρ 1 0) r0) v.toNat (by omega)
          have hSL := skL (L := ρ 1 1) (g := g) (d := d) hk (gQ (nwt ρ 1) (ρ 1 1) (ρ 1 0) r0) v.toNat (by omega)
          have hW0 := (wayN_R (gQ (nwt ρ 1) (ρ 1 1) (ρ 1 0) r0) (nxT (r0 + 1) (ρ 1 1).toNat) (v.toNat * (((r0 + 1).toNat + 1) ^ d)) g).1
          have hW1 := (wayN_R (gQ (nwt ρ 1) (ρ 1 1) (ρ 1 0) r0) (nxT (r0 + 1) (ρ 1 1).toNat) (((r0 + 1).toNat + 1) ^ d) (upf g line v)).1
          have evv : ((v.toNat : Nat) : Int) = v := by omega
          rw [evv] at hS
          refine aw_aload_n G dX7_seekMagic_53 rfl ?_
          refine aw_iload_n G dX7_seekMagic_54 rfl ?_
          refine aw_iload_n G dX7_seekMagic_55 rfl ?_
          refine cv_X7_88 G dX7_seekMagic_56 (c_X7_isAbove hN hT2 (fun j _ _ => by have := hgv j; omega) hlL hr) (hroom := ⟨by omega, by omega⟩) (kk := fun r56 t56 h56 => ?_)
          obtain ⟨rfl, ee56⟩ := h56
          obtain rfl := ee56.symm
          refine aw_if_eq (tgt := 65) G dX7_seekMagic_59 (by decide) (bP_R _) (fun c59 => ?_) (fun c59 => ?_)
          · try simp only [b01_0, b01_n, bP_0, bP_n, Classical.not_not] at c59
            refine aw_aload_n G dX7_seekMagic_65 rfl ?_
            refine aw_iload_n G dX7_seekMagic_66 rfl ?_
            refine aw_iload_n G dX7_seekMagic_67 rfl ?_
            refine cv_X7_92 G dX7_seekMagic_68 (c_X7_leavesNoLess hN hT2 (fun j _ _ => by have := hgv j; omega) hlL hr hLL2) (hroom := ⟨by omega, by omega⟩) (kk := fun r68 t68 h68 => ?_)
            obtain ⟨rfl, ee68⟩ := h68
            obtain rfl := ee68.symm
            refine aw_if_eq (tgt := 88) G dX7_seekMagic_71 (by decide) (bP_R _) (fun c71 => ?_) (fun c71 => ?_)
            · try simp only [b01_0, b01_n, bP_0, bP_n, Classical.not_not] at c71
              refine aw_iinc_4 G dX7_seekMagic_88 rfl (hc := by first | rfl | assumption) (k := ?_)
              refine aw_goto (tgt := 40) G dX7_seekMagic_91 (by decide) ?_
              have hb0 : wayN (gQ (nwt ρ 1) (ρ 1 1) (ρ 1 0) r0) (nxT (r0 + 1) (ρ 1 1).toNat) (((r0 + 1).toNat + 1) ^ d) (upf g line v) = 0 := by
                refine blk_0 hk (ρ 1 1).toNat d (gQ (nwt ρ 1) (ρ 1 1) (ρ 1 0) r0) (upf g line v) (by omega) (fun j a b => by rw [upf_o (by omega)]; exact hz j (by omega)) (fun j => by have := hgv j; omega) (fun h a b q => ?_)
                have hh : ∀ p : Int, 0 ≤ p → p < ρ 1 0 → t50 52 p = line → tsum (nwt ρ 1) (upf g line v) (ρ 1 1) p = r0 := fun p p0 p1 p2 => by
                  rw [← mg_last (h := h) hLL2 p0 (by omega) (fun j j0 j1 => a j (by omega))]
                  exact q p p0 p1
                exact c71 ⟨fun e => hh _ hL4.1 hL4.2.1 e, fun e => hh _ hL4.2.2.1 hL4.2.2.2 e⟩
              rw [hb0, Int.add_zero] at hS
              exact ih (v + 1) v t50 (by omega) (by omega) (by omega) hT2 o2 (by rw [show (v + 1).toNat = v.toNat + 1 by omega, hS]; exact hc50) (by rw [show (v + 1).toNat = v.toNat + 1 by omega, hS]; exact hnf)
            · try simp only [b01_0, b01_n, bP_0, bP_n, Classical.not_not] at c71
              refine aw_aload_n G dX7_seekMagic_74 rfl ?_
              refine aw_iload_n G dX7_seekMagic_75 rfl ?_
              refine aw_iconst G dX7_seekMagic_76 ?_
              refine aw_iadd G dX7_seekMagic_77 ?_
              refine aw_iload_n G dX7_seekMagic_78 rfl ?_
              refine aw_iload_n G dX7_seekMagic_79 rfl ?_
              have hp80 : ∀ p : Int, 0 ≤ p → p < ρ 1 0 → 0 ≤ t50 52 p → t50 52 p < line + 1 → tsum (nwt ρ 1) (upf g line v) (ρ 1 1) p = r0 := fun p p0 p1 p2 p3 => by
                by_cases e : t50 52 p = line
                · have hw : 0 < nwt ρ 1 p line := by
                    rcases hLL2 p p0 (by omega) with ⟨q1, q2⟩ | ⟨q1, q2, q3, q4⟩
                    · omega
                    · rw [e] at q3; exact q3
                  rcases mg_end hw with q | q
                  · rw [← q] at e ⊢
                    exact c71.1 e
                  · rw [← q] at e ⊢
                    exact c71.2 e
                · rw [mg_last (f := g) hLL2 p0 (by omega) (fun j j0 j1 => upf_o (by omega))]
                  rw [e52] at p2 p3 e
                  exact hp p p0 p1 p2 (by omega)
              refine cs_X7_84 G dX7_seekMagic_80 (ihd (line + 1) (c0 + wayN (gQ (nwt ρ 1) (ρ 1 1) (ρ 1 0) r0) (nxT (r0 + 1) (ρ 1 1).toNat) (v.toNat * (((r0 + 1).toNat + 1) ^ d)) g) (upf g line v) (σ := t50) (by omega) (by omega) hT2 hLL2 hgv (fun j a => by rw [upf_o (by omega)]; exact hz j (by omega)) hc50 (by omega) hp80 (by rw [e52]; exact hall)) (hroom := ⟨by omega, by omega⟩) (kk := fun r80 t80 h80 => ?_)
              refine aw_if_eq (tgt := 88) G dX7_seekMagic_83 (by decide) (by rcases h80 with ⟨-, ⟨q1, -⟩ | ⟨q1, -⟩⟩ <;> omega) (fun c83 => ?_) (fun c83 => ?_)
              · refine aw_iinc_4 G dX7_seekMagic_88 rfl (hc := by first | rfl | assumption) (k := ?_)
                refine aw_goto (tgt := 40) G dX7_seekMagic_91 (by decide) ?_
                rcases h80 with ⟨o80, ⟨q1, q2, q3, q4⟩ | ⟨q1, q2, q3, q4, q5⟩⟩
                · exact ih (v + 1) v t80 (by omega) (by omega) (by omega) q2 (fun k hk => (o80 k hk).trans (o2 k hk)) (by rw [show (v + 1).toNat = v.toNat + 1 by omega, hS, q3]; omega) (by rw [show (v + 1).toNat = v.toNat + 1 by omega, hS]; omega)
                · omega
              · refine aw_iconst G dX7_seekMagic_86 ?_
                exact aw_zret G T dX7_seekMagic_87 (Or.inr rfl) (by
  rcases h80 with ⟨o80, ⟨q1, q2, q3, q4⟩ | ⟨q1, q2, q3, q4, f, q5, q6⟩⟩
  · omega
  · refine ⟨fun k hk => (o80 k hk).trans (o2 k hk), Or.inr ⟨rfl, by omega, q3, by omega, f, ?_, q6⟩⟩
    have hlt : wi - (c0 + wayN (gQ (nwt ρ 1) (ρ 1 1) (ρ 1 0) r0) (nxT (r0 + 1) (ρ 1 1).toNat) (v.toNat * (((r0 + 1).toNat + 1) ^ d)) g) < wayN (gQ (nwt ρ 1) (ρ 1 1) (ρ 1 0) r0) (nxT (r0 + 1) (ρ 1 1).toNat) (((r0 + 1).toNat + 1) ^ d) (upf g line v) := by
      have h9 := wayI_n (gQ (nwt ρ 1) (ρ 1 1) (ρ 1 0) r0) (nxT (r0 + 1) (ρ 1 1).toNat) (((r0 + 1).toNat + 1) ^ d) (upf g line v) (wi - (c0 + wayN (gQ (nwt ρ 1) (ρ 1 1) (ρ 1 0) r0) (nxT (r0 + 1) (ρ 1 1).toNat) (v.toNat * (((r0 + 1).toNat + 1) ^ d)) g)) (by omega)
      rw [q5] at h9
      by_cases e : wi - (c0 + wayN (gQ (nwt ρ 1) (ρ 1 1) (ρ 1 0) r0) (nxT (r0 + 1) (ρ 1 1).toNat) (v.toNat * (((r0 + 1).toNat + 1) ^ d)) g) < wayN (gQ (nwt ρ 1) (ρ 1 1) (ρ 1 0) r0) (nxT (r0 + 1) (ρ 1 1).toNat) (((r0 + 1).toNat + 1) ^ d) (upf g line v)
      · exact e
      · exact absurd (h9.mpr (by omega)) (by simp)
    have hI := skI hk hlL.1 hl1 hz (gQ (nwt ρ 1) (ρ 1 1) (ρ 1 0) r0) v.toNat (by omega) (wi - c0) (by omega) (by rw [evv]; omega)
    rw [evv] at hI
    rw [hI, show wi - c0 - wayN (gQ (nwt ρ 1) (ρ 1 1) (ρ 1 0) r0) (nxT (r0 + 1) (ρ 1 1).toNat) (v.toNat * (((r0 + 1).toNat + 1) ^ d)) g = wi - (c0 + wayN (gQ (nwt ρ 1) (ρ 1 1) (ρ 1 0) r0) (nxT (r0 + 1) (ρ 1 1).toNat) (v.toNat * (((r0 + 1).toNat + 1) ^ d)) g) by omega]
    exact q5)
          · try simp only [b01_0, b01_n, bP_0, bP_n, Classical.not_not] at c59
            obtain hend : wayN (gQ (nwt ρ 1) (ρ 1 1) (ρ 1 0) r0) (nxT (r0 + 1) (ρ 1 1).toNat) (((r0 + 1).toNat + 1) ^ (d + 1)) g = wayN (gQ (nwt ρ 1) (ρ 1 1) (ρ 1 0) r0) (nxT (r0 + 1) (ρ 1 1).toNat) (v.toNat * (((r0 + 1).toNat + 1) ^ d)) g := by
              refine sk0 hk hlL.1 hl1 hz hgk _ v.toNat (by omega) (fun h a b c => mg_gt hN (f := upf g line v) ?_ (fun l l0 l1 => ?_))
              · rcases c59 with q | q
                · exact ⟨_, hL4.1, hL4.2.1, q⟩
                · exact ⟨_, hL4.2.2.1, hL4.2.2.2, q⟩
              · rcases (show l < line ∨ l = line ∨ line < l by omega) with e | e | e
                · rw [upf_o (by omega), a l e]
                  exact Int.le_refl _
                · rw [e, upf_at]
                  omega
                · rw [upf_o (by omega), hz l (by omega)]
                  exact (c l).1
            refine aw_goto (tgt := 94) G dX7_seekMagic_62 (by decide) ?_
            refine aw_aload_n G dX7_seekMagic_94 rfl ?_
            refine aw_iload_n G dX7_seekMagic_95 rfl ?_
            refine aw_iconst G dX7_seekMagic_96 ?_
            refine cv_X7_76 G dX7_seekMagic_97 (c_X7_relabel hN hT2 hlL) (hroom := ⟨by omega, by omega⟩) (kk := fun t97 h97 => ?_)
            obtain ⟨hT97, o97⟩ := h97
            refine aw_iconst G dX7_seekMagic_100 ?_
            exact aw_zret G T dX7_seekMagic_101 (Or.inl rfl) (⟨o2.tr (o97.mono (by decide)), Or.inl ⟨rfl, TH_c (fun j a b => by
      by_cases e : j = line
      · rw [e, upf_at, hz line (Int.le_refl _)]
      · rw [upf_o e, upf_o e]) hT97, by rw [o97 47 (by decide), hend]; exact hc50, by rw [hend]; exact hnf⟩⟩)
    refine aw_iload_n G dX7_seekMagic_0 rfl ?_
    refine aw_aload_n G dX7_seekMagic_1 rfl ?_
    refine gf_X7_34 G dX7_seekMagic_2 (kk := ?_)
    refine gf_X7_38 G dX7_seekMagic_5 (kk := ?_)
    rw [e1]
    refine aw_icmp_lt (tgt := 37) G dX7_seekMagic_8 (by decide) (by first | omega | exact b01_R _ | exact bP_R _) (by first | omega | exact b01_R _ | exact bP_R _) (fun c8 => ?_) (fun c8 => ?_)
    · refine aw_iconst G dX7_seekMagic_37 ?_
      refine aw_istore_4 G dX7_seekMagic_38 (hc := by first | rfl | assumption) (k := ?_)
      exact loop (r0.toNat + 3) 0 0 σ (by omega) (by omega) (by omega) (TH_c (fun j a b => by
        by_cases e : j = line
        · rw [e, upf_at, hz line (Int.le_refl _)]
        · rw [upf_o e]) hT) (fun _ _ => rfl) (by rw [hc, show (0 : Int).toNat * (((r0 + 1).toNat + 1) ^ d) = 0 from Nat.zero_mul _]; unfold wayN; omega) (by rw [show (0 : Int).toNat * (((r0 + 1).toNat + 1) ^ d) = 0 from Nat.zero_mul _]; unfold wayN; omega)
    · exact absurd c8 (by omega)

