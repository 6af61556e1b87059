theorem mis_c {f g : Int → Int} {m : Int} : ∀ (n : Nat) (i d : Int), 0 ≤ i → (n : Int) = m - i → (∀ j, 0 ≤ j → j < m → f j = g j) → mis f m n i d = mis g m n i d
  | 0, _, _, _, _, _ => rfl
  | n + 1, i, d, h0, hn, h => by
    rw [mis_s, mis_s, h i h0 (by omega), mis_c n (i + 1) _ (by omega) (by omega) h, mis_c n (i + 1) _ (by omega) (by omega) h, mis_c n (i + 1) _ (by omega) (by omega) h]
theorem tellF_s (b : Nat) (f : Int → Int) (m : Int) (k : Nat) (i n : Int) (σ : St) : tellF b f m (k + 1) i n σ = if i < m then (match stm σ b f i with | none => (-2000 - i, σ) | some υ => tellF b f m k (i + dgs (f i) + 2) (n + 1) υ) else (n, σ) := rfl
theorem tell_eq {b c : Nat} {f g : Int → Int} {m : Int} (hfg : ∀ j, 0 ≤ j → j < m → f j = g j) : ∀ (k : Nat) (i n : Int) (σ τ : St), 0 ≤ i → i ≤ m → mis f m (m - i).toNat i (-1) = -1 → NetEq σ b τ c → (tellF b f m k i n σ).1 = (tellF c g m k i n τ).1 ∧ NetEq (tellF b f m k i n σ).2 b (tellF c g m k i n τ).2 c
  | 0, i, n, σ, τ, _, _, _, h => ⟨rfl, h⟩
  | k + 1, i, n, σ, τ, h0, h1, hm, h => by
    rw [tellF_s, tellF_s]
    by_cases e : i < m
    · rw [if_pos e, if_pos e]
      obtain ⟨s1, s2, s3, s4, s5⟩ := mis_st ⟨h0, e⟩ hm
      rcases stm_eq (f := f) (g := g) (i := i) h (fun j a q => hfg j (by omega) (by omega)) s1 with ⟨q1, q2⟩ | ⟨σ', τ', q1, q2, q3⟩
      · rw [q1, q2]
        exact ⟨rfl, h⟩
      · rw [q1, q2]
        dsimp only
        rw [← hfg i h0 e]
        exact tell_eq hfg k _ _ _ _ (by omega) (by omega) s5 q3
    · rw [if_neg e, if_neg e]
      exact ⟨rfl, h⟩
theorem ME.up {τ ρ : St} {k : Nat} {j x : Int} (h : ME τ ρ) (hk : (76 ≤ k ∧ k ≤ 87 ∨ k = 95) ∨ k = 75 ∧ (j = 0 ∨ j = 1 ∨ j = 7 ∨ j = 12 ∨ j = 26)) : ME (up τ k j x) (up ρ k j x) := ⟨by rw [pp_up hk, pp_up hk, h.1], fun k' hk' => by rw [up_ne (by omega), up_ne (by omega)]; exact h.2 k' hk'⟩
theorem ME.f {τ ρ : St} {j : Int} (h : ME τ ρ) (hj : j = 0 ∨ j = 1 ∨ j = 7 ∨ j = 12 ∨ j = 26) : τ 75 j = ρ 75 j := (pp_f (σ := τ) hj).symm.trans ((congrFun (congrFun h.1 75) j).trans (pp_f hj))
theorem ME.c {τ ρ : St} {k : Nat} (h : ME τ ρ) (hk : 76 ≤ k ∧ k ≤ 87 ∨ k = 95) : τ k = ρ k := (pp_c (σ := τ) hk).symm.trans ((congrFun h.1 k).trans (pp_c hk))
theorem stm_me {σ τ : St} {f : Int → Int} {i : Int} (h : ME σ τ) : (stm σ 75 f i = none ∧ stm τ 75 f i = none) ∨ ∃ σ' τ', stm σ 75 f i = some σ' ∧ stm τ 75 f i = some τ' ∧ ME σ' τ' := by
  unfold stm
  rw [h.f (j := 0) (Or.inl rfl), h.f (j := 1) (Or.inr (Or.inl rfl))]
  by_cases c1 : f i = 110
  · rw [if_pos c1, if_pos c1]
    by_cases c2 : 1 ≤ f (i + 1) - 48 ∧ f (i + 1) - 48 ≤ 7
    · rw [if_pos c2, if_pos c2]
      exact Or.inr ⟨_, _, rfl, rfl, (h.up (Or.inr ⟨rfl, Or.inl rfl⟩)).up (Or.inr ⟨rfl, Or.inr (Or.inl rfl)⟩)⟩
    · rw [if_neg c2, if_neg c2]
      exact Or.inl ⟨rfl, rfl⟩
  rw [if_neg c1, if_neg c1]
  by_cases c3 : f i = 108
  · rw [if_pos c3, if_pos c3]
    by_cases c2 : f (i + 1) - 48 ≤ 5 ∧ f (i + 2) - 48 < τ 75 0 ∧ f (i + 3) - 48 < τ 75 0 ∧ τ 75 1 < 8
    · rw [if_pos c2, if_pos c2]
      refine Or.inr ⟨_, _, rfl, rfl, ?_⟩
      unfold addLine
      rw [h.f (j := 1) (Or.inr (Or.inl rfl))]
      exact (((((h.up (Or.inl (by decide))).up (Or.inl (by decide))).up (Or.inl (by decide))).up (Or.inl (by decide))).up (Or.inl (by decide))).up (Or.inr ⟨rfl, Or.inr (Or.inl rfl)⟩)
    · rw [if_neg c2, if_neg c2]
      exact Or.inl ⟨rfl, rfl⟩
  rw [if_neg c3, if_neg c3]
  by_cases c4 : f i = 102
  · rw [if_pos c4, if_pos c4]
    by_cases c2 : f (i + 1) - 48 < τ 75 1
    · rw [if_pos c2, if_pos c2]
      exact Or.inr ⟨_, _, rfl, rfl, h.up (Or.inl (by decide))⟩
    · rw [if_neg c2, if_neg c2]
      exact Or.inl ⟨rfl, rfl⟩
  rw [if_neg c4, if_neg c4]
  by_cases c2 : f (i + 1) - 48 < τ 75 1
  · rw [if_pos c2, if_pos c2]
    exact Or.inr ⟨_, _, rfl, rfl, h.up (Or.inl (by decide))⟩
  · rw [if_neg c2, if_neg c2]
    exact Or.inl ⟨rfl, rfl⟩
theorem tell_me {f : Int → Int} {m : Int} : ∀ (k : Nat) (i n : Int) (σ τ : St), ME σ τ → (tellF 75 f m k i n σ).1 = (tellF 75 f m k i n τ).1 ∧ ME (tellF 75 f m k i n σ).2 (tellF 75 f m k i n τ).2
  | 0, i, n, σ, τ, h => ⟨rfl, h⟩
  | k + 1, i, n, σ, τ, h => by
    rw [tellF_s, tellF_s]
    by_cases e : i < m
    · rw [if_pos e, if_pos e]
      rcases stm_me (f := f) (i := i) h with ⟨q1, q2⟩ | ⟨σ', τ', q1, q2, q3⟩
      · rw [q1, q2]
        exact ⟨rfl, h⟩
      · rw [q1, q2]
        exact tell_me k _ _ _ _ q3
    · rw [if_neg e, if_neg e]
      exact ⟨rfl, h⟩
theorem tell_to {f : Int → Int} {b : Nat} {m : Int} : ∀ (k : Nat) (i n : Int) (σ : St), 0 ≤ i → i ≤ m → mis f m (m - i).toNat i (-1) = -1 → NetOK σ b → TO b σ (tellF b f m k i n σ).2 ∧ NetOK (tellF b f m k i n σ).2 b
  | 0, i, n, σ, _, _, _, h => ⟨TO.rf b σ, h⟩
  | k + 1, i, n, σ, h0, h1, hm, h => by
    rw [tellF_s]
    by_cases e : i < m
    · rw [if_pos e]
      obtain ⟨s1, s2, s3, s4, s5⟩ := mis_st ⟨h0, e⟩ hm
      cases q : stm σ b f i with
      | none => exact ⟨TO.rf b σ, h⟩
      | some υ =>
        obtain ⟨a1, a2⟩ := stm_ok h s1 s4 q
        have hz := tell_to k (i + dgs (f i) + 2) (n + 1) υ (by omega) (by omega) s5 a1
        exact ⟨a2.tr hz.1, hz.2⟩
    · rw [if_neg e]
      exact ⟨TO.rf b σ, h⟩
theorem tell_R (b : Nat) (f : Int → Int) (m : Int) : ∀ (k : Nat) (i n : Int) (σ : St), 0 ≤ i → m ≤ 72 → 0 ≤ n → n + k ≤ 72 → inR (tellF b f m k i n σ).1
  | 0, i, n, σ, _, _, _, _ => by
    unfold tellF
    dsimp only
    omega
  | k + 1, i, n, σ, h0, h1, h2, h3 => by
    rw [tellF_s]
    by_cases e : i < m
    · rw [if_pos e]
      cases q : stm σ b f i with
      | none => dsimp only; omega
      | some υ =>
        have hd := dgs_R (f i)
        exact tell_R b f m k _ _ _ (by omega) h1 (by omega) (by omega)
    · rw [if_neg e]
      dsimp only
      omega
set_option maxHeartbeats 4000000 in
theorem c_X9_text {V : Wd} {σ : St} {α : St}  (hk : OK α) (hX : RX α σ) : Ct V yX9_text cX9_text 2 (some .int) 4 94 [rv V 0] σ (PI (fun r τ => r = an_text α ∧ RX (nx_text α) τ ∧ MS σ τ)) := by
  refine ct_of (by decide) (Nat.le_of_ble_eq_true rfl) (fun X G T => ?_)
  have G : Gd X V cX9_text RX9 2 4 94 := G
  show AW X V σ 0 [] [some (rv V 0), none]
  have hN : NetOK σ 1 := hX.1.ok hk.1
  obtain ⟨⟨e0, e1, er⟩, ⟨x1, x2⟩, xp, xl, xr, xi⟩ := id hX
  obtain ⟨⟨n1, n2, n3, n4, n5, n6⟩, u1, l1, l2, i1, s1, w1⟩ := id hk
  obtain ⟨p1, p2, p3, p4, p5, p6⟩ := id hN
  have hf62 : ∀ i, 0 ≤ i → i < σ 62 2 → 0 ≤ σ 63 i ∧ σ 63 i ≤ 255 := fun i a b => by rw [x2 i a (by omega)]; exact l2 i a (by omega)
  have hfg : ∀ j, 0 ≤ j → j < σ 62 2 → σ 63 j = α 84 j := fun j a b => x2 j a (by omega)
  have hmis : mis (σ 63) (σ 62 2) (σ 62 2).toNat 0 (-1) = misF α := by
    rw [mis_c (g := α 84) _ 0 (-1) (by omega) (by omega) hfg, x1]
    rfl
  have hNA : NetEq (cpNet σ 13 1) 13 (up α 75 12 0) 75 := by
    obtain ⟨y0, y1, yr⟩ := cpNet_eq (σ := σ) (a := 13) (b := 1) (by omega)
    refine ⟨y0.trans (e0.trans (up_nj (by decide)).symm), y1.trans (e1.trans (up_nj (by decide)).symm), fun i a b => ?_⟩
    obtain ⟨z1, z2, z3, z4, z5⟩ := er i a b
    obtain ⟨v1, v2, v3, v4, v5⟩ := yr i a b
    rw [up_o (by decide), up_o (by decide), up_o (by decide), up_o (by decide), up_o (by decide)]
    exact ⟨v1.trans z1, v2.trans z2, v3.trans z3, v4.trans z4, v5.trans z5⟩
  have hNB : NetOK (up α 75 12 0) 75 := ⟨n1, n2, n3, n4, n5, n6⟩
  have hTE := fun hm => tell_eq (b := 13) (c := 75) hfg (σ 62 2).toNat 0 0 _ _ (by omega) (by omega) hm hNA
  have hTT := fun hm => tell_to (f := α 84) (b := 75) (m := α 75 12) (α 75 12).toNat 0 0 (up α 75 12 0) (by omega) (by omega) hm hNB
  rw [x1] at hTE
  have hSc : ∀ ρ, TO 13 (cpNet σ 13 1) ρ → RX α ρ ∧ MS σ ρ := fun ρ hρ => ⟨RX_c (fun k hk => by unfold xP at hk; rw [hρ.1 k (by omega), cpNet_r (by omega)]) hX, fun k hk => by rw [hρ.1 k (by omega), cpNet_r (by omega)]⟩
  refine aw_aload_n G dX9_text_0 rfl ?_
  refine gf_X9_49 G dX9_text_1 (kk := ?_)
  refine aw_aload_n G dX9_text_4 rfl ?_
  refine gf_X9_10 G dX9_text_5 (kk := ?_)
  refine cv_X9_89 G dX9_text_8 (c_X1_tell (by omega) hf62 hN) (kk := fun r8 t8 h8 => ?_)
  refine aw_istore_1 G dX9_text_11 (hc := by first | rfl | assumption) (k := ?_)
  refine aw_aload_n G dX9_text_12 rfl ?_
  refine gf_X9_49 G dX9_text_13 (kk := ?_)
  refine aw_iconst G dX9_text_16 ?_
  refine pf_X9_81 G dX9_text_17 (kk := ?_)
  refine aw_iload_n G dX9_text_20 rfl ?_
  refine aw_if_lt (tgt := 31) G dX9_text_21 (by decide) (by rcases h8 with ⟨q1, q2, q3⟩ | ⟨q1, ρ, q2, q3, q4⟩; (have := mis_R (σ 63) (σ 62 2) (σ 62 2).toNat 0 (-1) (by omega) (by omega); omega); (rw [q2]; exact tell_R 13 (σ 63) _ _ _ _ _ (by omega) (by omega) (by omega) (by omega))) (fun c21 => ?_) (fun c21 => ?_)
  · refine aw_iload_n G dX9_text_31 rfl ?_
    exact aw_iret G T dX9_text_32 (by
          rcases h8 with ⟨q1, q2, q3⟩ | ⟨q1, ρ, q2, q3, q4⟩
          · rw [hmis] at q1 q2
            rw [q3]
            refine ⟨by unfold an_text; rw [if_neg q1, q2], by unfold nx_text; rw [if_neg q1]; exact hX.nolet, (MS.rf _).up (by decide)⟩
          · rcases q4 with ⟨q5, q6⟩ | ⟨q5, q6, q7⟩
            · obtain ⟨k1, k2⟩ := hSc ρ q3
              rw [hmis] at q1
              rw [x1] at q2
              have hm2 : mis (σ 63) (α 75 12) (α 75 12 - 0).toNat 0 (-1) = -1 := by
                rw [show α 75 12 - 0 = α 75 12 by omega, ← x1, hmis]; exact q1
              have hz := (hTE hm2).1
              rw [q6]
              refine ⟨by unfold an_text; rw [if_pos q1, q2, hz]; rfl, ?_, k2.up (by decide)⟩
              unfold nx_text
              rw [if_pos q1, if_neg (by unfold tellR; rw [← hz, ← q2]; omega)]
              exact k1.nolet
            · omega)
  · refine aw_aload_n G dX9_text_24 rfl ?_
    refine gf_X9_26 G dX9_text_25 (kk := ?_)
    refine cv_X9_93 G dX9_text_28 (c_X4_forget) (kk := fun t28 h28 => ?_)
    obtain rfl := h28.symm
    refine aw_iload_n G dX9_text_31 rfl ?_
    exact aw_iret G T dX9_text_32 (by
          rcases h8 with ⟨q1, q2, q3⟩ | ⟨q1, ρ, q2, q3, q4⟩
          · have := mis_R (σ 63) (σ 62 2) (σ 62 2).toNat 0 (-1) (by omega) (by omega)
            omega
          · rcases q4 with ⟨q5, q6⟩ | ⟨q5, q6, q7⟩
            · omega
            · obtain ⟨k1, k2⟩ := hSc ρ q3
              rw [hmis] at q1
              rw [x1] at q2 q6
              have hm2 : mis (σ 63) (α 75 12) (α 75 12 - 0).toNat 0 (-1) = -1 := by
                rw [show α 75 12 - 0 = α 75 12 by omega, ← x1, hmis]; exact q1
              obtain ⟨hz, hy⟩ := hTE hm2
              obtain ⟨hto, -⟩ := hTT (by rw [show α 75 12 - 0 = α 75 12 by omega]; exact q1)
              rw [q7]
              refine ⟨by unfold an_text; rw [if_pos q1, q2, hz]; rfl, ?_, ((k2.net (by decide)).up (by decide)).up (by decide)⟩
              unfold nx_text
              rw [if_pos q1, if_pos (by unfold tellR; rw [← hz, ← q2]; omega)]
              refine RX.forget ?_
              have hNn : NetEq (cpNet ρ 1 13) 1 (tellR α).2 75 := by
                obtain ⟨y0, y1, yr⟩ := cpNet_eq (σ := ρ) (a := 1) (b := 13) (by omega)
                rw [← q6] at hy
                refine ⟨y0.trans hy.1, y1.trans hy.2.1, fun i a b => ?_⟩
                obtain ⟨z1, z2, z3, z4, z5⟩ := hy.2.2 i a b
                obtain ⟨v1, v2, v3, v4, v5⟩ := yr i a b
                exact ⟨v1.trans z1, v2.trans z2, v3.trans z3, v4.trans z4, v5.trans z5⟩
              obtain ⟨g1, g2, g3, g4, g5, g6⟩ := k1
              have ar : ∀ k, k < 75 ∨ 80 < k → (tellR α).2 k = α k := fun k hk => (hto.1 k hk).trans (up_ne (by omega))
              have af : ∀ j : Int, j ≠ 0 → j ≠ 1 → j ≠ 12 → (tellR α).2 75 j = α 75 j := fun j a b c => (hto.2.1 j a b).trans (up_nj c)
              have sr : ∀ k, k < 1 ∨ 6 < k → k ≠ 62 → up (cpNet ρ 1 13) 62 2 0 k = ρ k := fun k a b => by rw [up_ne b, cpNet_r (by omega)]
              refine ⟨?_, ⟨?_, ?_⟩, g3.k (af _ (by decide) (by decide) (by decide)) (ar _ (by omega)) (ar _ (by omega)) (ar _ (by omega)) (by rw [sr _ (by omega) (by omega)]) (by rw [sr _ (by omega) (by omega)]) (fun k a b => sr _ (by omega) (by omega)), g4.k (ar _ (by omega)) (ar _ (by omega)) (sr _ (by omega) (by omega)) (fun k a b => sr _ (by omega) (by omega)), g5.k (ar _ (by omega)) (sr _ (by omega) (by omega)), g6.k (af _ (by decide) (by decide) (by decide)) (ar _ (by omega)) (by rw [sr _ (by omega) (by omega)]) (fun k a b => sr _ (by omega) (by omega))⟩
              · obtain ⟨y0, y1, yr⟩ := hNn
                refine ⟨by rw [up_o (by decide)]; exact y0, by rw [up_o (by decide)]; exact y1, fun i a b => ?_⟩
                rw [up_o (by decide), up_o (by decide), up_o (by decide), up_o (by decide), up_o (by decide)]
                exact yr i a b
              · rw [up_at]
                exact ((hto.2.1 12 (by decide) (by decide)).trans (up_at _ _ _ _)).symm
              · intro i a b
                rw [show (tellR α).2 75 12 = 0 from (hto.2.1 12 (by decide) (by decide)).trans (up_at _ _ _ _)] at b
                omega)
