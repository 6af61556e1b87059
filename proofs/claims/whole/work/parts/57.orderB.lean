theorem c75 (α : St) : cut α 75 = α 75 := rfl
theorem c76 (α : St) : cut α 76 = α 76 := rfl
theorem c77 (α : St) : cut α 77 = α 77 := rfl
theorem c78 (α : St) : cut α 78 = α 78 := rfl
theorem c79 (α : St) : cut α 79 = α 79 := rfl
theorem c80 (α : St) : cut α 80 = α 80 := rfl
theorem c81 (α : St) : cut α 81 = α 81 := rfl
theorem c82 (α : St) : cut α 82 = α 82 := rfl
theorem c83 (α : St) : cut α 83 = α 83 := rfl
theorem c84 (α : St) : cut α 84 = α 84 := rfl
theorem c85 (α : St) : cut α 85 = α 85 := rfl
theorem c86 (α : St) : cut α 86 = α 86 := rfl
theorem c87 (α : St) : cut α 87 = α 87 := rfl
theorem c95 (α : St) : cut α 95 = α 95 := rfl
theorem let_ok {α : St} {c : Int} (h : OK α) (hn : α 75 12 ≠ 72) (hc : 0 ≤ c ∧ c ≤ 255) : OK (up (up α 84 (α 75 12) c) 75 12 (α 75 12 + 1)) := by
  obtain ⟨a, b, c', d, e, f, g⟩ := h
  obtain ⟨τ, hτ⟩ : ∃ τ, τ = up (up α 84 (α 75 12) c) 75 12 (α 75 12 + 1) := ⟨_, rfl⟩
  rw [← hτ]
  have o : ∀ k, k ≠ 75 → k ≠ 84 → τ k = α k := fun k h1 h2 => by rw [hτ, up_ne h1, up_ne h2]
  have o5 : ∀ j : Int, j ≠ 12 → τ 75 j = α 75 j := fun j hj => by rw [hτ, up_nj hj, up_o (by decide)]
  have o12 : τ 75 12 = α 75 12 + 1 := by rw [hτ, up_at]
  refine ⟨net_c (o5 0 (by decide)) (o5 1 (by decide)) (fun k _ _ => o k (by omega) (by omega)) a, by rw [o5 7 (by decide)]; exact b, by rw [o12]; omega, fun i i0 i1 => ?_, img_c (o 95 (by decide) (by decide)) (o5 26 (by decide)) e, lis_c (o 85 (by decide) (by decide)) (o 86 (by decide) (by decide)) f, pas_c (o 81 (by decide) (by decide)) (o 82 (by decide) (by decide)) (o 83 (by decide) (by decide)) (o5 7 (by decide)) g⟩
  rw [o12] at i1
  rw [hτ, up_o (by decide)]
  by_cases z : i = α 75 12
  · rw [z, up_at]; exact hc
  · rw [up_nj z]; exact d i i0 (by omega)
/-- a new net: nothing more can be undone -/
theorem net_ok {α τ : St} (h : OK α) (hN : NetOK τ 75) (h7 : τ 75 7 = 0) (h12 : τ 75 12 = α 75 12 ∨ τ 75 12 = 0) (h26 : τ 75 26 = α 75 26) (hk : ∀ k, 84 ≤ k ∧ k ≤ 86 ∨ k = 95 → τ k = α k) : OK τ := by
  obtain ⟨a, b, c', d, e, f, g⟩ := h
  refine ⟨hN, by rw [h7]; decide, by omega, fun i i0 i1 => ?_, img_c (hk 95 (by decide)) h26 e, lis_c (hk 85 (by decide)) (hk 86 (by decide)) f, pas_0 h7⟩
  rw [hk 84 (by decide)]
  exact d i i0 (by omega)
theorem pts_ok {α : St} {n : Int} (h : OK α) (hn : 1 ≤ n ∧ n ≤ 7) : OK (up (up (up α 75 0 n) 75 1 0) 75 7 0) := by
  have a := h.1
  refine net_ok h ?_ (up_at _ _ _ _) (Or.inl (by rw [up_nj (by decide), up_nj (by decide), up_nj (by decide)])) (by rw [up_nj (by decide), up_nj (by decide), up_nj (by decide)]) (fun k hk => by rw [up_ne (by omega), up_ne (by omega), up_ne (by omega)])
  have e0 : up (up (up α 75 0 n) 75 1 0) 75 7 0 75 0 = n := by rw [up_nj (by decide), up_nj (by decide), up_at]
  have e1 : up (up (up α 75 0 n) 75 1 0) 75 7 0 75 1 = 0 := by rw [up_nj (by decide), up_at]
  refine ⟨by rw [e0]; omega, by rw [e0]; omega, by rw [e1]; omega, by rw [e1]; omega, fun j a1 a2 => ?_, fun j a1 a2 => by rw [e1] at a2; omega⟩
  have hn := a.2.2.2.2.1 j a1 a2
  simp only [up_o (show (75 + 1 : Nat) ≠ 75 by decide), up_o (show (75 + 2 : Nat) ≠ 75 by decide), up_o (show (75 + 3 : Nat) ≠ 75 by decide), up_o (show (75 + 4 : Nat) ≠ 75 by decide), up_o (show (75 + 5 : Nat) ≠ 75 by decide)]
  exact hn
theorem lin_ok {α : St} {k p q : Int} (h : OK α) (hk : 0 ≤ k ∧ k ≤ 5) (hp : 0 ≤ p ∧ p < α 75 0) (hq : 0 ≤ q ∧ q < α 75 0) (hL : α 75 1 ≠ 8) : OK (up (addLine α 75 k p q) 75 7 0) := by
  obtain ⟨n1, n2, n3, n4, n5, n6⟩ := h.1
  obtain ⟨τ, hτ⟩ : ∃ τ, τ = up (addLine α 75 k p q) 75 7 0 := ⟨_, rfl⟩
  rw [← hτ]
  have a0 : τ 75 0 = α 75 0 := by rw [hτ]; unfold addLine; simp [up]
  have a1 : τ 75 1 = α 75 1 + 1 := by rw [hτ]; unfold addLine; simp [up]
  have ar : ∀ j : Int, τ (75 + 1) j = (if j = α 75 1 then k else α (75 + 1) j) ∧ τ (75 + 2) j = (if j = α 75 1 then 0 else α (75 + 2) j) ∧ τ (75 + 3) j = (if j = α 75 1 then p else α (75 + 3) j) ∧ τ (75 + 4) j = (if j = α 75 1 then q else α (75 + 4) j) ∧ τ (75 + 5) j = (if j = α 75 1 then 0 else α (75 + 5) j) := by
    intro j
    rw [hτ]
    unfold addLine
    refine ⟨?_, ?_, ?_, ?_, ?_⟩ <;> by_cases e : j = α 75 1 <;> simp [up, e]
  refine net_ok h ⟨by rw [a0]; exact n1, by rw [a0]; exact n2, by rw [a1]; omega, by rw [a1]; omega, fun j b1 b2 => ?_, fun j b1 b2 => ?_⟩ (by rw [hτ, up_at]) (Or.inl (by rw [hτ]; unfold addLine; simp [up])) (by rw [hτ]; unfold addLine; simp [up]) (fun k' hk' => by
    rw [hτ]
    unfold addLine
    rw [up_ne (by omega), up_ne (by omega), up_ne (by omega), up_ne (by omega), up_ne (by omega), up_ne (by omega), up_ne (by omega)])
  · obtain ⟨r1, r2, r3, r4, r5⟩ := ar j
    have hn := n5 j b1 b2
    rw [r1, r2, r3, r4, r5]
    (repeat' split) <;> omega
  · obtain ⟨r1, r2, r3, r4, r5⟩ := ar j
    rw [a1] at b2
    rw [r3, r4, a0]
    by_cases e : j = α 75 1
    · rw [if_pos e, if_pos e]; omega
    · rw [if_neg e, if_neg e]
      exact n6 j b1 (by omega)
theorem drp_ok {α : St} (h : OK α) (hL : α 75 1 ≠ 0) : OK (up (up α 75 1 (α 75 1 - 1)) 75 7 0) := by
  obtain ⟨n1, n2, n3, n4, n5, n6⟩ := h.1
  have e0 : up (up α 75 1 (α 75 1 - 1)) 75 7 0 75 0 = α 75 0 := by rw [up_nj (by decide), up_nj (by decide)]
  have e1 : up (up α 75 1 (α 75 1 - 1)) 75 7 0 75 1 = α 75 1 - 1 := by rw [up_nj (by decide), up_at]
  have er : ∀ k, k ≠ 75 → up (up α 75 1 (α 75 1 - 1)) 75 7 0 k = α k := fun k hk => by rw [up_ne hk, up_ne hk]
  refine net_ok h ⟨by rw [e0]; exact n1, by rw [e0]; exact n2, by rw [e1]; omega, by rw [e1]; omega, fun j a1 a2 => ?_, fun j a1 a2 => ?_⟩ (up_at _ _ _ _) (Or.inl (by rw [up_nj (by decide), up_nj (by decide)])) (by rw [up_nj (by decide), up_nj (by decide)]) (fun k hk => er k (by omega))
  · rw [er (75 + 1) (by decide), er (75 + 2) (by decide), er (75 + 3) (by decide), er (75 + 4) (by decide), er (75 + 5) (by decide)]
    exact n5 j a1 a2
  · rw [e1] at a2
    rw [er (75 + 3) (by decide), er (75 + 4) (by decide), e0]
    exact n6 j a1 (by omega)
/-- the lists alone are other ones -/
theorem li_ok {α τ : St} (h : OK α) (hk : ∀ k, 75 ≤ k ∧ k ≤ 84 ∨ k = 95 → τ k = α k) (hl : LiP τ) : OK τ := by
  obtain ⟨a, b, c', d, e, f, g⟩ := h
  have h75 := hk 75 (by decide)
  exact ⟨net_c (by rw [h75]) (by rw [h75]) (fun k _ _ => hk k (by omega)) a, by rw [h75]; exact b, by rw [h75]; exact c', let_c (hk 84 (by decide)) (by rw [h75]) d, img_c (hk 95 (by decide)) (by rw [h75]) e, hl, pas_c (hk 81 (by decide)) (hk 82 (by decide)) (hk 83 (by decide)) (by rw [h75]) g⟩
theorem lst_ok {α : St} {l m : Int} (h : OK α) (hl : 0 ≤ l ∧ l ≤ 2) (hm : 0 ≤ m ∧ m ≤ 40) : OK (fun k j => if k = 86 ∧ 40 * l ≤ j ∧ j < 40 * l + m then 0 else up α 85 l m k j) := by
  have f := h.2.2.2.2.2.1
  refine li_ok h (fun k hk => ?_) (fun l' l0 l1 => ?_)
  · funext j
    rw [if_neg (by omega), up_o (by omega)]
  · have hf := f l' l0 l1
    rw [if_neg (by omega)]
    by_cases e : l' = l
    · rw [e, up_at]
      refine ⟨by omega, by omega, fun i i0 i1 => ?_⟩
      rw [if_pos (by omega)]
      decide
    · rw [up_nj e]
      refine ⟨hf.1, hf.2.1, fun i i0 i1 => ?_⟩
      rw [if_neg (by omega), up_o (by decide)]
      exact hf.2.2 i i0 i1
theorem put_ok {α : St} {l i v : Int} (h : OK α) (hv : inR v) : OK (up α 86 (40 * l + i) v) := by
  have f := h.2.2.2.2.2.1
  refine li_ok h (fun k hk => up_ne (by omega)) (fun l' l0 l1 => ?_)
  have hf := f l' l0 l1
  rw [up_o (by decide)]
  refine ⟨hf.1, hf.2.1, fun i' i0 i1 => ?_⟩
  by_cases e : 40 * l' + i' = 40 * l + i
  · rw [e, up_at]; exact hv
  · rw [up_nj e]; exact hf.2.2 i' i0 i1
theorem lay_ok {α : St} {l i : Int} (h : OK α) : OK (fun k j => if k = 86 ∧ 40 * l + i ≤ j ∧ j < 40 * l + i + α 75 0 then nsum α 75 (j - (40 * l + i)) else α k j) := by
  have f := h.2.2.2.2.2.1
  refine li_ok h (fun k hk => ?_) (fun l' l0 l1 => ?_)
  · funext j
    rw [if_neg (by omega)]
  · have hf := f l' l0 l1
    rw [if_neg (by omega)]
    refine ⟨hf.1, hf.2.1, fun i' i0 i1 => ?_⟩
    by_cases e : 40 * l + i ≤ 40 * l' + i' ∧ 40 * l' + i' < 40 * l + i + α 75 0
    · rw [if_pos ⟨rfl, e⟩]
      have := nsum_R h.1.2.2.2.2.1 ⟨h.1.2.2.1, h.1.2.2.2.1⟩ (40 * l' + i' - (40 * l + i))
      omega
    · rw [if_neg (fun z => e z.2)]
      exact hf.2.2 i' i0 i1
/-- labels laid over those of a net -/
theorem giv_ok {β : St} (h : OK β) {L : Int} {f : Int → Int} (hf : ∀ j : Int, 0 ≤ j → j < L → 0 ≤ f j ∧ f j ≤ 99) : OK (fun k j => if k = 80 ∧ 0 ≤ j ∧ j < L then f j else β k j) := by
  obtain ⟨⟨n1, n2, n3, n4, n5, n6⟩, b, c, d, e, f', g⟩ := h
  obtain ⟨τ, hτ⟩ : ∃ τ : St, τ = fun k j => if k = 80 ∧ 0 ≤ j ∧ j < L then f j else β k j := ⟨_, rfl⟩
  rw [← hτ]
  have o : ∀ k, k ≠ 80 → τ k = β k := fun k hk => by
    rw [hτ]
    funext j
    exact if_neg (fun z => hk z.1)
  have h75 := o 75 (by decide)
  refine ⟨⟨by rw [h75]; exact n1, by rw [h75]; exact n2, by rw [h75]; exact n3, by rw [h75]; exact n4, fun j a1 a2 => ?_, fun j a1 a2 => ?_⟩, by rw [h75]; exact b, by rw [h75]; exact c, let_c (o 84 (by decide)) (by rw [h75]) d, img_c (o 95 (by decide)) (by rw [h75]) e, lis_c (o 85 (by decide)) (o 86 (by decide)) f', pas_c (o 81 (by decide)) (o 82 (by decide)) (o 83 (by decide)) (by rw [h75]) g⟩
  · have hn := n5 j a1 a2
    rw [o (75 + 1) (by decide), o (75 + 2) (by decide), o (75 + 3) (by decide), o (75 + 4) (by decide)]
    refine ⟨hn.1, hn.2.1, hn.2.2.1, hn.2.2.2.1, hn.2.2.2.2.1, hn.2.2.2.2.2.1, hn.2.2.2.2.2.2.1, hn.2.2.2.2.2.2.2.1, ?_⟩
    rw [hτ]
    by_cases z : 0 ≤ j ∧ j < L
    · show 0 ≤ (if (75 + 5 : Nat) = 80 ∧ 0 ≤ j ∧ j < L then f j else β (75 + 5) j) ∧ (if (75 + 5 : Nat) = 80 ∧ 0 ≤ j ∧ j < L then f j else β (75 + 5) j) ≤ 99
      rw [if_pos ⟨rfl, z⟩]
      exact hf j z.1 z.2
    · show 0 ≤ (if (75 + 5 : Nat) = 80 ∧ 0 ≤ j ∧ j < L then f j else β (75 + 5) j) ∧ (if (75 + 5 : Nat) = 80 ∧ 0 ≤ j ∧ j < L then f j else β (75 + 5) j) ≤ 99
      rw [if_neg (fun y => z y.2)]
      exact hn.2.2.2.2.2.2.2.2
  · rw [h75] at a2
    rw [o (75 + 3) (by decide), o (75 + 4) (by decide), h75]
    exact n6 j a1 a2
theorem und_ok {α : St} (h : OK α) (h7 : α 75 7 ≠ 0) : OK (fun k j =>
  if k = 75 ∧ j = 7 then α 75 7 - 1
  else if k = 76 ∧ 0 ≤ j ∧ j < 8 then α 81 (8 * (α 75 7 - 1) + j)
  else if k = 77 ∧ 0 ≤ j ∧ j < 8 then α 82 (8 * (α 75 7 - 1) + j)
  else if k = 80 ∧ 0 ≤ j ∧ j < 8 then α 83 (8 * (α 75 7 - 1) + j)
  else α k j) := by
  obtain ⟨⟨n1, n2, n3, n4, n5, n6⟩, b, c, d, e, f', g⟩ := h
  obtain ⟨τ, hτ⟩ : ∃ τ : St, τ = fun k j => if k = 75 ∧ j = 7 then α 75 7 - 1
    else if k = 76 ∧ 0 ≤ j ∧ j < 8 then α 81 (8 * (α 75 7 - 1) + j)
    else if k = 77 ∧ 0 ≤ j ∧ j < 8 then α 82 (8 * (α 75 7 - 1) + j)
    else if k = 80 ∧ 0 ≤ j ∧ j < 8 then α 83 (8 * (α 75 7 - 1) + j)
    else α k j := ⟨_, rfl⟩
  rw [← hτ]
  have hv : ∀ k j, τ k j = if k = 75 ∧ j = 7 then α 75 7 - 1
    else if k = 76 ∧ 0 ≤ j ∧ j < 8 then α 81 (8 * (α 75 7 - 1) + j)
    else if k = 77 ∧ 0 ≤ j ∧ j < 8 then α 82 (8 * (α 75 7 - 1) + j)
    else if k = 80 ∧ 0 ≤ j ∧ j < 8 then α 83 (8 * (α 75 7 - 1) + j)
    else α k j := fun k j => by rw [hτ]
  have o : ∀ k, k ≠ 75 → k ≠ 76 → k ≠ 77 → k ≠ 80 → τ k = α k := fun k z1 z2 z3 z4 => by
    funext j
    rw [hv, if_neg (by omega), if_neg (by omega), if_neg (by omega), if_neg (by omega)]
  have o5 : ∀ j : Int, j ≠ 7 → τ 75 j = α 75 j := fun j hj => by rw [hv, if_neg (by omega), if_neg (by omega), if_neg (by omega), if_neg (by omega)]
  have o7 : τ 75 7 = α 75 7 - 1 := by rw [hv, if_pos ⟨rfl, rfl⟩]
  have h0 := o5 0 (by decide)
  have h1 := o5 1 (by decide)
  refine ⟨⟨by rw [h0]; exact n1, by rw [h0]; exact n2, by rw [h1]; exact n3, by rw [h1]; exact n4, fun j a1 a2 => ?_, fun j a1 a2 => ?_⟩, by rw [o7]; omega, by rw [o5 12 (by decide)]; exact c, let_c (o 84 (by decide) (by decide) (by decide) (by decide)) (o5 12 (by decide)) d, img_c (o 95 (by decide) (by decide) (by decide) (by decide)) (o5 26 (by decide)) e, lis_c (o 85 (by decide) (by decide) (by decide) (by decide)) (o 86 (by decide) (by decide) (by decide) (by decide)) f', fun i i0 i1 => ?_⟩
  · have hn := n5 j a1 a2
    have hg := g (8 * (α 75 7 - 1) + j) (by omega) (by omega)
    have w1 : τ (75 + 1) j = α 81 (8 * (α 75 7 - 1) + j) := by rw [hv, if_neg (by omega), if_pos (by omega)]
    have w2 : τ (75 + 2) j = α 82 (8 * (α 75 7 - 1) + j) := by rw [hv, if_neg (by omega), if_neg (by omega), if_pos (by omega)]
    have w5 : τ (75 + 5) j = α 83 (8 * (α 75 7 - 1) + j) := by rw [hv, if_neg (by omega), if_neg (by omega), if_neg (by omega), if_pos (by omega)]
    rw [w1, w2, w5, o (75 + 3) (by decide) (by decide) (by decide) (by decide), o (75 + 4) (by decide) (by decide) (by decide) (by decide)]
    exact ⟨hg.1, hg.2.1, hg.2.2.1, hg.2.2.2.1, hn.2.2.2.2.1, hn.2.2.2.2.2.1, hn.2.2.2.2.2.2.1, hn.2.2.2.2.2.2.2.1, hg.2.2.2.2.1, hg.2.2.2.2.2⟩
  · rw [h1] at a2
    rw [o (75 + 3) (by decide) (by decide) (by decide) (by decide), o (75 + 4) (by decide) (by decide) (by decide) (by decide), h0]
    exact n6 j a1 a2
  · rw [o7] at i1
    rw [o 81 (by decide) (by decide) (by decide) (by decide), o 82 (by decide) (by decide) (by decide) (by decide), o 83 (by decide) (by decide) (by decide) (by decide)]
    exact g i i0 (by omega)
theorem ima_ok {α : St} (h : OK α) : OK (keepR (up α 75 26 1) 95) := by
  obtain ⟨⟨n1, n2, n3, n4, n5, n6⟩, b, c, d, e, f', g⟩ := h
  obtain ⟨τ, hτ⟩ : ∃ τ : St, τ = keepR (up α 75 26 1) 95 := ⟨_, rfl⟩
  rw [← hτ]
  have o : ∀ k, k ≠ 75 → k ≠ 95 → τ k = α k := fun k z1 z2 => by
    rw [hτ]
    funext j
    unfold keepR
    rw [if_neg z2, up_o z1]
  have o5 : ∀ j : Int, j ≠ 26 → τ 75 j = α 75 j := fun j hj => by
    rw [hτ]
    unfold keepR
    rw [if_neg (by decide), up_nj hj]
  have o6 : τ 75 26 = 1 := by
    rw [hτ]
    unfold keepR
    rw [if_neg (by decide), up_at]
  refine ⟨net_c (o5 0 (by decide)) (o5 1 (by decide)) (fun k _ _ => o k (by omega) (by omega)) ⟨n1, n2, n3, n4, n5, n6⟩, by rw [o5 7 (by decide)]; exact b, by rw [o5 12 (by decide)]; exact c, let_c (o 84 (by decide) (by decide)) (o5 12 (by decide)) d, Or.inr ⟨o6, ?_⟩, lis_c (o 85 (by decide) (by decide)) (o 86 (by decide) (by decide)) f', pas_c (o 81 (by decide) (by decide)) (o 82 (by decide) (by decide)) (o 83 (by decide) (by decide)) (o5 7 (by decide)) g⟩
  have hv : ∀ j : Int, τ 95 j = (if 0 ≤ j ∧ j < 8 then α 76 j else if 8 ≤ j ∧ j < 16 then α 77 (j - 8) else if 16 ≤ j ∧ j < 24 then α 78 (j - 16) else if 24 ≤ j ∧ j < 32 then α 79 (j - 24) else if 32 ≤ j ∧ j < 40 then α 80 (j - 32) else if j = 40 then α 75 0 else if j = 41 then α 75 1 else α 95 j) := fun j => by
    rw [hτ]
    unfold keepR
    rw [if_pos rfl, up_o (by decide), up_o (by decide), up_o (by decide), up_o (by decide), up_o (by decide), up_nj (by decide), up_nj (by decide), up_o (by decide)]
  have h40 : τ 95 40 = α 75 0 := by rw [hv]; rfl
  have h41 : τ 95 41 = α 75 1 := by rw [hv]; rfl
  have r0 : ∀ i : Int, 0 ≤ i → i < 8 → τ 95 i = α 76 i := fun i i0 i1 => by rw [hv, if_pos (by omega)]
  have r1 : ∀ i : Int, 0 ≤ i → i < 8 → τ 95 (8 + i) = α 77 i := fun i i0 i1 => by rw [hv, if_neg (by omega), if_pos (by omega), show 8 + i - 8 = i by omega]
  have r2 : ∀ i : Int, 0 ≤ i → i < 8 → τ 95 (16 + i) = α 78 i := fun i i0 i1 => by rw [hv, if_neg (by omega), if_neg (by omega), if_pos (by omega), show 16 + i - 16 = i by omega]
  have r3 : ∀ i : Int, 0 ≤ i → i < 8 → τ 95 (24 + i) = α 79 i := fun i i0 i1 => by rw [hv, if_neg (by omega), if_neg (by omega), if_neg (by omega), if_pos (by omega), show 24 + i - 24 = i by omega]
  have r4 : ∀ i : Int, 0 ≤ i → i < 8 → τ 95 (32 + i) = α 80 i := fun i i0 i1 => by rw [hv, if_neg (by omega), if_neg (by omega), if_neg (by omega), if_neg (by omega), if_pos (by omega), show 32 + i - 32 = i by omega]
  refine ⟨by rw [h40]; exact n1, by rw [h40]; exact n2, by rw [h41]; exact n3, by rw [h41]; exact n4, fun i i0 i1 => ?_, fun i i0 i1 => ?_⟩
  · rw [r0 i i0 i1, r1 i i0 i1, r2 i i0 i1, r3 i i0 i1, r4 i i0 i1]
    exact n5 i i0 i1
  · rw [h41] at i1
    rw [r2 i i0 (by omega), r3 i i0 (by omega), h40]
    exact n6 i i0 i1
theorem on_ok {α : St} (h : OK α) (h26 : α 75 26 ≠ 0) : OK (up (backR α 95) 75 7 0) := by
  have hI : ImgOK α := by
    rcases h.2.2.2.2.1 with q | q
    · exact absurd q h26
    · exact q.2
  obtain ⟨m1, m2, m3, m4, m5, m6⟩ := hI
  obtain ⟨τ, hτ⟩ : ∃ τ : St, τ = up (backR α 95) 75 7 0 := ⟨_, rfl⟩
  rw [← hτ]
  have hv : ∀ k j, ¬ (k = 75 ∧ j = 7) → τ k j = if k = 76 ∧ 0 ≤ j ∧ j < 8 then α 95 j else if k = 77 ∧ 0 ≤ j ∧ j < 8 then α 95 (8 + j) else if k = 78 ∧ 0 ≤ j ∧ j < 8 then α 95 (16 + j) else if k = 79 ∧ 0 ≤ j ∧ j < 8 then α 95 (24 + j) else if k = 80 ∧ 0 ≤ j ∧ j < 8 then α 95 (32 + j) else if k = 75 ∧ j = 0 then α 95 40 else if k = 75 ∧ j = 1 then α 95 41 else α k j := fun k j hz => by
    rw [hτ]
    unfold up
    rw [if_neg hz]
    rfl
  have o : ∀ k, k ≠ 75 → k ≠ 76 → k ≠ 77 → k ≠ 78 → k ≠ 79 → k ≠ 80 → τ k = α k := fun k z1 z2 z3 z4 z5 z6 => by
    funext j
    rw [hv k j (by omega), if_neg (by omega), if_neg (by omega), if_neg (by omega), if_neg (by omega), if_neg (by omega), if_neg (by omega), if_neg (by omega)]
  have h0 : τ 75 0 = α 95 40 := by rw [hv 75 0 (by decide)]; rfl
  have h1 : τ 75 1 = α 95 41 := by rw [hv 75 1 (by decide)]; rfl
  have r : ∀ j : Int, 0 ≤ j → j < 8 → τ (75 + 1) j = α 95 j ∧ τ (75 + 2) j = α 95 (8 + j) ∧ τ (75 + 3) j = α 95 (16 + j) ∧ τ (75 + 4) j = α 95 (24 + j) ∧ τ (75 + 5) j = α 95 (32 + j) := fun j j0 j1 => by
    rw [hv (75 + 1) j (by omega), hv (75 + 2) j (by omega), hv (75 + 3) j (by omega), hv (75 + 4) j (by omega), hv (75 + 5) j (by omega)]
    refine ⟨?_, ?_, ?_, ?_, ?_⟩ <;> simp [j0, j1]
  refine net_ok h ⟨by rw [h0]; exact m1, by rw [h0]; exact m2, by rw [h1]; exact m3, by rw [h1]; exact m4, fun j a1 a2 => ?_, fun j a1 a2 => ?_⟩ (by rw [hτ, up_at]) (Or.inl (by rw [hv 75 12 (by decide)]; rfl)) (by rw [hv 75 26 (by decide)]; rfl) (fun k hk => o k (by omega) (by omega) (by omega) (by omega) (by omega) (by omega))
  · obtain ⟨q1, q2, q3, q4, q5⟩ := r j a1 a2
    rw [q1, q2, q3, q4, q5]
    exact m5 j a1 a2
  · rw [h1] at a2
    obtain ⟨q1, q2, q3, q4, q5⟩ := r j a1 (by omega)
    rw [q3, q4, h0]
    exact m6 j a1 a2
