def MS (σ τ : St) : Prop := ∀ k, 75 ≤ k → τ k = σ k
theorem MS.rf (σ : St) : MS σ σ := fun _ _ => rfl
theorem MS.up {σ τ : St} {k : Nat} {j x : Int} (h : MS σ τ) (hk : k < 75) : MS σ (up τ k j x) := fun k' h' => (up_ne (by omega)).trans (h k' h')
theorem MS.tr {σ τ υ : St} (h : MS σ τ) (h2 : MS τ υ) : MS σ υ := fun k hk => (h2 k hk).trans (h k hk)
theorem MS.fill {σ τ : St} {k : Nat} {n : Int} {f : Int → Int} (h : MS σ τ) (hk : k < 75) : MS σ (fill τ k n f) := fun k' h' => (fill_r (by omega)).trans (h k' h')
theorem MS.cpy {σ τ : St} {k0 k : Nat} {a b c : Int} (h : MS σ τ) (hk : k < 75) : MS σ (cpy τ k0 a k b c) := fun k' h' => (cpy_r (by omega)).trans (h k' h')
theorem addLine_r {σ : St} {b k : Nat} {x y z : Int} (h : k < b ∨ b + 5 < k) : addLine σ b x y z k = σ k := by
  unfold addLine
  rw [up_ne (by omega), up_ne (by omega), up_ne (by omega), up_ne (by omega), up_ne (by omega), up_ne (by omega)]
theorem MS.add {σ τ : St} {b : Nat} {x y z : Int} (h : MS σ τ) (hk : b + 5 < 75) : MS σ (addLine τ b x y z) := fun k' h' => (addLine_r (by omega)).trans (h k' h')
theorem MS.keep {σ τ : St} (h : MS σ τ) (hn : 0 ≤ τ 19 3 ∧ τ 19 3 < 8) : MS σ (keepS τ) := by
  unfold keepS
  exact ((((h.cpy (by omega)).cpy (by omega)).cpy (by omega)).up (by omega)).up (by omega)
theorem MS.rest {σ τ : St} (h : MS σ τ) : MS σ (restS τ) := by
  unfold restS
  have h0 := Int.emod_lt_of_pos (τ 19 3 + 7) (show (0:Int) < 8 by decide)
  have h1 := Int.emod_nonneg (τ 19 3 + 7) (show (8:Int) ≠ 0 by decide)
  exact ((((h.up (by omega)).up (by omega)).cpy (by omega)).cpy (by omega)).cpy (by omega)
theorem MS.net {σ τ : St} {a b : Nat} (h : MS σ τ) (ha : a + 5 < 75) : MS σ (cpNet τ a b) := fun k hk => (cpNet_r (by omega)).trans (h k hk)
theorem NetEq.k {α α' σ σ' : St} (q : NetEq σ 1 α 75) (a1 : α' 75 0 = α 75 0) (a2 : α' 75 1 = α 75 1) (a3 : α' 76 = α 76) (a4 : α' 77 = α 77) (a5 : α' 78 = α 78) (a6 : α' 79 = α 79) (a7 : α' 80 = α 80) (s1 : σ' 1 0 = σ 1 0) (s2 : σ' 1 1 = σ 1 1) (s3 : ∀ k, 2 ≤ k → k ≤ 6 → σ' k = σ k) : NetEq σ' 1 α' 75 := by
  unfold NetEq at q ⊢
  rw [a1, a2, s1, s2, show α' (75 + 1) = α (75 + 1) from a3, show α' (75 + 2) = α (75 + 2) from a4, show α' (75 + 3) = α (75 + 3) from a5, show α' (75 + 4) = α (75 + 4) from a6, show α' (75 + 5) = α (75 + 5) from a7, s3 (1 + 1) (by decide) (by decide), s3 (1 + 2) (by decide) (by decide), s3 (1 + 3) (by decide) (by decide), s3 (1 + 4) (by decide) (by decide), s3 (1 + 5) (by decide) (by decide)]
  exact q
theorem RXlet.k {α α' σ σ' : St} (q : RXlet α σ) (a1 : α' 75 12 = α 75 12) (a2 : α' 84 = α 84) (s1 : σ' 62 2 = σ 62 2) (s2 : σ' 63 = σ 63) : RXlet α' σ' := by
  unfold RXlet at q ⊢
  rw [a1, a2, s1, s2]
  exact q
theorem RXpast.k {α α' σ σ' : St} (q : RXpast α σ) (a1 : α' 75 7 = α 75 7) (a2 : α' 81 = α 81) (a3 : α' 82 = α 82) (a4 : α' 83 = α 83) (s1 : σ' 19 3 = σ 19 3) (s2 : σ' 19 4 = σ 19 4) (s3 : ∀ k, 23 ≤ k → k ≤ 46 → σ' k = σ k) : RXpast α' σ' := by
  unfold RXpast at q ⊢
  rw [a1, a2, a3, a4, s1, s2]
  refine ⟨q.1, q.2.1, q.2.2.1, fun j j0 j1 i i0 i1 => ?_⟩
  have hm := Int.emod_lt_of_pos (σ 19 3 + 8 - α 75 7 + j) (show (0:Int) < 8 by decide)
  have hm0 := Int.emod_nonneg (σ 19 3 + 8 - α 75 7 + j) (show (8:Int) ≠ 0 by decide)
  rw [s3 _ (by omega) (by omega), s3 _ (by omega) (by omega), s3 _ (by omega) (by omega)]
  exact q.2.2.2 j j0 j1 i i0 i1
theorem RXpast.z {α α' σ σ' : St} (q : RXpast α σ) (a1 : α' 75 7 = 0) (s1 : σ' 19 3 = σ 19 3) (s2 : σ' 19 4 = 0) : RXpast α' σ' := by
  unfold RXpast at q ⊢
  rw [a1, s1, s2]
  exact ⟨rfl, q.2.1, q.2.2.1, fun j j0 j1 => by omega⟩
theorem RXlist.k {α α' σ σ' : St} (q : RXlist α σ) (a1 : α' 85 = α 85) (a2 : α' 86 = α 86) (s1 : σ' 71 = σ 71) (s2 : ∀ k, 68 ≤ k → k ≤ 70 → σ' k = σ k) : RXlist α' σ' := by
  unfold RXlist at q ⊢
  intro l l0 l1
  rw [a1, a2, s1, s2 (68 + l.toNat) (by omega) (by omega)]
  exact q l l0 l1
theorem RXref.k {α α' σ σ' : St} (q : RXref α σ) (a1 : α' 87 = α 87) (s1 : σ' 72 = σ 72) : RXref α' σ' := by
  unfold RXref at q ⊢
  rw [a1, s1]
  exact q
theorem RXimg.k {α α' σ σ' : St} (q : RXimg α σ) (a1 : α' 75 26 = α 75 26) (a2 : α' 95 = α 95) (s1 : σ' 0 2 = σ 0 2) (s2 : ∀ k, 7 ≤ k → k ≤ 12 → σ' k = σ k) : RXimg α' σ' := by
  unfold RXimg at q ⊢
  rw [a1, a2, s1, s2 7 (by decide) (by decide), s2 8 (by decide) (by decide), s2 9 (by decide) (by decide), s2 10 (by decide) (by decide), s2 11 (by decide) (by decide), s2 12 (by decide) (by decide)]
  exact q
theorem RX_ref {α σ : St} {r : Int} (q : RX α σ) (hr : -6 ≤ r ∧ r ≤ -1) : RX (rf α r) (up σ 72 (-r) (σ 72 (-r) + 1)) := by
  obtain ⟨q1, q2, q3, q4, q5, q6⟩ := q
  unfold rf
  refine ⟨q1.k rfl rfl rfl rfl rfl rfl rfl rfl rfl (fun k a b => up_ne (by omega)), q2.k rfl rfl rfl rfl, q3.k rfl rfl rfl rfl rfl rfl (fun k a b => up_ne (by omega)), q4.k rfl rfl rfl (fun k a b => up_ne (by omega)), fun i i0 i1 => ?_, q6.k rfl rfl rfl (fun k a b => up_ne (by omega))⟩
  by_cases e : i = -r
  · subst e
    rw [up_at, up_at, q5 _ (by omega) (by omega)]
  · rw [up_nj e, up_nj e]
    exact q5 i i0 i1
/-- the ring of rows: one change more is kept -/
theorem RXpast.keep {α σ : St} (q : RXpast α σ) (hn : NetEq σ 1 α 75) (hu : 0 ≤ α 75 7 ∧ α 75 7 ≤ 8) : RXpast (canU α) (keepS σ) := by
  obtain ⟨q1, q2, q3, q4⟩ := q
  have e3 : keepS σ 19 3 = (σ 19 3 + 1) % 8 := by
    unfold keepS
    rw [up_nj (by decide), up_at]
  have e4 : keepS σ 19 4 = min (α 75 7 + 1) 8 := by
    unfold keepS
    rw [up_at, q1]
  have ea : canU α 75 7 = min (α 75 7 + 1) 8 := by
    unfold canU
    dsimp only
    rw [if_pos ⟨rfl, rfl⟩]
    split <;> omega
  have hrow : ∀ (b : Nat) (i : Nat) (j : Int), (b = 23 ∨ b = 31 ∨ b = 39) → i < 8 → (0 ≤ j ∧ j < 8) → keepS σ (b + i) j = if i = (σ 19 3).toNat then (if b = 23 then σ 2 j else if b = 31 then σ 3 j else σ 6 j) else σ (b + i) j := by
    intro b i j hb hi hj
    unfold keepS
    rw [up_o (by omega), up_o (by omega)]
    by_cases e : i = (σ 19 3).toNat
    · rw [if_pos e]
      rcases hb with rfl | rfl | rfl
      · rw [cpy_o (by omega), cpy_o (by omega), e, cpy_i (by omega), if_pos rfl]
        congr 1
        omega
      · rw [cpy_o (by omega), e, cpy_i (by omega), cpy_o (by omega), if_neg (by decide), if_pos rfl]
        congr 1
        omega
      · rw [e, cpy_i (by omega), cpy_o (by omega), cpy_o (by omega), if_neg (by decide), if_neg (by decide)]
        congr 1
        omega
    · rw [if_neg e, cpy_o (by omega), cpy_o (by omega), cpy_o (by omega)]
  obtain ⟨-, -, hr⟩ := hn
  refine ⟨e4.trans ea.symm, by rw [e3]; omega, by rw [e3]; omega, fun j j0 j1 i i0 i1 => ?_⟩
  rw [e3, ea]
  rw [ea] at j1
  have hri := hr i i0 i1
  by_cases h8 : α 75 7 = 8
  · -- the oldest goes
    have hx : ((σ 19 3 + 1) % 8 + 8 - min (α 75 7 + 1) 8 + j) % 8 = (σ 19 3 + 8 - α 75 7 + (j + 1)) % 8 := by omega
    rw [hx]
    have hm := Int.emod_lt_of_pos (σ 19 3 + 8 - α 75 7 + (j + 1)) (show (0:Int) < 8 by decide)
    have hm0 := Int.emod_nonneg (σ 19 3 + 8 - α 75 7 + (j + 1)) (show (8:Int) ≠ 0 by decide)
    rw [hrow 23 _ i (Or.inl rfl) (by omega) ⟨i0, i1⟩, hrow 31 _ i (Or.inr (Or.inl rfl)) (by omega) ⟨i0, i1⟩, hrow 39 _ i (Or.inr (Or.inr rfl)) (by omega) ⟨i0, i1⟩]
    by_cases h7 : j = 7
    · have he : ((σ 19 3 + 8 - α 75 7 + (j + 1)) % 8).toNat = (σ 19 3).toNat := by omega
      rw [if_pos he, if_pos he, if_pos he, if_pos rfl, if_neg (show ¬ 31 = 23 by decide), if_pos rfl, if_neg (show ¬ 39 = 23 by decide), if_neg (show ¬ 39 = 31 by decide)]
      unfold canU
      dsimp only
      rw [if_pos h8, if_neg (by omega), if_pos (by omega), if_neg (by omega), if_neg (by omega), if_pos (by omega), if_neg (by omega), if_neg (by omega), if_neg (by omega), if_pos (by omega), show 8 * j + i - 8 * 7 = i by omega]
      exact ⟨hri.1, hri.2.1, hri.2.2.2.2⟩
    · rw [if_neg (by omega), if_neg (by omega), if_neg (by omega)]
      have hq := q4 (j + 1) (by omega) (by omega) i i0 i1
      unfold canU
      dsimp only
      rw [if_pos h8, if_neg (by omega), if_neg (by omega), if_neg (by omega), if_neg (by omega), if_pos (by omega), if_neg (by omega), if_neg (by omega), if_neg (by omega), if_neg (by omega), if_pos (by omega), if_neg (by omega), if_neg (by omega), if_neg (by omega), if_neg (by omega), if_pos (by omega), show 8 * j + i + 8 = 8 * (j + 1) + i by omega]
      exact hq
  · have hx : ((σ 19 3 + 1) % 8 + 8 - min (α 75 7 + 1) 8 + j) % 8 = (σ 19 3 + 8 - α 75 7 + j) % 8 := by omega
    rw [hx]
    have hm := Int.emod_lt_of_pos (σ 19 3 + 8 - α 75 7 + j) (show (0:Int) < 8 by decide)
    have hm0 := Int.emod_nonneg (σ 19 3 + 8 - α 75 7 + j) (show (8:Int) ≠ 0 by decide)
    rw [hrow 23 _ i (Or.inl rfl) (by omega) ⟨i0, i1⟩, hrow 31 _ i (Or.inr (Or.inl rfl)) (by omega) ⟨i0, i1⟩, hrow 39 _ i (Or.inr (Or.inr rfl)) (by omega) ⟨i0, i1⟩]
    by_cases h7 : j = α 75 7
    · have he : ((σ 19 3 + 8 - α 75 7 + j) % 8).toNat = (σ 19 3).toNat := by omega
      rw [if_pos he, if_pos he, if_pos he, if_pos rfl, if_neg (show ¬ 31 = 23 by decide), if_pos rfl, if_neg (show ¬ 39 = 23 by decide), if_neg (show ¬ 39 = 31 by decide)]
      unfold canU
      dsimp only
      rw [if_neg h8, if_neg (by omega), if_pos (by omega), if_neg (by omega), if_neg (by omega), if_pos (by omega), if_neg (by omega), if_neg (by omega), if_neg (by omega), if_pos (by omega), show 8 * j + i - 8 * α 75 7 = i by omega]
      exact ⟨hri.1, hri.2.1, hri.2.2.2.2⟩
    · rw [if_neg (by omega), if_neg (by omega), if_neg (by omega)]
      have hq := q4 j (by omega) (by omega) i i0 i1
      unfold canU
      dsimp only
      rw [if_neg h8, if_neg (by omega), if_neg (by omega), if_neg (by omega), if_neg (by omega), if_neg (by omega), if_neg (by omega), if_neg (by omega), if_neg (by omega), if_neg (by omega), if_neg (by omega), if_neg (by omega), if_neg (by omega), if_neg (by omega), if_neg (by omega), if_neg (by omega)]
      exact hq
theorem keepS_r {σ : St} {k : Nat} (hn : 0 ≤ σ 19 3 ∧ σ 19 3 < 8) (h : k < 19 ∨ 46 < k ∨ k = 20 ∨ k = 21 ∨ k = 22) : keepS σ k = σ k := by
  unfold keepS
  rw [up_ne (by omega), up_ne (by omega), cpy_r (by omega), cpy_r (by omega), cpy_r (by omega)]
/-- all of it but labels, kinds and figures, when a change is kept -/
theorem RX.keep {α σ : St} (q : RX α σ) (hu : 0 ≤ α 75 7 ∧ α 75 7 ≤ 8) : RX (canU α) (keepS σ) := by
  obtain ⟨q1, q2, q3, q4, q5, q6⟩ := q
  have hn : 0 ≤ σ 19 3 ∧ σ 19 3 < 8 := ⟨q3.2.1, q3.2.2.1⟩
  refine ⟨q1.k (canU_f (by decide)) (canU_f (by decide)) (canU_r (by decide)) (canU_r (by decide)) (canU_r (by decide)) (canU_r (by decide)) (canU_r (by decide)) (by rw [keepS_r hn (by decide)]) (by rw [keepS_r hn (by decide)]) (fun k a b => keepS_r hn (by omega)), q2.k (canU_f (by decide)) (canU_r (by decide)) (by rw [keepS_r hn (by decide)]) (keepS_r hn (by decide)), q3.keep q1 hu, q4.k (canU_r (by decide)) (canU_r (by decide)) (keepS_r hn (by decide)) (fun k a b => keepS_r hn (by omega)), q5.k (canU_r (by decide)) (keepS_r hn (by decide)), q6.k (canU_f (by decide)) (canU_r (by decide)) (by rw [keepS_r hn (by decide)]) (fun k a b => keepS_r hn (by omega))⟩
/-- a row of the net changes on both sides -/
theorem RX.row {α σ : St} {c : Nat} {j x : Int} (q : RX α σ) (hc : 1 ≤ c ∧ c ≤ 5) : RX (up α (75 + c) j x) (up σ (1 + c) j x) := by
  obtain ⟨q1, q2, q3, q4, q5, q6⟩ := q
  refine ⟨⟨?_, ?_, fun i i0 i1 => ?_⟩, q2.k (up_o (by omega)) (up_ne (by omega)) (up_o (by omega)) (up_ne (by omega)), q3.k (up_o (by omega)) (up_ne (by omega)) (up_ne (by omega)) (up_ne (by omega)) (up_o (by omega)) (up_o (by omega)) (fun k a b => up_ne (by omega)), q4.k (up_ne (by omega)) (up_ne (by omega)) (up_ne (by omega)) (fun k a b => up_ne (by omega)), q5.k (up_ne (by omega)) (up_ne (by omega)), q6.k (up_o (by omega)) (up_ne (by omega)) (up_o (by omega)) (fun k a b => up_ne (by omega))⟩
  · rw [up_o (by omega), up_o (by omega)]; exact q1.1
  · rw [up_o (by omega), up_o (by omega)]; exact q1.2.1
  · obtain ⟨h1, h2, h3, h4, h5⟩ := q1.2.2 i i0 i1
    have key : ∀ d : Nat, σ (1 + d) i = α (75 + d) i → up σ (1 + c) j x (1 + d) i = up α (75 + c) j x (75 + d) i := by
      intro d hd
      by_cases e : d = c ∧ i = j
      · obtain ⟨rfl, rfl⟩ := e
        rw [up_at, up_at]
      · unfold up
        rw [if_neg (by omega), if_neg (by omega)]
        exact hd
    exact ⟨key 1 h1, key 2 h2, key 3 h3, key 4 h4, key 5 h5⟩
/-- points, lines: a number of the net changes on both sides -/
theorem RX.num {α σ : St} {f x : Int} (q : RX α σ) (hf : f = 0 ∨ f = 1) : RX (up α 75 f x) (up σ 1 f x) := by
  obtain ⟨q1, q2, q3, q4, q5, q6⟩ := q
  refine ⟨⟨?_, ?_, fun i i0 i1 => ?_⟩, q2.k (up_nj (by omega)) (up_ne (by omega)) (up_o (by omega)) (up_ne (by omega)), q3.k (up_nj (by omega)) (up_ne (by omega)) (up_ne (by omega)) (up_ne (by omega)) (up_o (by omega)) (up_o (by omega)) (fun k a b => up_ne (by omega)), q4.k (up_ne (by omega)) (up_ne (by omega)) (up_ne (by omega)) (fun k a b => up_ne (by omega)), q5.k (up_ne (by omega)) (up_ne (by omega)), q6.k (up_nj (by omega)) (up_ne (by omega)) (up_o (by omega)) (fun k a b => up_ne (by omega))⟩
  · by_cases e : f = 0
    · subst e; rw [up_at, up_at]
    · rw [up_nj (by omega), up_nj (by omega)]; exact q1.1
  · by_cases e : f = 1
    · subst e; rw [up_at, up_at]
    · rw [up_nj (by omega), up_nj (by omega)]; exact q1.2.1
  · rw [up_o (by omega), up_o (by omega), up_o (by omega), up_o (by omega), up_o (by omega), up_o (by omega), up_o (by omega), up_o (by omega), up_o (by omega), up_o (by omega)]
    exact q1.2.2 i i0 i1
/-- nothing can be undone any more -/
theorem RX.forget {α σ : St} (q : RX α σ) : RX (up α 75 7 0) (up σ 19 4 0) := by
  obtain ⟨q1, q2, q3, q4, q5, q6⟩ := q
  exact ⟨q1.k rfl rfl rfl rfl rfl rfl rfl rfl rfl (fun k a b => up_ne (by omega)), q2.k rfl rfl rfl rfl, q3.z rfl rfl rfl, q4.k rfl rfl rfl (fun k a b => up_ne (by omega)), q5.k rfl rfl, q6.k rfl rfl rfl (fun k a b => up_ne (by omega))⟩
theorem RX.add {α σ : St} {x y z : Int} (q : RX α σ) : RX (addLine α 75 x y z) (addLine σ 1 x y z) := by
  have e1 := q.1.2.1
  unfold addLine
  rw [e1]
  exact (((((q.row (c := 1) (by decide)).row (c := 2) (by decide)).row (c := 3) (by decide)).row (c := 4) (by decide)).row (c := 5) (by decide)).num (Or.inr rfl)
theorem RX.fill {α σ : St} {k : Nat} {n : Int} {f : Int → Int} (q : RX α σ) (hk : k = 73 ∨ k = 74 ∨ 47 ≤ k ∧ k ≤ 61 ∨ 64 ≤ k ∧ k ≤ 65) : RX α (fill σ k n f) := RX_c (fun k' h' => fill_r (by unfold xP at h'; omega)) q
theorem RX.rest {α σ : St} (q : RX α σ) (hu : 1 ≤ α 75 7 ∧ α 75 7 ≤ 8) : RX (nx_undo α) (restS σ) := by
  obtain ⟨q1, q2, q3, q4, q5, q6⟩ := q
  obtain ⟨p1, p2, p3, p4⟩ := q3
  have hm := Int.emod_lt_of_pos (σ 19 3 + 7) (show (0:Int) < 8 by decide)
  have hm0 := Int.emod_nonneg (σ 19 3 + 7) (show (8:Int) ≠ 0 by decide)
  have ha : nx_undo α = fun k j => if k = 75 ∧ j = 7 then α 75 7 - 1 else if k = 76 ∧ 0 ≤ j ∧ j < 8 then α 81 (8 * (α 75 7 - 1) + j) else if k = 77 ∧ 0 ≤ j ∧ j < 8 then α 82 (8 * (α 75 7 - 1) + j) else if k = 80 ∧ 0 ≤ j ∧ j < 8 then α 83 (8 * (α 75 7 - 1) + j) else α k j := by
    unfold nx_undo
    rw [if_neg (by omega)]
  have hf : ∀ j : Int, j ≠ 7 → nx_undo α 75 j = α 75 j := by
    intro j hj
    rw [ha]
    dsimp only
    rw [if_neg (by omega), if_neg (by omega), if_neg (by omega), if_neg (by omega)]
  have hr : ∀ k : Nat, k ≠ 75 ∧ k ≠ 76 ∧ k ≠ 77 ∧ k ≠ 80 → nx_undo α k = α k := by
    intro k hk
    funext j
    rw [ha]
    dsimp only
    rw [if_neg (by omega), if_neg (by omega), if_neg (by omega), if_neg (by omega)]
  have sr : ∀ k : Nat, k ≠ 19 ∧ k ≠ 2 ∧ k ≠ 3 ∧ k ≠ 6 → restS σ k = σ k := by
    intro k hk
    unfold restS
    rw [cpy_r (by omega), cpy_r (by omega), cpy_r (by omega), up_ne (by omega), up_ne (by omega)]
  have s3 : restS σ 19 3 = (σ 19 3 + 7) % 8 := by
    unfold restS
    rw [cpy_o (by omega), cpy_o (by omega), cpy_o (by omega), up_nj (by decide), up_at]
  have s4 : restS σ 19 4 = α 75 7 - 1 := by
    unfold restS
    rw [cpy_o (by omega), cpy_o (by omega), cpy_o (by omega), up_at, p1]
  have a7 : nx_undo α 75 7 = α 75 7 - 1 := by
    rw [ha]
    dsimp only
    rw [if_pos ⟨rfl, rfl⟩]
  refine ⟨⟨?_, ?_, fun i i0 i1 => ?_⟩, q2.k (hf _ (by decide)) (hr _ (by decide)) (by rw [sr _ (by decide)]) (sr _ (by decide)), ?_, q4.k (hr _ (by decide)) (hr _ (by decide)) (sr _ (by decide)) (fun k a b => sr _ (by omega)), q5.k (hr _ (by decide)) (sr _ (by decide)), q6.k (hf _ (by decide)) (hr _ (by decide)) (by rw [sr _ (by decide)]) (fun k a b => sr _ (by omega))⟩
  · rw [hf _ (by decide), sr _ (by decide)]; exact q1.1
  · rw [hf _ (by decide), sr _ (by decide)]; exact q1.2.1
  · obtain ⟨h1, h2, h3, h4, h5⟩ := q1.2.2 i i0 i1
    have hz := p4 (α 75 7 - 1) (by omega) (by omega) i i0 i1
    rw [show (σ 19 3 + 8 - α 75 7 + (α 75 7 - 1)) % 8 = (σ 19 3 + 7) % 8 by omega] at hz
    refine ⟨?_, ?_, ?_, ?_, ?_⟩
    · show restS σ 2 i = nx_undo α 76 i
      unfold restS
      rw [cpy_o (by omega), cpy_o (by omega), cpy_i (by omega), up_o (by omega), up_o (by omega), ha]
      dsimp only
      rw [if_neg (by omega), if_pos (by omega), show 0 + (i - 0) = i by omega]
      exact hz.1
    · show restS σ 3 i = nx_undo α 77 i
      unfold restS
      rw [cpy_o (by omega), cpy_i (by omega), cpy_o (by omega), up_o (by omega), up_o (by omega), ha]
      dsimp only
      rw [if_neg (by omega), if_neg (by omega), if_pos (by omega), show 0 + (i - 0) = i by omega]
      exact hz.2.1
    · show restS σ 4 i = nx_undo α 78 i
      rw [sr _ (by decide), hr _ (by decide)]; exact h3
    · show restS σ 5 i = nx_undo α 79 i
      rw [sr _ (by decide), hr _ (by decide)]; exact h4
    · show restS σ 6 i = nx_undo α 80 i
      unfold restS
      rw [cpy_i (by omega), cpy_o (by omega), cpy_o (by omega), up_o (by omega), up_o (by omega), ha]
      dsimp only
      rw [if_neg (by omega), if_neg (by omega), if_neg (by omega), if_pos (by omega), show 0 + (i - 0) = i by omega]
      exact hz.2.2
  · refine ⟨s4.trans a7.symm, by rw [s3]; omega, by rw [s3]; omega, fun j j0 j1 i i0 i1 => ?_⟩
    rw [s3, a7, hr _ (by decide), hr _ (by decide), hr _ (by decide)]
    rw [a7] at j1
    have hx : ((σ 19 3 + 7) % 8 + 8 - (α 75 7 - 1) + j) % 8 = (σ 19 3 + 8 - α 75 7 + j) % 8 := by omega
    rw [hx]
    have hq := p4 j j0 (by omega) i i0 i1
    have km := Int.emod_lt_of_pos (σ 19 3 + 8 - α 75 7 + j) (show (0:Int) < 8 by decide)
    have km0 := Int.emod_nonneg (σ 19 3 + 8 - α 75 7 + j) (show (8:Int) ≠ 0 by decide)
    rw [sr _ (by omega), sr _ (by omega), sr _ (by omega)]
    exact hq
